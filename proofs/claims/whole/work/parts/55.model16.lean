/-! ===== the other one: count ===== -/
def g_days (M : fp_M) : Nat → Int32
  | 0 => 0
  | n + 1 => g_days M n + M 50 (5 + 6 * n + 3)
def g_held (M : fp_M) : Nat → Int32
  | 0 => 0
  | n + 1 => g_held M n + (if 0 ≤ M 50 (53 + n) then 1 else 0)
theorem g_p8 {c : Nat} (h : c ≤ 8) : 2 ^ c ≤ 256 := Nat.le_trans (Nat.pow_le_pow_right (by decide) h) (by decide)
def sg_count (M : fp_M) (c : Nat) (w : Int32) : Int32 × fp_M := if w = 0 then (M 50 1, M) else if w = 1 then (M 50 0, M) else if w = 2 then (k_bc (nI (g_con M (M 50 1 + 0) c)), M) else if w = 3 then (k_bc (nI (g_str M c)), M) else if w = 4 then (g_days M c, M) else if w = 5 then (M 49 6, M) else if w = 6 then (M 50 4, M) else if w = 7 then (g_held M 10, M) else (-1000001, g_fd M 0)
theorem lp_X6_count4 {X : fp_X} {M : fp_M} {c : Nat} {w : Int32} (hw : g_wf M c) : ∀ (n i : Nat), i + n = c → fp_W X mX6_count 81 [some (.ref 49), some (.int w), some (.int (g_days M i)), some (.int (nI i))] [] fp_sh M 0 0 (fun r s m => r = some (.int (g_days M c)) ∧ s = fp_sh ∧ m = M) := by
  intro n
  induction n with
  | zero =>
    intro i hi 
    have h8 := hw.1
    have ti : (nI i).toInt = (i : Int) := nI_toInt (by omega)
    have tc : (M 50 0).toInt = (c : Int) := by rw [hw.2.1]; exact nI_toInt (by omega)
    refine r_iloadn dX6_count_81 rfl ?_
    refine r_aloadn dX6_count_82 rfl (by decide) ?_
    refine r_getfr dX6_count_83 kf_RX6_7 rfl rfl ?_
    refine r_ic (0) dX6_count_86 ?_
    refine r_ialdL dX6_count_87 rfl rfl (by decide) ?_
    refine r_icmp_ge 106 dX6_count_88 (fun h88 => ?_) (fun h88 => ?_)
    · refine r_iloadn dX6_count_106 rfl ?_
      exact r_iret dX6_count_107 ⟨by rw [show i = c by omega], rfl, rfl⟩
    · exfalso; simp only [Int32.le_iff_toInt_le, Int32.lt_iff_toInt_lt, Int32.reduceToInt] at h88; omega
  | succ n ih =>
    intro i hi 
    have h8 := hw.1
    have ti : (nI i).toInt = (i : Int) := nI_toInt (by omega)
    have tc : (M 50 0).toInt = (c : Int) := by rw [hw.2.1]; exact nI_toInt (by omega)
    refine r_iloadn dX6_count_81 rfl ?_
    refine r_aloadn dX6_count_82 rfl (by decide) ?_
    refine r_getfr dX6_count_83 kf_RX6_7 rfl rfl ?_
    refine r_ic (0) dX6_count_86 ?_
    refine r_ialdL dX6_count_87 rfl rfl (by decide) ?_
    refine r_icmp_ge 106 dX6_count_88 (fun h88 => ?_) (fun h88 => ?_)
    · exfalso; simp only [Int32.le_iff_toInt_le, Int32.lt_iff_toInt_lt, Int32.reduceToInt] at h88; omega
    · refine r_iloadn dX6_count_91 rfl ?_
      refine r_aloadn dX6_count_92 rfl (by decide) ?_
      refine r_iloadn dX6_count_93 rfl ?_
      refine r_ic (3) dX6_count_94 ?_
      refine c_V2 (μz := mX6_its) dX6_count_95 kl_RX6_51 mv_X6_its rfl (ok_X6_its (i := i) (j := 3) rfl rfl (by omega) (by decide)) ?_
      refine r_iadd dX6_count_98 ?_
      refine r_istore2 dX6_count_99 ?_
      refine r_iinc3 (1) dX6_count_100 ?_
      refine r_goto 81 dX6_count_103 ?_
      rw [nI_1]
      exact ih (i + 1) (by omega)

theorem lp_X6_count7 {X : fp_X} {M : fp_M} {w : Int32} : ∀ (n i : Nat), i + n = 10 → fp_W X mX6_count 122 [some (.ref 49), some (.int w), some (.int (g_held M i)), some (.int (nI i))] [] fp_sh M 0 0 (fun r s m => r = some (.int (g_held M 10)) ∧ s = fp_sh ∧ m = M) := by
  intro n
  induction n with
  | zero =>
    intro i hi 
    have ti : (nI i).toInt = (i : Int) := nI_toInt (by omega)
    refine r_iloadn dX6_count_122 rfl ?_
    refine r_bp (10) dX6_count_123 ?_
    refine r_icmp_ge 154 dX6_count_125 (fun h125 => ?_) (fun h125 => ?_)
    · refine r_iloadn dX6_count_154 rfl ?_
      exact r_iret dX6_count_155 ⟨by rw [show i = 10 by omega], rfl, rfl⟩
    · exfalso; simp only [Int32.le_iff_toInt_le, Int32.lt_iff_toInt_lt, Int32.reduceToInt] at h125; omega
  | succ n ih =>
    intro i hi 
    have ti : (nI i).toInt = (i : Int) := nI_toInt (by omega)
    refine r_iloadn dX6_count_122 rfl ?_
    refine r_bp (10) dX6_count_123 ?_
    refine r_icmp_ge 154 dX6_count_125 (fun h125 => ?_) (fun h125 => ?_)
    · exfalso; simp only [Int32.le_iff_toInt_le, Int32.lt_iff_toInt_lt, Int32.reduceToInt] at h125; omega
    · refine r_iloadn dX6_count_128 rfl ?_
      refine r_aloadn dX6_count_129 rfl (by decide) ?_
      refine r_getfr dX6_count_130 kf_RX6_7 rfl rfl ?_
      refine r_bp (53) dX6_count_133 ?_
      refine r_iloadn dX6_count_135 rfl ?_
      refine r_iadd dX6_count_136 ?_
      refine r_ialdL (j := 53 + i) dX6_count_137 rfl (nI_add 53 i) ⟨by omega, by decide⟩ ?_
      refine r_if_ge 145 dX6_count_138 (fun h138 => ?_) (fun h138 => ?_)
      · refine r_ic (1) dX6_count_145 ?_
        refine r_iadd dX6_count_146 ?_
        refine r_istore2 dX6_count_147 ?_
        refine r_iinc3 (1) dX6_count_148 ?_
        refine r_goto 122 dX6_count_151 ?_
        rw [nI_1]
        have e := ih (i + 1) (by omega)
        rw [show g_held M (i + 1) = g_held M i + 1 from by show g_held M i + (if 0 ≤ M 50 (53 + i) then 1 else 0) = _; rw [if_pos h138]] at e
        exact e
      · refine r_ic (0) dX6_count_141 ?_
        refine r_goto 146 dX6_count_142 ?_
        refine r_iadd dX6_count_146 ?_
        refine r_istore2 dX6_count_147 ?_
        refine r_iinc3 (1) dX6_count_148 ?_
        refine r_goto 122 dX6_count_151 ?_
        rw [nI_1]
        have e := ih (i + 1) (by omega)
        rw [show g_held M (i + 1) = g_held M i + 0 from by show g_held M i + (if 0 ≤ M 50 (53 + i) then 1 else 0) = _; rw [if_neg h138]] at e
        exact e

theorem ok_X6_count {X : fp_X} {M : fp_M} {c : Nat} {w : Int32} (hw : g_wf M c): fp_Ev X mX6_count [.ref 49, .int w] fp_sh M (some (.int (sg_count M c w).1)) (sg_count M c w).2 := by
  have p8 := g_p8 hw.1
  refine fp_ok [some (.ref 49), some (.int w), none, none] ?_
  refine r_ic (0) dX6_count_0 ?_
  refine r_istore2 dX6_count_1 ?_
  refine r_iloadn dX6_count_2 rfl ?_
  refine r_tsw [(0, 48), (1, 55), (2, 62), (3, 71), (4, 79), (5, 108), (6, 113), (7, 120)] 156 dX6_count_3 (And.intro (fun h3 => ?_) (And.intro (fun h3 => ?_) (And.intro (fun h3 => ?_) (And.intro (fun h3 => ?_) (And.intro (fun h3 => ?_) (And.intro (fun h3 => ?_) (And.intro (fun h3 => ?_) (And.intro (fun h3 => ?_) (trivial))))))))) (fun h3 => ?_)
  · refine r_aloadn dX6_count_48 rfl (by decide) ?_
    refine r_getfr dX6_count_49 kf_RX6_7 rfl rfl ?_
    refine r_ic (1) dX6_count_52 ?_
    refine r_ialdL dX6_count_53 rfl rfl (by decide) ?_
    exact r_iret dX6_count_54 ⟨by simp only [fp_tn] at h3; simp [sg_count, h3], rfl, by simp only [fp_tn] at h3; simp [sg_count, h3]⟩
  · refine r_aloadn dX6_count_55 rfl (by decide) ?_
    refine r_getfr dX6_count_56 kf_RX6_7 rfl rfl ?_
    refine r_ic (0) dX6_count_59 ?_
    refine r_ialdL dX6_count_60 rfl rfl (by decide) ?_
    exact r_iret dX6_count_61 ⟨by simp only [fp_tn] at h3; simp [sg_count, h3], rfl, by simp only [fp_tn] at h3; simp [sg_count, h3]⟩
  · refine r_aloadn dX6_count_62 rfl (by decide) ?_
    refine r_ic (0) dX6_count_63 ?_
    refine c_V1 (μz := mX6_countIn) dX6_count_64 kl_RX6_96 mv_X6_countIn rfl (ok_X6_countIn hw) ?_
    refine c_S1 (μz := mX6_many) dX6_count_67 kl_RX6_147 ms_X6_many (ok_X6_many (Nat.lt_of_lt_of_le (k_bn_lt _ c) p8)) ?_
    exact r_iret dX6_count_70 ⟨by simp only [fp_tn] at h3; simp [sg_count, h3], rfl, by simp only [fp_tn] at h3; simp [sg_count, h3]⟩
  · refine r_aloadn dX6_count_71 rfl (by decide) ?_
    refine c_V0 (μz := mX6_strucks) dX6_count_72 kl_RX6_61 mv_X6_strucks rfl (ok_X6_strucks hw) ?_
    refine c_S1 (μz := mX6_many) dX6_count_75 kl_RX6_147 ms_X6_many (ok_X6_many (Nat.lt_of_lt_of_le (k_bn_lt _ c) p8)) ?_
    exact r_iret dX6_count_78 ⟨by simp only [fp_tn] at h3; simp [sg_count, h3], rfl, by simp only [fp_tn] at h3; simp [sg_count, h3]⟩
  · refine r_ic (0) dX6_count_79 ?_
    refine r_istore3 dX6_count_80 ?_
    simp only [fp_tn] at h3
    rw [show sg_count M c w = (g_days M c, M) from by simp [sg_count, h3]]
    exact lp_X6_count4 hw c 0 (by omega)
  · refine r_aloadn dX6_count_108 rfl (by decide) ?_
    refine r_getfi dX6_count_109 kf_RX6_165 rfl rfl ?_
    exact r_iret dX6_count_112 ⟨by simp only [fp_tn] at h3; simp [sg_count, h3], rfl, by simp only [fp_tn] at h3; simp [sg_count, h3]⟩
  · refine r_aloadn dX6_count_113 rfl (by decide) ?_
    refine r_getfr dX6_count_114 kf_RX6_7 rfl rfl ?_
    refine r_ic (4) dX6_count_117 ?_
    refine r_ialdL dX6_count_118 rfl rfl (by decide) ?_
    exact r_iret dX6_count_119 ⟨by simp only [fp_tn] at h3; simp [sg_count, h3], rfl, by simp only [fp_tn] at h3; simp [sg_count, h3]⟩
  · refine r_ic (0) dX6_count_120 ?_
    refine r_istore3 dX6_count_121 ?_
    simp only [fp_tn] at h3
    rw [show sg_count M c w = (g_held M 10, M) from by simp [sg_count, h3]]
    exact lp_X6_count7 10 0 (by omega)
  · refine r_aloadn dX6_count_156 rfl (by decide) ?_
    refine r_ldc dX6_count_157 kc_RX6_37 ?_
    refine c_V1 (μz := mX6_finds) dX6_count_159 kl_RX6_47 mv_X6_finds rfl (ok_X6_finds (w := 0) (by decide) (by decide)) ?_
    exact r_iret dX6_count_162 ⟨by simp only [fp_tn] at h3; simp [sg_count, h3], rfl, by simp only [fp_tn] at h3; simp [sg_count, h3]⟩
