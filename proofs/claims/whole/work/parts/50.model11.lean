/-! ===== the other one: implied ===== -/
abbrev g_impP (M : fp_M) (c : Nat) (set : Int32) (i : Nat) : Prop := g_wout M c set i ∧ (g_cm M c (k_wo set i)) 58 (8 * k_v (M 50 (5 + 6 * i + 1)) + k_v (M 50 (5 + 6 * i + 2))) ≤ g_most M i ∧ g_least M i ≤ -((g_cm M c (k_wo set i)) 58 (8 * k_v (M 50 (5 + 6 * i + 2)) + k_v (M 50 (5 + 6 * i + 1))))
def g_imp (M : fp_M) (c : Nat) (set : Int32) (n : Nat) : Nat := k_bn (fun i => decide (g_impP M c set i)) n
def sg_implied (M : fp_M) (c : Nat) : Int32 × fp_M := if g_hold M c (g_cn M c) then (nI (g_imp M c (g_cn M c) c), M) else (-1000004, g_fd M 3)
theorem lp_X6_implied {X : fp_X} {M : fp_M} {c : Nat} {set : Int32} (hw : g_wf M c) : ∀ (n i : Nat), i + n = c → ∀ (N : fp_M) (w4 : Option Value) (w5 : Option Value), (g_e M N) → fp_W X mX6_implied 25 [some (.ref 49), some (.int set), some (.int (nI (g_imp M c set i))), some (.int (nI i)), w4, w5] [] fp_sh N 0 0 (fun r s m => r = some (.int (nI (g_imp M c set c))) ∧ s = fp_sh ∧ g_e M m) := by
  intro n
  induction n with
  | zero =>
    intro i hi N  w4  w5  hinv
    have h8 := hw.1
    have ti : (nI i).toInt = (i : Int) := nI_toInt (by omega)
    have tc : (N 50 0).toInt = (c : Int) := by rw [hinv.r50, hw.2.1]; exact nI_toInt (by omega)
    refine r_iloadn dX6_implied_25 rfl ?_
    refine r_aloadn dX6_implied_26 rfl (by decide) ?_
    refine r_getfr dX6_implied_27 kf_RX6_7 rfl rfl ?_
    refine r_ic (0) dX6_implied_30 ?_
    refine r_ialdL dX6_implied_31 rfl rfl (by decide) ?_
    refine r_icmp_ge 141 dX6_implied_32 (fun h32 => ?_) (fun h32 => ?_)
    · refine r_iloadn dX6_implied_141 rfl ?_
      exact r_iret dX6_implied_142 ⟨by rw [show i = c by omega], rfl, hinv⟩
    · exfalso; simp only [Int32.le_iff_toInt_le, Int32.lt_iff_toInt_lt, Int32.reduceToInt] at h32; omega
  | succ n ih =>
    intro i hi N  w4  w5  hinv
    have h8 := hw.1
    have ti : (nI i).toInt = (i : Int) := nI_toInt (by omega)
    have tc : (N 50 0).toInt = (c : Int) := by rw [hinv.r50, hw.2.1]; exact nI_toInt (by omega)
    refine r_iloadn dX6_implied_25 rfl ?_
    refine r_aloadn dX6_implied_26 rfl (by decide) ?_
    refine r_getfr dX6_implied_27 kf_RX6_7 rfl rfl ?_
    refine r_ic (0) dX6_implied_30 ?_
    refine r_ialdL dX6_implied_31 rfl rfl (by decide) ?_
    refine r_icmp_ge 141 dX6_implied_32 (fun h32 => ?_) (fun h32 => ?_)
    · exfalso; simp only [Int32.le_iff_toInt_le, Int32.lt_iff_toInt_lt, Int32.reduceToInt] at h32; omega
    · refine r_iloadn dX6_implied_35 rfl ?_
      refine r_iloadn dX6_implied_36 rfl ?_
      refine r_ishr dX6_implied_37 ?_
      refine r_ic (1) dX6_implied_38 ?_
      refine r_iand dX6_implied_39 ?_
      refine r_ic (1) dX6_implied_40 ?_
      refine r_icmp_ne 135 dX6_implied_41 (fun h41 => ?_) (fun h41 => ?_)
      · refine r_iinc3 (1) dX6_implied_135 ?_
        refine r_goto 25 dX6_implied_138 ?_
        rw [nI_1, ← (show (g_imp M c set (i + 1)) = (g_imp M c set i) from k_bn_no (decide_eq_false (fun q => h41 q.1.1)))]
        exact ih (i + 1) (by omega) _ _ _ hinv
      · refine r_aloadn dX6_implied_44 rfl (by decide) ?_
        refine r_iloadn dX6_implied_45 rfl ?_
        refine r_ic (1) dX6_implied_46 ?_
        refine r_iloadn dX6_implied_47 rfl ?_
        refine r_ishl dX6_implied_48 ?_
        refine r_ic (-1) dX6_implied_49 ?_
        refine r_ixor dX6_implied_50 ?_
        refine r_iand dX6_implied_51 ?_
        refine c_V1 (μz := mX6_canHold) dX6_implied_52 kl_RX6_122 mv_X6_canHold rfl (ok_X6_canHold (hinv.wf hw)) ?_
        rw [g_cm_eq hinv]
        refine r_if_eq 135 dX6_implied_55 (fun h55 => ?_) (fun h55 => ?_)
        · refine r_iinc3 (1) dX6_implied_135 ?_
          refine r_goto 25 dX6_implied_138 ?_
          rw [nI_1, ← (show (g_imp M c set (i + 1)) = (g_imp M c set i) from k_bn_no (decide_eq_false (fun q => q.1.2 h55)))]
          exact ih (i + 1) (by omega) _ _ _ (g_cm_e (set := k_wo set i) hw)
        · have er := (g_cm_e (set := k_wo set i) hw).r50
          have hwc := (g_cm_e (set := k_wo set i) hw).wf hw
          obtain ⟨f, t, hf8, ht8, hf, ht, _⟩ := hw.2.2 i (by omega)
          have ef : k_v (M 50 (5 + 6 * i + 1)) = f := by show (M 50 (5 + 6 * i + 1)).toNatClampNeg = f; rw [hf]; exact nI_clamp (by omega)
          have et : k_v (M 50 (5 + 6 * i + 2)) = t := by show (M 50 (5 + 6 * i + 2)).toNatClampNeg = t; rw [ht]; exact nI_clamp (by omega)
          refine r_bp (8) dX6_implied_58 ?_
          refine r_aloadn dX6_implied_60 rfl (by decide) ?_
          refine r_iloadn dX6_implied_61 rfl ?_
          refine r_ic (1) dX6_implied_62 ?_
          refine c_V2 (μz := mX6_its) dX6_implied_63 kl_RX6_51 mv_X6_its rfl (ok_X6_its (i := i) (j := 1) rfl rfl (by omega) (by decide)) ?_
          refine r_imul dX6_implied_66 ?_
          refine r_aloadn dX6_implied_67 rfl (by decide) ?_
          refine r_iloadn dX6_implied_68 rfl ?_
          refine r_ic (2) dX6_implied_69 ?_
          refine c_V2 (μz := mX6_its) dX6_implied_70 kl_RX6_51 mv_X6_its rfl (ok_X6_its (i := i) (j := 2) rfl rfl (by omega) (by decide)) ?_
          refine r_iadd dX6_implied_73 ?_
          refine r_istore4 dX6_implied_74 ?_
          refine r_bp (8) dX6_implied_76 ?_
          refine r_aloadn dX6_implied_78 rfl (by decide) ?_
          refine r_iloadn dX6_implied_79 rfl ?_
          refine r_ic (2) dX6_implied_80 ?_
          refine c_V2 (μz := mX6_its) dX6_implied_81 kl_RX6_51 mv_X6_its rfl (ok_X6_its (i := i) (j := 2) rfl rfl (by omega) (by decide)) ?_
          refine r_imul dX6_implied_84 ?_
          refine r_aloadn dX6_implied_85 rfl (by decide) ?_
          refine r_iloadn dX6_implied_86 rfl ?_
          refine r_ic (1) dX6_implied_87 ?_
          refine c_V2 (μz := mX6_its) dX6_implied_88 kl_RX6_51 mv_X6_its rfl (ok_X6_its (i := i) (j := 1) rfl rfl (by omega) (by decide)) ?_
          refine r_iadd dX6_implied_91 ?_
          refine r_istore5 dX6_implied_92 ?_
          refine r_iloadn dX6_implied_94 rfl ?_
          refine r_aloadn dX6_implied_95 rfl (by decide) ?_
          refine r_getfr dX6_implied_96 kf_RX6_34 rfl rfl ?_
          refine r_iload dX6_implied_99 rfl ?_
          refine r_ialdL (j := 8 * f + t) dX6_implied_101 rfl (by rw [er, hf, ht]; exact g_8 f hf8 t ht8) ⟨by omega, by decide⟩ ?_
          refine r_aloadn dX6_implied_102 rfl (by decide) ?_
          refine r_iloadn dX6_implied_103 rfl ?_
          refine c_V1 (μz := mX6_mostOf) dX6_implied_104 kl_RX6_93 mv_X6_mostOf rfl (ok_X6_mostOf (by omega)) ?_
          rw [show g_most (g_cm M c (k_wo set i)) i = g_most M i from by simp only [g_most, er]]
          refine r_icmp_gt 132 dX6_implied_107 (fun h107 => ?_) (fun h107 => ?_)
          · refine r_ic (0) dX6_implied_132 ?_
            refine r_ior dX6_implied_133 ?_
            refine r_istore2 dX6_implied_134 ?_
            refine r_iinc3 (1) dX6_implied_135 ?_
            refine r_goto 25 dX6_implied_138 ?_
            rw [nI_1, Int32.or_zero, ← (show (g_imp M c set (i + 1)) = (g_imp M c set i) from k_bn_no (decide_eq_false (fun q => by have q2 := q.2.1; rw [ef, et] at q2; exact absurd h107 (Int32.not_lt.mpr q2))))]
            exact ih (i + 1) (by omega) _ _ _ (g_cm_e (set := k_wo set i) hw)
          · refine r_aloadn dX6_implied_110 rfl (by decide) ?_
            refine r_getfr dX6_implied_111 kf_RX6_34 rfl rfl ?_
            refine r_iload dX6_implied_114 rfl ?_
            refine r_ialdL (j := 8 * t + f) dX6_implied_116 rfl (by rw [er, hf, ht]; exact g_8 t ht8 f hf8) ⟨by omega, by decide⟩ ?_
            refine r_ineg dX6_implied_117 ?_
            refine r_aloadn dX6_implied_118 rfl (by decide) ?_
            refine r_iloadn dX6_implied_119 rfl ?_
            refine c_V1 (μz := mX6_leastOf) dX6_implied_120 kl_RX6_90 mv_X6_leastOf rfl (ok_X6_leastOf (by omega)) ?_
            rw [show g_least (g_cm M c (k_wo set i)) i = g_least M i from by simp only [g_least, er]]
            refine r_icmp_lt 132 dX6_implied_123 (fun h123 => ?_) (fun h123 => ?_)
            · refine r_ic (0) dX6_implied_132 ?_
              refine r_ior dX6_implied_133 ?_
              refine r_istore2 dX6_implied_134 ?_
              refine r_iinc3 (1) dX6_implied_135 ?_
              refine r_goto 25 dX6_implied_138 ?_
              rw [nI_1, Int32.or_zero, ← (show (g_imp M c set (i + 1)) = (g_imp M c set i) from k_bn_no (decide_eq_false (fun q => by have q2 := q.2.2; rw [ef, et] at q2; exact absurd h123 (Int32.not_lt.mpr q2))))]
              exact ih (i + 1) (by omega) _ _ _ (g_cm_e (set := k_wo set i) hw)
            · refine r_ic (1) dX6_implied_126 ?_
              refine r_iloadn dX6_implied_127 rfl ?_
              refine r_ishl dX6_implied_128 ?_
              refine r_goto 133 dX6_implied_129 ?_
              refine r_ior dX6_implied_133 ?_
              refine r_istore2 dX6_implied_134 ?_
              refine r_iinc3 (1) dX6_implied_135 ?_
              refine r_goto 25 dX6_implied_138 ?_
              have hp : g_impP M c set i := by
                refine ⟨⟨h41, h55⟩, ?_, ?_⟩
                · rw [ef, et]; exact Int32.not_lt.mp h107
                · rw [ef, et]; exact Int32.not_lt.mp h123
              rw [nI_1, show nI (g_imp M c set i) ||| _ = nI (g_imp M c set (i + 1)) from k_bn_or (by omega) (decide_eq_true hp)]
              exact ih (i + 1) (by omega) _ _ _ (g_cm_e (set := k_wo set i) hw)

theorem ok_X6_implied {X : fp_X} {M : fp_M} {c : Nat} (hw : g_wf M c) : fp_Ok X mX6_implied [.ref 49] fp_sh M (fun r s m => r = some (.int (sg_implied M c).1) ∧ s = fp_sh ∧ g_e (sg_implied M c).2 m) := by
  refine fp_ok [some (.ref 49), none, none, none, none, none] ?_
  refine r_aloadn dX6_implied_0 rfl (by decide) ?_
  refine r_ic (0) dX6_implied_1 ?_
  refine c_V1 (μz := mX6_countIn) dX6_implied_2 kl_RX6_96 mv_X6_countIn rfl (ok_X6_countIn hw) ?_
  refine r_istore1 dX6_implied_5 ?_
  refine r_aloadn dX6_implied_6 rfl (by decide) ?_
  refine r_iloadn dX6_implied_7 rfl ?_
  refine c_V1 (μz := mX6_canHold) dX6_implied_8 kl_RX6_122 mv_X6_canHold rfl (ok_X6_canHold hw) ?_
  refine r_if_ne 21 dX6_implied_11 (fun h11 => ?_) (fun h11 => ?_)
  · refine r_ic (0) dX6_implied_21 ?_
    refine r_istore2 dX6_implied_22 ?_
    refine r_ic (0) dX6_implied_23 ?_
    refine r_istore3 dX6_implied_24 ?_
    unfold sg_implied
    rw [if_pos h11]
    exact lp_X6_implied hw c 0 (by omega) _ _ _ (g_cm_e hw)
  · refine r_aloadn dX6_implied_14 rfl (by decide) ?_
    refine r_ldc dX6_implied_15 kc_RX6_46 ?_
    refine c_V1 (μz := mX6_finds) dX6_implied_17 kl_RX6_47 mv_X6_finds rfl (ok_X6_finds (w := 3) (by decide) (by decide)) ?_
    exact r_iret dX6_implied_20 ⟨by unfold sg_implied; rw [if_neg (fun q => q h11)], rfl, by unfold sg_implied; rw [if_neg (fun q => q h11)]; exact (g_cm_e hw).fd⟩
