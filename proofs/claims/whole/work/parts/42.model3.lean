/-! ===== the other one's maps: what follows ===== -/
theorem g_and1 {s : Int32} (h : s = 0 ∨ s = 1) : s &&& 1 = 0 ∨ s &&& 1 = 1 := by
  rcases h with rfl | rfl
  · exact Or.inl rfl
  · exact Or.inr rfl
theorem g_and0 {s : Int32} (h : s = 0 ∨ s = 1) : s &&& 0 = 0 ∨ s &&& 0 = 1 := by
  rcases h with rfl | rfl
  · exact Or.inl rfl
  · exact Or.inl rfl
def g_cm (M : fp_M) (c : Nat) (set : Int32) : fp_M := g_fol (g_lay M c set)
theorem lp_X6_lays1 {X : fp_X} {set : Int32} {Post : fp_Q} : ∀ (n i : Nat), i + n = 64 → ∀ (M : fp_M), fp_W X mX6_lays 38 [some (.ref 49), some (.int set), some (.int (nI 64))] [] fp_sh (k_it g_c1 n i M) 0 0 Post → fp_W X mX6_lays 2 [some (.ref 49), some (.int set), some (.int (nI i))] [] fp_sh M 0 0 Post := by
  intro n
  induction n with
  | zero =>
    intro i hi M out
    have ti : (nI i).toInt = (i : Int) := nI_toInt (by omega)
    refine r_iloadn dX6_lays_2 rfl ?_
    refine r_bp (64) dX6_lays_3 ?_
    refine r_icmp_ge 38 dX6_lays_5 (fun h5 => ?_) (fun h5 => ?_)
    · rw [show i = 64 by omega]
      exact out
    · exfalso; simp only [Int32.le_iff_toInt_le, Int32.lt_iff_toInt_lt, Int32.reduceToInt] at h5; omega
  | succ n ih =>
    intro i hi M out
    have ti : (nI i).toInt = (i : Int) := nI_toInt (by omega)
    refine r_iloadn dX6_lays_2 rfl ?_
    refine r_bp (64) dX6_lays_3 ?_
    refine r_icmp_ge 38 dX6_lays_5 (fun h5 => ?_) (fun h5 => ?_)
    · exfalso; simp only [Int32.le_iff_toInt_le, Int32.lt_iff_toInt_lt, Int32.reduceToInt] at h5; omega
    · refine r_aloadn dX6_lays_8 rfl (by decide) ?_
      refine r_getfr dX6_lays_9 kf_RX6_34 rfl rfl ?_
      refine r_iloadn dX6_lays_12 rfl ?_
      refine r_iloadn dX6_lays_13 rfl ?_
      refine r_bp (8) dX6_lays_14 ?_
      refine r_idiv dX6_lays_16 (by decide) ?_
      refine r_iloadn dX6_lays_17 rfl ?_
      refine r_bp (8) dX6_lays_18 ?_
      refine r_irem dX6_lays_20 (by decide) ?_
      refine r_icmp_ne 28 dX6_lays_21 (fun h21 => ?_) (fun h21 => ?_)
      · refine r_sp (999) dX6_lays_28 ?_
        refine r_iastL (j := i) dX6_lays_31 rfl rfl ⟨by omega, by decide⟩ ?_
        refine r_iinc2 (1) dX6_lays_32 ?_
        refine r_goto 2 dX6_lays_35 ?_
        rw [nI_1]
        refine ih (i + 1) (by omega) _ ?_
        rw [k_it_s, show g_c1 i M = fp_wr M 58 i 999 from by unfold g_c1; rw [if_neg h21]] at out
        exact out
      · refine r_ic (0) dX6_lays_24 ?_
        refine r_goto 31 dX6_lays_25 ?_
        refine r_iastL (j := i) dX6_lays_31 rfl rfl ⟨by omega, by decide⟩ ?_
        refine r_iinc2 (1) dX6_lays_32 ?_
        refine r_goto 2 dX6_lays_35 ?_
        rw [nI_1]
        refine ih (i + 1) (by omega) _ ?_
        rw [k_it_s, show g_c1 i M = fp_wr M 58 i 0 from by unfold g_c1; rw [if_pos h21]] at out
        exact out
theorem lp_X6_lays {X : fp_X} {c : Nat} {set : Int32} : ∀ (n i : Nat), i + n = c → ∀ (M : fp_M), (g_wf M c) → fp_W X mX6_lays 40 [some (.ref 49), some (.int set), some (.int (nI i))] [] fp_sh M 0 0 (fun r s m => r = none ∧ s = fp_sh ∧ m = k_it (g_dr set) n i M) := by
  intro n
  induction n with
  | zero =>
    intro i hi M  hinv
    have h8 := hinv.1
    have ti : (nI i).toInt = (i : Int) := nI_toInt (by omega)
    have tc : (M 50 0).toInt = (c : Int) := by rw [hinv.2.1]; exact nI_toInt (by omega)
    refine r_iloadn dX6_lays_40 rfl ?_
    refine r_aloadn dX6_lays_41 rfl (by decide) ?_
    refine r_getfr dX6_lays_42 kf_RX6_7 rfl rfl ?_
    refine r_ic (0) dX6_lays_45 ?_
    refine r_ialdL dX6_lays_46 rfl rfl (by decide) ?_
    refine r_icmp_ge 108 dX6_lays_47 (fun h47 => ?_) (fun h47 => ?_)
    · exact r_vret dX6_lays_108 ⟨rfl, rfl, rfl⟩
    · exfalso; simp only [Int32.le_iff_toInt_le, Int32.lt_iff_toInt_lt, Int32.reduceToInt] at h47; omega
  | succ n ih =>
    intro i hi M  hinv
    have h8 := hinv.1
    have ti : (nI i).toInt = (i : Int) := nI_toInt (by omega)
    have tc : (M 50 0).toInt = (c : Int) := by rw [hinv.2.1]; exact nI_toInt (by omega)
    refine r_iloadn dX6_lays_40 rfl ?_
    refine r_aloadn dX6_lays_41 rfl (by decide) ?_
    refine r_getfr dX6_lays_42 kf_RX6_7 rfl rfl ?_
    refine r_ic (0) dX6_lays_45 ?_
    refine r_ialdL dX6_lays_46 rfl rfl (by decide) ?_
    refine r_icmp_ge 108 dX6_lays_47 (fun h47 => ?_) (fun h47 => ?_)
    · exfalso; simp only [Int32.le_iff_toInt_le, Int32.lt_iff_toInt_lt, Int32.reduceToInt] at h47; omega
    · refine r_iloadn dX6_lays_50 rfl ?_
      refine r_iloadn dX6_lays_51 rfl ?_
      refine r_ishr dX6_lays_52 ?_
      refine r_ic (1) dX6_lays_53 ?_
      refine r_iand dX6_lays_54 ?_
      refine r_ic (1) dX6_lays_55 ?_
      refine r_icmp_ne 102 dX6_lays_56 (fun h56 => ?_) (fun h56 => ?_)
      · refine r_iinc2 (1) dX6_lays_102 ?_
        refine r_goto 40 dX6_lays_105 ?_
        rw [nI_1, k_it_s, show g_dr set i M = M from by unfold g_dr; rw [if_neg h56]]
        exact ih (i + 1) (by omega) M hinv
      · obtain ⟨f, t, hf8, ht8, hf, ht, _⟩ := hinv.2.2 i (by omega)
        have ef : k_v (M 50 (5 + 6 * i + 1)) = f := by show (M 50 (5 + 6 * i + 1)).toNatClampNeg = f; rw [hf]; exact nI_clamp (by omega)
        have et : k_v (M 50 (5 + 6 * i + 2)) = t := by show (M 50 (5 + 6 * i + 2)).toNatClampNeg = t; rw [ht]; exact nI_clamp (by omega)
        refine r_aloadn dX6_lays_59 rfl (by decide) ?_
        refine r_aloadn dX6_lays_60 rfl (by decide) ?_
        refine r_iloadn dX6_lays_61 rfl ?_
        refine r_ic (1) dX6_lays_62 ?_
        refine c_V2 (μz := mX6_its) dX6_lays_63 kl_RX6_51 mv_X6_its rfl (ok_X6_its (i := i) (j := 1) rfl rfl (by omega) (by decide)) ?_
        refine r_aloadn dX6_lays_66 rfl (by decide) ?_
        refine r_iloadn dX6_lays_67 rfl ?_
        refine r_ic (2) dX6_lays_68 ?_
        refine c_V2 (μz := mX6_its) dX6_lays_69 kl_RX6_51 mv_X6_its rfl (ok_X6_its (i := i) (j := 2) rfl rfl (by omega) (by decide)) ?_
        refine r_aloadn dX6_lays_72 rfl (by decide) ?_
        refine r_iloadn dX6_lays_73 rfl ?_
        refine c_V1 (μz := mX6_mostOf) dX6_lays_74 kl_RX6_93 mv_X6_mostOf rfl (ok_X6_mostOf (by omega)) ?_
        refine c_V3v (μz := mX6_binds) dX6_lays_77 kl_RX6_110 mv_X6_binds rfl (ok_X6_binds (a := f) (b := t) hf ht hf8 ht8) ?_
        refine r_aloadn dX6_lays_80 rfl (by decide) ?_
        refine r_aloadn dX6_lays_81 rfl (by decide) ?_
        refine r_iloadn dX6_lays_82 rfl ?_
        refine r_ic (2) dX6_lays_83 ?_
        refine c_V2 (μz := mX6_its) dX6_lays_84 kl_RX6_51 mv_X6_its rfl (ok_X6_its (i := i) (j := 2) rfl rfl (by omega) (by decide)) ?_
        refine r_aloadn dX6_lays_87 rfl (by decide) ?_
        refine r_iloadn dX6_lays_88 rfl ?_
        refine r_ic (1) dX6_lays_89 ?_
        refine c_V2 (μz := mX6_its) dX6_lays_90 kl_RX6_51 mv_X6_its rfl (ok_X6_its (i := i) (j := 1) rfl rfl (by omega) (by decide)) ?_
        refine r_aloadn dX6_lays_93 rfl (by decide) ?_
        refine r_iloadn dX6_lays_94 rfl ?_
        refine c_V1 (μz := mX6_leastOf) dX6_lays_95 kl_RX6_90 mv_X6_leastOf rfl (ok_X6_leastOf (by omega)) ?_
        refine r_ineg dX6_lays_98 ?_
        refine c_V3v (μz := mX6_binds) dX6_lays_99 kl_RX6_110 mv_X6_binds rfl (ok_X6_binds (a := t) (b := f) (g_bind_50.trans ht) (g_bind_50.trans hf) ht8 hf8) ?_
        refine r_iinc2 (1) dX6_lays_102 ?_
        refine r_goto 40 dX6_lays_105 ?_
        have e : g_dr set i M = g_bind (g_bind M f t (g_most M i)) t f (-(g_least (g_bind M f t (g_most M i)) i)) := by
          unfold g_dr
          rw [if_pos h56, ef, et]
          simp only [g_least, g_bind_50]
        rw [nI_1, k_it_s, e]
        refine ih (i + 1) (by omega) _ ?_
        rw [← e]
        exact g_dr_wf hinv

theorem g_c1_wf {c : Nat} : ∀ n i (M : fp_M), g_wf M c → g_wf (k_it g_c1 n i M) c
  | 0, _, _, h => h
  | n + 1, i, M, h => g_c1_wf n (i + 1) (g_c1 i M) (h.w58 (by decide))
theorem ok_X6_lays {X : fp_X} {M : fp_M} {c : Nat} {set : Int32} (hw : g_wf M c): fp_Ev X mX6_lays [.ref 49, .int set] fp_sh M none (g_lay M c set) := by
  refine fp_ok [some (.ref 49), some (.int set), none] ?_
  refine r_ic (0) dX6_lays_0 ?_
  refine r_istore2 dX6_lays_1 ?_
  refine lp_X6_lays1 64 0 (by omega) M ?_
  refine r_ic (0) dX6_lays_38 ?_
  refine r_istore2 dX6_lays_39 ?_
  exact lp_X6_lays c 0 (by omega) _ (g_c1_wf 64 0 M hw)
theorem lp_X6_follows_in {X : fp_X} {b : Nat} {Post : fp_Q} (hb : b < 8) : ∀ (n k : Nat), k + n = 64 → ∀ (M : fp_M) (w3 : Option Value), (∀ w3 : Option Value, fp_W X mX6_follows 78 [some (.ref 49), some (.int (nI b)), some (.int (nI 64)), w3] [] fp_sh (k_it (g_fw b) n k M) 0 0 Post) → fp_W X mX6_follows 10 [some (.ref 49), some (.int (nI b)), some (.int (nI k)), w3] [] fp_sh M 0 0 Post := by
  intro n
  induction n with
  | zero =>
    intro k hk M w3 out
    have tk : (nI k).toInt = (k : Int) := nI_toInt (by omega)
    refine r_iloadn dX6_follows_10 rfl ?_
    refine r_bp (64) dX6_follows_11 ?_
    refine r_icmp_ge 78 dX6_follows_13 (fun h13 => ?_) (fun h13 => ?_)
    · rw [show k = 64 by omega]
      exact out _
    · exfalso; simp only [Int32.le_iff_toInt_le, Int32.lt_iff_toInt_lt, Int32.reduceToInt] at h13; omega
  | succ n ih =>
    intro k hk M w3 out
    have tk : (nI k).toInt = (k : Int) := nI_toInt (by omega)
    refine r_iloadn dX6_follows_10 rfl ?_
    refine r_bp (64) dX6_follows_11 ?_
    refine r_icmp_ge 78 dX6_follows_13 (fun h13 => ?_) (fun h13 => ?_)
    · exfalso; simp only [Int32.le_iff_toInt_le, Int32.lt_iff_toInt_lt, Int32.reduceToInt] at h13; omega
    · refine r_aloadn dX6_follows_16 rfl (by decide) ?_
      refine r_getfr dX6_follows_17 kf_RX6_34 rfl rfl ?_
      refine r_bp (8) dX6_follows_20 ?_
      refine r_iloadn dX6_follows_22 rfl ?_
      refine r_bp (8) dX6_follows_23 ?_
      refine r_idiv dX6_follows_25 (by decide) ?_
      refine r_imul dX6_follows_26 ?_
      refine r_iloadn dX6_follows_27 rfl ?_
      refine r_iadd dX6_follows_28 ?_
      refine r_ialdL (j := 8 * (k / 8) + b) dX6_follows_29 rfl (g_f1 k (by omega) b hb) ⟨by omega, by decide⟩ ?_
      refine r_aloadn dX6_follows_30 rfl (by decide) ?_
      refine r_getfr dX6_follows_31 kf_RX6_34 rfl rfl ?_
      refine r_bp (8) dX6_follows_34 ?_
      refine r_iloadn dX6_follows_36 rfl ?_
      refine r_imul dX6_follows_37 ?_
      refine r_iloadn dX6_follows_38 rfl ?_
      refine r_bp (8) dX6_follows_39 ?_
      refine r_irem dX6_follows_41 (by decide) ?_
      refine r_iadd dX6_follows_42 ?_
      refine r_ialdL (j := 8 * b + k % 8) dX6_follows_43 rfl (g_f2 k (by omega) b hb) ⟨by omega, by decide⟩ ?_
      refine r_iadd dX6_follows_44 ?_
      refine r_istore3 dX6_follows_45 ?_
      refine r_aloadn dX6_follows_46 rfl (by decide) ?_
      refine r_getfr dX6_follows_47 kf_RX6_34 rfl rfl ?_
      refine r_iloadn dX6_follows_50 rfl ?_
      refine r_iloadn dX6_follows_51 rfl ?_
      refine r_aloadn dX6_follows_52 rfl (by decide) ?_
      refine r_getfr dX6_follows_53 kf_RX6_34 rfl rfl ?_
      refine r_iloadn dX6_follows_56 rfl ?_
      refine r_ialdL (j := k) dX6_follows_57 rfl rfl ⟨by omega, by decide⟩ ?_
      refine r_icmp_ge 65 dX6_follows_58 (fun h58 => ?_) (fun h58 => ?_)
      · refine r_aloadn dX6_follows_65 rfl (by decide) ?_
        refine r_getfr dX6_follows_66 kf_RX6_34 rfl rfl ?_
        refine r_iloadn dX6_follows_69 rfl ?_
        refine r_ialdL (j := k) dX6_follows_70 rfl rfl ⟨by omega, by decide⟩ ?_
        refine r_iastL (j := k) dX6_follows_71 rfl rfl ⟨by omega, by decide⟩ ?_
        refine r_iinc2 (1) dX6_follows_72 ?_
        refine r_goto 10 dX6_follows_75 ?_
        rw [nI_1]
        refine ih (k + 1) (by omega) _ _ (fun w => ?_)
        have o := out w
        rw [k_it_s, show g_fw b k M = fp_wr M 58 k (M 58 k) from by unfold g_fw; rw [if_neg (Int32.not_lt.mpr h58)]] at o
        exact o
      · refine r_iloadn dX6_follows_61 rfl ?_
        refine r_goto 71 dX6_follows_62 ?_
        refine r_iastL (j := k) dX6_follows_71 rfl rfl ⟨by omega, by decide⟩ ?_
        refine r_iinc2 (1) dX6_follows_72 ?_
        refine r_goto 10 dX6_follows_75 ?_
        rw [nI_1]
        refine ih (k + 1) (by omega) _ _ (fun w => ?_)
        have o := out w
        rw [k_it_s, show g_fw b k M = fp_wr M 58 k (M 58 (8 * (k / 8) + b) + M 58 (8 * b + k % 8)) from by unfold g_fw; rw [if_pos (Int32.not_le.mp h58)]] at o
        exact o
theorem lp_X6_follows_out {X : fp_X} {Post : fp_Q} : ∀ (n b : Nat), b + n = 8 → ∀ (M : fp_M) (w2 w3 : Option Value), (∀ w2 w3 : Option Value, fp_W X mX6_follows 84 [some (.ref 49), some (.int (nI 8)), w2, w3] [] fp_sh (k_it (fun b M => k_it (g_fw b) 64 0 M) n b M) 0 0 Post) → fp_W X mX6_follows 2 [some (.ref 49), some (.int (nI b)), w2, w3] [] fp_sh M 0 0 Post := by
  intro n
  induction n with
  | zero =>
    intro b hb M w2 w3 out
    have tb : (nI b).toInt = (b : Int) := nI_toInt (by omega)
    refine r_iloadn dX6_follows_2 rfl ?_
    refine r_bp (8) dX6_follows_3 ?_
    refine r_icmp_ge 84 dX6_follows_5 (fun h5 => ?_) (fun h5 => ?_)
    · rw [show b = 8 by omega]
      exact out _ _
    · exfalso; simp only [Int32.le_iff_toInt_le, Int32.lt_iff_toInt_lt, Int32.reduceToInt] at h5; omega
  | succ n ih =>
    intro b hb M w2 w3 out
    have tb : (nI b).toInt = (b : Int) := nI_toInt (by omega)
    refine r_iloadn dX6_follows_2 rfl ?_
    refine r_bp (8) dX6_follows_3 ?_
    refine r_icmp_ge 84 dX6_follows_5 (fun h5 => ?_) (fun h5 => ?_)
    · exfalso; simp only [Int32.le_iff_toInt_le, Int32.lt_iff_toInt_lt, Int32.reduceToInt] at h5; omega
    · refine r_ic (0) dX6_follows_8 ?_
      refine r_istore2 dX6_follows_9 ?_
      refine lp_X6_follows_in (by omega) 64 0 (by omega) M _ (fun w => ?_)
      refine r_iinc1 (1) dX6_follows_78 ?_
      refine r_goto 2 dX6_follows_81 ?_
      rw [nI_1]
      exact ih (b + 1) (by omega) _ _ _ out
theorem lp_X6_follows3 {X : fp_X} {M : fp_M} : ∀ (n i : Nat), i + n = 8 → ∀ (s : Int32) (w3 : Option Value), (s = 0 ∨ s = 1) → fp_W X mX6_follows 88 [some (.ref 49), some (.int s), some (.int (nI i)), w3] [] fp_sh M 0 0 (fun r sh m => r = some (.int (k_it (fun t s => s &&& bi (0 ≤ M 58 (8 * t + t))) n i s)) ∧ sh = fp_sh ∧ m = M) := by
  intro n
  induction n with
  | zero =>
    intro i hi s  w3  hinv
    have ti : (nI i).toInt = (i : Int) := nI_toInt (by omega)
    refine r_iloadn dX6_follows_88 rfl ?_
    refine r_bp (8) dX6_follows_89 ?_
    refine r_icmp_ge 122 dX6_follows_91 (fun h91 => ?_) (fun h91 => ?_)
    · refine r_iloadn dX6_follows_122 rfl ?_
      exact r_iret dX6_follows_123 ⟨rfl, rfl, rfl⟩ rfl (k_nar01 hinv)
    · exfalso; simp only [Int32.le_iff_toInt_le, Int32.lt_iff_toInt_lt, Int32.reduceToInt] at h91; omega
  | succ n ih =>
    intro i hi s  w3  hinv
    have ti : (nI i).toInt = (i : Int) := nI_toInt (by omega)
    refine r_iloadn dX6_follows_88 rfl ?_
    refine r_bp (8) dX6_follows_89 ?_
    refine r_icmp_ge 122 dX6_follows_91 (fun h91 => ?_) (fun h91 => ?_)
    · exfalso; simp only [Int32.le_iff_toInt_le, Int32.lt_iff_toInt_lt, Int32.reduceToInt] at h91; omega
    · refine r_iloadn dX6_follows_94 rfl ?_
      refine r_aloadn dX6_follows_95 rfl (by decide) ?_
      refine r_getfr dX6_follows_96 kf_RX6_34 rfl rfl ?_
      refine r_bp (8) dX6_follows_99 ?_
      refine r_iloadn dX6_follows_101 rfl ?_
      refine r_imul dX6_follows_102 ?_
      refine r_iloadn dX6_follows_103 rfl ?_
      refine r_iadd dX6_follows_104 ?_
      refine r_ialdL (j := 8 * i + i) dX6_follows_105 rfl (g_8 i (by omega) i (by omega)) ⟨by omega, by decide⟩ ?_
      refine r_if_lt 113 dX6_follows_106 (fun h106 => ?_) (fun h106 => ?_)
      · refine r_ic (0) dX6_follows_113 ?_
        refine r_iand dX6_follows_114 ?_
        refine r_istore1 dX6_follows_115 ?_
        refine r_iinc2 (1) dX6_follows_116 ?_
        refine r_goto 88 dX6_follows_119 ?_
        rw [nI_1, show k_it (fun t s => s &&& bi (0 ≤ M 58 (8 * t + t))) (n + 1) i s = k_it (fun t s => s &&& bi (0 ≤ M 58 (8 * t + t))) n (i + 1) (s &&& 0) from by rw [k_it_s, bi_f (Int32.not_le.mpr h106)]]
        exact ih (i + 1) (by omega) _ _ (g_and0 hinv)
      · refine r_ic (1) dX6_follows_109 ?_
        refine r_goto 114 dX6_follows_110 ?_
        refine r_iand dX6_follows_114 ?_
        refine r_istore1 dX6_follows_115 ?_
        refine r_iinc2 (1) dX6_follows_116 ?_
        refine r_goto 88 dX6_follows_119 ?_
        rw [nI_1, show k_it (fun t s => s &&& bi (0 ≤ M 58 (8 * t + t))) (n + 1) i s = k_it (fun t s => s &&& bi (0 ≤ M 58 (8 * t + t))) n (i + 1) (s &&& 1) from by rw [k_it_s, bi_t (Int32.not_lt.mp h106)]]
        exact ih (i + 1) (by omega) _ _ (g_and1 hinv)

theorem ok_X6_follows {X : fp_X} {M : fp_M}  : fp_Ev X mX6_follows [.ref 49] fp_sh M (some (.int (g_ok (g_fol M)))) (g_fol M) := by
  refine fp_ok [some (.ref 49), none, none, none] ?_
  refine r_ic (0) dX6_follows_0 ?_
  refine r_istore1 dX6_follows_1 ?_
  refine lp_X6_follows_out 8 0 (by omega) M _ _ (fun w2 w3 => ?_)
  refine r_ic (1) dX6_follows_84 ?_
  refine r_istore1 dX6_follows_85 ?_
  refine r_ic (0) dX6_follows_86 ?_
  refine r_istore2 dX6_follows_87 ?_
  exact lp_X6_follows3 8 0 (by omega) 1 w3 (Or.inr rfl)
theorem ok_X6_canHold {X : fp_X} {M : fp_M} {c : Nat} {set : Int32} (hw : g_wf M c): fp_Ev X mX6_canHold [.ref 49, .int set] fp_sh M (some (.int (g_ok (g_cm M c set)))) (g_cm M c set) := by
  refine fp_ok [some (.ref 49), some (.int set)] ?_
  refine r_aloadn dX6_canHold_0 rfl (by decide) ?_
  refine r_iloadn dX6_canHold_1 rfl ?_
  refine c_V1v (μz := mX6_lays) dX6_canHold_2 kl_RX6_114 mv_X6_lays rfl (ok_X6_lays hw) ?_
  refine r_aloadn dX6_canHold_5 rfl (by decide) ?_
  refine c_V0 (μz := mX6_follows) dX6_canHold_6 kl_RX6_118 mv_X6_follows rfl ok_X6_follows ?_
  exact r_iret dX6_canHold_9 ⟨rfl, rfl, rfl⟩ rfl (k_nar01 (g_ok_01 _ 8 0 1 (Or.inr rfl)))
theorem ok_X6_isFitting {X : fp_X} {M : fp_M} {c : Nat} (hw : g_wf M c): fp_Ev X mX6_isFitting [.ref 49] fp_sh M (some (.int (g_ok (g_cm M c (nI (g_con M (M 50 1 + 0) c)))))) (g_cm M c (nI (g_con M (M 50 1 + 0) c))) := by
  refine fp_ok [some (.ref 49)] ?_
  refine r_aloadn dX6_isFitting_0 rfl (by decide) ?_
  refine r_aloadn dX6_isFitting_1 rfl (by decide) ?_
  refine r_ic (0) dX6_isFitting_2 ?_
  refine c_V1 (μz := mX6_countIn) dX6_isFitting_3 kl_RX6_96 mv_X6_countIn rfl (ok_X6_countIn hw) ?_
  refine c_V1 (μz := mX6_canHold) dX6_isFitting_6 kl_RX6_122 mv_X6_canHold rfl (ok_X6_canHold hw) ?_
  exact r_iret dX6_isFitting_9 ⟨rfl, rfl, rfl⟩ rfl (k_nar01 (g_ok_01 _ 8 0 1 (Or.inr rfl)))
