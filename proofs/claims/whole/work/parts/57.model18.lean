/-! ===== the other one: guesses ===== -/
/-- what counts can hold -/
abbrev g_fit (B : fp_M) (c : Nat) : Prop := g_hold B c (g_cn B c)
theorem g_fit_e {B N : fp_M} {c : Nat} (h : g_e B N) : g_cm N c (nI (g_con N (N 50 1 + 0) c)) = g_cm B c (g_cn B c) := by
  rw [h.r50, g_con_eq h, g_cm_eq h]
theorem g_e.wr50 {M N : fp_M} {j : Nat} {a v : Int32} (h : g_e (fp_wr M 50 j a) N) : g_e (fp_wr M 50 j v) (fp_wr N 50 j v) := by
  intro k i q
  have e := h k i q
  unfold fp_wr at e ⊢
  by_cases h2 : k = 50 ∧ i = j
  · rw [if_pos h2, if_pos h2]
  · rw [if_neg h2] at e
    rw [if_neg h2, if_neg h2, e]
theorem g_e.at50 {M N : fp_M} {j : Nat} {a : Int32} (h : g_e (fp_wr M 50 j a) N) : N 50 j = a := (h 50 j (fun q => absurd q.1 (by decide))).trans fp_wr_eq
theorem fp_wr_same (M : fp_M) (k j : Nat) : fp_wr M k j (M k j) = M := by
  funext k' j'
  unfold fp_wr
  by_cases h : k' = k ∧ j' = j
  · rw [if_pos h, h.1, h.2]
  · rw [if_neg h]
theorem g_e.back {M N : fp_M} {j : Nat} {a : Int32} (h : g_e (fp_wr M 50 j a) N) : g_e M (fp_wr N 50 j (M 50 j)) := by
  have e := h.wr50 (v := M 50 j)
  rw [fp_wr_same] at e
  exact e
theorem g_wf.at {M : fp_M} {c l j : Nat} {v : Int32} (h : g_wf M c) (hj : j = 0 ∨ j = 3) : g_wf (fp_wr M 50 (5 + 6 * l + j) v) c := by
  have e : ∀ i, ¬ i = 5 + 6 * l + j → fp_wr M 50 (5 + 6 * l + j) v 50 i = M 50 i := fun i hi => fp_wr_ne2 hi
  obtain ⟨h1, h2, h3⟩ := h
  refine ⟨h1, (e 0 (by omega)).trans h2, fun i hi => ?_⟩
  obtain ⟨f, t, a1, a2, a3, a4, a5⟩ := h3 i hi
  exact ⟨f, t, a1, a2, (e _ (by omega)).trans a3, (e _ (by omega)).trans a4, by rw [e _ (by omega)]; exact a5⟩
theorem g_wf.at2 {M : fp_M} {c : Nat} {v : Int32} (h : g_wf M c) : g_wf (fp_wr M 50 2 v) c := by
  have e : ∀ i, ¬ i = 2 → fp_wr M 50 2 v 50 i = M 50 i := fun i hi => fp_wr_ne2 hi
  obtain ⟨h1, h2, h3⟩ := h
  refine ⟨h1, (e 0 (by omega)).trans h2, fun i hi => ?_⟩
  obtain ⟨f, t, a1, a2, a3, a4, a5⟩ := h3 i hi
  exact ⟨f, t, a1, a2, (e _ (by omega)).trans a3, (e _ (by omega)).trans a4, by rw [e _ (by omega)]; exact a5⟩
def g_kinds (M : fp_M) (c l : Nat) (n : Nat) : Nat := k_bn (fun i => decide (g_fit (fp_wr M 50 (5 + 6 * l + 0) (nI i)) c)) n
def g_dayn (M : fp_M) (c l : Nat) (i : Nat) (z : Int32) : Int32 := if g_fit (fp_wr M 50 (5 + 6 * l + 3) (nI i - 99)) c then z + 1 else z + 0
def g_dayf (M : fp_M) (c l : Nat) (n i : Nat) : Option Nat := k_first (fun i => decide (g_fit (fp_wr M 50 (5 + 6 * l + 3) (nI i - 99)) c)) n i
def g_tight (M : fp_M) (c : Nat) (n i : Nat) : Option Nat := k_first (fun i => decide (¬ g_fit (fp_wr M 50 2 (9 - nI i)) c)) n i
abbrev g_let (M : fp_M) (l : Int32) : Prop := 0 ≤ l ∧ l < M 50 0
def sg_kinds (M : fp_M) (c : Nat) (l : Int32) : Int32 × fp_M := if g_let M l then (nI (g_kinds M c (k_v l) 7), M) else (-1000001, g_fd M 0)
def sg_days (M : fp_M) (c : Nat) (l : Int32) : Int32 × fp_M := if g_let M l then (k_it (g_dayn M c (k_v l)) 199 0 0, M) else (-1000001, g_fd M 0)
def sg_fewest (M : fp_M) (c : Nat) (l : Int32) : Int32 × fp_M := if g_let M l then (k_wv (g_dayf M c (k_v l) 199 0) (fun i => nI i - 99) 3, g_wb M (g_dayf M c (k_v l) 199 0)) else (-1000001, g_fd M 0)
theorem g_i3 (l : Nat) (h : l < 8) : (5 : Int32) + 6 * nI l + 3 = nI (5 + 6 * l + 3) := g_i l h 3 (by decide)
theorem g_i00 (l : Nat) (h : l < 8) : (5 : Int32) + 6 * nI l = nI (5 + 6 * l + 0) := g_i0 l h
theorem k_99e : (-99 : Int32) = nI 0 - 99 := by decide
theorem k_99x : ∀ i, i < 200 → nI i - 99 + 1 = nI (i + 1) - 99 := k_99s
theorem lp_X6_kinds {X : fp_X} {M : fp_M} {c l : Nat} (hw : g_wf M c) (hl : l < 8) : ∀ (n i : Nat), i + n = 7 → ∀ (N : fp_M) (v : Int32), (g_e (fp_wr M 50 (5 + 6 * l + 0) v) N) → fp_W X mX6_kinds 35 [some (.ref 49), some (.int (nI l)), some (.int (5 + 6 * nI l)), some (.int (M 50 (5 + 6 * l + 0))), some (.int (nI (g_kinds M c l i))), some (.int (nI i))] [] fp_sh N 0 0 (fun r s m => r = some (.int (nI (g_kinds M c l 7))) ∧ s = fp_sh ∧ g_e M m) := by
  intro n
  induction n with
  | zero =>
    intro i hi N  v  hinv
    have ti : (nI i).toInt = (i : Int) := nI_toInt (by omega)
    refine r_iload dX6_kinds_35 rfl ?_
    refine r_bp (6) dX6_kinds_37 ?_
    refine r_icmp_gt 76 dX6_kinds_39 (fun h39 => ?_) (fun h39 => ?_)
    · refine r_aloadn dX6_kinds_76 rfl (by decide) ?_
      refine r_getfr dX6_kinds_77 kf_RX6_7 rfl rfl ?_
      refine r_iloadn dX6_kinds_80 rfl ?_
      refine r_iloadn dX6_kinds_81 rfl ?_
      refine r_iastL (j := 5 + 6 * l + 0) dX6_kinds_82 rfl (g_i00 l hl) ⟨by omega, by decide⟩ ?_
      refine r_iload dX6_kinds_83 rfl ?_
      exact r_iret dX6_kinds_85 ⟨by rw [show i = 7 by omega], rfl, hinv.back⟩
    · exfalso; simp only [Int32.le_iff_toInt_le, Int32.lt_iff_toInt_lt, Int32.reduceToInt] at h39; omega
  | succ n ih =>
    intro i hi N  v  hinv
    have ti : (nI i).toInt = (i : Int) := nI_toInt (by omega)
    refine r_iload dX6_kinds_35 rfl ?_
    refine r_bp (6) dX6_kinds_37 ?_
    refine r_icmp_gt 76 dX6_kinds_39 (fun h39 => ?_) (fun h39 => ?_)
    · exfalso; simp only [Int32.le_iff_toInt_le, Int32.lt_iff_toInt_lt, Int32.reduceToInt] at h39; omega
    · refine r_aloadn dX6_kinds_42 rfl (by decide) ?_
      refine r_getfr dX6_kinds_43 kf_RX6_7 rfl rfl ?_
      refine r_iloadn dX6_kinds_46 rfl ?_
      refine r_iload dX6_kinds_47 rfl ?_
      refine r_iastL (j := 5 + 6 * l + 0) dX6_kinds_49 rfl (g_i00 l hl) ⟨by omega, by decide⟩ ?_
      have hB : g_e (fp_wr M 50 (5 + 6 * l + 0) (nI i)) (fp_wr N 50 (5 + 6 * l + 0) (nI i)) := hinv.wr50
      have wB := hB.wf (hw.at (Or.inl rfl))
      refine r_iload dX6_kinds_50 rfl ?_
      refine r_aloadn dX6_kinds_52 rfl (by decide) ?_
      refine c_V0 (μz := mX6_isFitting) dX6_kinds_53 kl_RX6_128 mv_X6_isFitting rfl (ok_X6_isFitting wB) ?_
      rw [g_fit_e hB]
      have hM : g_e (fp_wr M 50 (5 + 6 * l + 0) (nI i)) (g_cm (fp_wr M 50 (5 + 6 * l + 0) (nI i)) c (g_cn (fp_wr M 50 (5 + 6 * l + 0) (nI i)) c)) := g_cm_e (hw.at (Or.inl rfl))
      refine r_if_eq 66 dX6_kinds_56 (fun h56 => ?_) (fun h56 => ?_)
      · refine r_ic (0) dX6_kinds_66 ?_
        refine r_ior dX6_kinds_67 ?_
        refine r_istore4 dX6_kinds_68 ?_
        refine r_iinc5 (1) dX6_kinds_70 ?_
        refine r_goto 35 dX6_kinds_73 ?_
        rw [nI_1]
        rw [Int32.or_zero]
        have e := ih (i + 1) (by omega) _ _ hM
        rw [show g_kinds M c l (i + 1) = g_kinds M c l i from k_bn_no (decide_eq_false (fun q => q h56))] at e
        exact e
      · refine r_ic (1) dX6_kinds_59 ?_
        refine r_iload dX6_kinds_60 rfl ?_
        refine r_ishl dX6_kinds_62 ?_
        refine r_goto 67 dX6_kinds_63 ?_
        refine r_ior dX6_kinds_67 ?_
        refine r_istore4 dX6_kinds_68 ?_
        refine r_iinc5 (1) dX6_kinds_70 ?_
        refine r_goto 35 dX6_kinds_73 ?_
        rw [nI_1]
        rw [show nI (g_kinds M c l i) ||| _ = nI (g_kinds M c l (i + 1)) from k_bn_or (by omega) (decide_eq_true h56)]
        exact ih (i + 1) (by omega) _ _ hM

theorem ok_X6_kinds {X : fp_X} {M : fp_M} {c : Nat} {l : Int32} (hw : g_wf M c) : fp_Ok X mX6_kinds [.ref 49, .int l] fp_sh M (fun r s m => r = some (.int (sg_kinds M c l).1) ∧ s = fp_sh ∧ g_e (sg_kinds M c l).2 m) := by
  refine fp_ok [some (.ref 49), some (.int l), none, none, none, none] ?_
  refine r_aloadn dX6_kinds_0 rfl (by decide) ?_
  refine r_iloadn dX6_kinds_1 rfl ?_
  refine c_V1 (μz := mX6_isLetter) dX6_kinds_2 kl_RX6_85 mv_X6_isLetter rfl ok_X6_isLetter ?_
  refine r_if_ne 15 dX6_kinds_5 (fun h5 => ?_) (fun h5 => ?_)
  · obtain ⟨el, ll⟩ := g_vl hw (bi_1.mp h5)
    have h8 := hw.1
    have ll8 : k_v l < 8 := by omega
    refine r_ic (5) dX6_kinds_15 ?_
    refine r_bp (6) dX6_kinds_16 ?_
    refine r_iloadn dX6_kinds_18 rfl ?_
    refine r_imul dX6_kinds_19 ?_
    refine r_iadd dX6_kinds_20 ?_
    refine r_istore2 dX6_kinds_21 ?_
    refine r_aloadn dX6_kinds_22 rfl (by decide) ?_
    refine r_getfr dX6_kinds_23 kf_RX6_7 rfl rfl ?_
    refine r_iloadn dX6_kinds_26 rfl ?_
    refine r_ialdL (j := 5 + 6 * k_v l + 0) dX6_kinds_27 rfl ((congrArg (fun x : Int32 => 5 + 6 * x) el).trans (g_i00 _ ll8)) ⟨by omega, by decide⟩ ?_
    refine r_istore3 dX6_kinds_28 ?_
    refine r_ic (0) dX6_kinds_29 ?_
    refine r_istore4 dX6_kinds_30 ?_
    refine r_ic (0) dX6_kinds_32 ?_
    refine r_istore5 dX6_kinds_33 ?_
    have e := lp_X6_kinds (X := X) hw ll8 7 0 (by omega) M (M 50 (5 + 6 * k_v l + 0)) (by rw [fp_wr_same]; exact g_e_refl M)
    rw [← el] at e
    unfold sg_kinds
    rw [if_pos (bi_1.mp h5)]
    exact e
  · refine r_aloadn dX6_kinds_8 rfl (by decide) ?_
    refine r_ldc dX6_kinds_9 kc_RX6_37 ?_
    refine c_V1 (μz := mX6_finds) dX6_kinds_11 kl_RX6_47 mv_X6_finds rfl (ok_X6_finds (w := 0) (by decide) (by decide)) ?_
    exact r_iret dX6_kinds_14 ⟨by unfold sg_kinds; rw [if_neg (bi_0.mp h5)], rfl, by unfold sg_kinds; rw [if_neg (bi_0.mp h5)]; exact g_e_refl _⟩
theorem lp_X6_days {X : fp_X} {M : fp_M} {c l : Nat} (hw : g_wf M c) (hl : l < 8) : ∀ (n i : Nat), i + n = 199 → ∀ (N : fp_M) (v : Int32) (z : Int32), (g_e (fp_wr M 50 (5 + 6 * l + 3) v) N) → fp_W X mX6_days 38 [some (.ref 49), some (.int (nI l)), some (.int (5 + 6 * nI l + 3)), some (.int (M 50 (5 + 6 * l + 3))), some (.int z), some (.int (nI i - 99))] [] fp_sh N 0 0 (fun r s m => r = some (.int (k_it (g_dayn M c l) n i z)) ∧ s = fp_sh ∧ g_e M m) := by
  intro n
  induction n with
  | zero =>
    intro i hi N  v  z  hinv
    have ti : (nI i).toInt = (i : Int) := nI_toInt (by omega)
    refine r_iload dX6_days_38 rfl ?_
    refine r_bp (99) dX6_days_40 ?_
    refine r_icmp_gt 76 dX6_days_42 (fun h42 => ?_) (fun h42 => ?_)
    · refine r_aloadn dX6_days_76 rfl (by decide) ?_
      refine r_getfr dX6_days_77 kf_RX6_7 rfl rfl ?_
      refine r_iloadn dX6_days_80 rfl ?_
      refine r_iloadn dX6_days_81 rfl ?_
      refine r_iastL (j := 5 + 6 * l + 3) dX6_days_82 rfl (g_i3 l hl) ⟨by omega, by decide⟩ ?_
      refine r_iload dX6_days_83 rfl ?_
      exact r_iret dX6_days_85 ⟨rfl, rfl, hinv.back⟩
    · exact absurd (by rw [show i = 199 by omega]; decide) h42
  | succ n ih =>
    intro i hi N  v  z  hinv
    have ti : (nI i).toInt = (i : Int) := nI_toInt (by omega)
    refine r_iload dX6_days_38 rfl ?_
    refine r_bp (99) dX6_days_40 ?_
    refine r_icmp_gt 76 dX6_days_42 (fun h42 => ?_) (fun h42 => ?_)
    · exact absurd h42 (k_99n i (by omega))
    · refine r_aloadn dX6_days_45 rfl (by decide) ?_
      refine r_getfr dX6_days_46 kf_RX6_7 rfl rfl ?_
      refine r_iloadn dX6_days_49 rfl ?_
      refine r_iload dX6_days_50 rfl ?_
      refine r_iastL (j := 5 + 6 * l + 3) dX6_days_52 rfl (g_i3 l hl) ⟨by omega, by decide⟩ ?_
      have hB : g_e (fp_wr M 50 (5 + 6 * l + 3) (nI i - 99)) (fp_wr N 50 (5 + 6 * l + 3) (nI i - 99)) := hinv.wr50
      have wB := hB.wf (hw.at (Or.inr rfl))
      refine r_iload dX6_days_53 rfl ?_
      refine r_aloadn dX6_days_55 rfl (by decide) ?_
      refine c_V0 (μz := mX6_isFitting) dX6_days_56 kl_RX6_128 mv_X6_isFitting rfl (ok_X6_isFitting wB) ?_
      rw [g_fit_e hB]
      have hM : g_e (fp_wr M 50 (5 + 6 * l + 3) (nI i - 99)) (g_cm (fp_wr M 50 (5 + 6 * l + 3) (nI i - 99)) c (g_cn (fp_wr M 50 (5 + 6 * l + 3) (nI i - 99)) c)) := g_cm_e (hw.at (Or.inr rfl))
      refine r_if_eq 66 dX6_days_59 (fun h59 => ?_) (fun h59 => ?_)
      · refine r_ic (0) dX6_days_66 ?_
        refine r_iadd dX6_days_67 ?_
        refine r_istore4 dX6_days_68 ?_
        refine r_iinc5 (1) dX6_days_70 ?_
        refine r_goto 38 dX6_days_73 ?_
        rw [k_99s i (by omega), k_it_s]
        rw [show g_dayn M c l i z = z + 0 from by unfold g_dayn; rw [if_neg (fun q => q h59)]]
        exact ih (i + 1) (by omega) _ _ (z + 0) hM
      · refine r_ic (1) dX6_days_62 ?_
        refine r_goto 67 dX6_days_63 ?_
        refine r_iadd dX6_days_67 ?_
        refine r_istore4 dX6_days_68 ?_
        refine r_iinc5 (1) dX6_days_70 ?_
        refine r_goto 38 dX6_days_73 ?_
        rw [k_99s i (by omega), k_it_s]
        rw [show g_dayn M c l i z = z + 1 from by unfold g_dayn; rw [if_pos h59]]
        exact ih (i + 1) (by omega) _ _ (z + 1) hM

theorem ok_X6_days {X : fp_X} {M : fp_M} {c : Nat} {l : Int32} (hw : g_wf M c) : fp_Ok X mX6_days [.ref 49, .int l] fp_sh M (fun r s m => r = some (.int (sg_days M c l).1) ∧ s = fp_sh ∧ g_e (sg_days M c l).2 m) := by
  refine fp_ok [some (.ref 49), some (.int l), none, none, none, none] ?_
  refine r_aloadn dX6_days_0 rfl (by decide) ?_
  refine r_iloadn dX6_days_1 rfl ?_
  refine c_V1 (μz := mX6_isLetter) dX6_days_2 kl_RX6_85 mv_X6_isLetter rfl ok_X6_isLetter ?_
  refine r_if_ne 15 dX6_days_5 (fun h5 => ?_) (fun h5 => ?_)
  · obtain ⟨el, ll⟩ := g_vl hw (bi_1.mp h5)
    have h8 := hw.1
    have ll8 : k_v l < 8 := by omega
    refine r_ic (5) dX6_days_15 ?_
    refine r_bp (6) dX6_days_16 ?_
    refine r_iloadn dX6_days_18 rfl ?_
    refine r_imul dX6_days_19 ?_
    refine r_iadd dX6_days_20 ?_
    refine r_ic (3) dX6_days_21 ?_
    refine r_iadd dX6_days_22 ?_
    refine r_istore2 dX6_days_23 ?_
    refine r_aloadn dX6_days_24 rfl (by decide) ?_
    refine r_getfr dX6_days_25 kf_RX6_7 rfl rfl ?_
    refine r_iloadn dX6_days_28 rfl ?_
    refine r_ialdL (j := 5 + 6 * k_v l + 3) dX6_days_29 rfl ((congrArg (fun x : Int32 => 5 + 6 * x + 3) el).trans (g_i3 _ ll8)) ⟨by omega, by decide⟩ ?_
    refine r_istore3 dX6_days_30 ?_
    refine r_ic (0) dX6_days_31 ?_
    refine r_istore4 dX6_days_32 ?_
    refine r_bp (-99) dX6_days_34 ?_
    refine r_istore5 dX6_days_36 ?_
    have e := lp_X6_days (X := X) hw ll8 199 0 (by omega) M (M 50 (5 + 6 * k_v l + 3)) 0 (by rw [fp_wr_same]; exact g_e_refl M)
    rw [← el] at e
    unfold sg_days
    rw [if_pos (bi_1.mp h5)]
    exact e
  · refine r_aloadn dX6_days_8 rfl (by decide) ?_
    refine r_ldc dX6_days_9 kc_RX6_37 ?_
    refine c_V1 (μz := mX6_finds) dX6_days_11 kl_RX6_47 mv_X6_finds rfl (ok_X6_finds (w := 0) (by decide) (by decide)) ?_
    exact r_iret dX6_days_14 ⟨by unfold sg_days; rw [if_neg (bi_0.mp h5)], rfl, by unfold sg_days; rw [if_neg (bi_0.mp h5)]; exact g_e_refl _⟩
theorem lp_X6_fewest {X : fp_X} {M : fp_M} {c l : Nat} (hw : g_wf M c) (hl : l < 8) : ∀ (n i : Nat), i + n = 199 → ∀ (N : fp_M), (g_e (fp_wr M 50 (5 + 6 * l + 3) (nI i - 99)) N) → fp_W X mX6_fewest 39 [some (.ref 49), some (.int (nI l)), some (.int (5 + 6 * nI l + 3)), some (.int (M 50 (5 + 6 * l + 3))), none] [] fp_sh N 0 0 (fun r s m => r = some (.int (k_wv (g_dayf M c l n i) (fun i => nI i - 99) 3)) ∧ s = fp_sh ∧ g_e (g_wb M (g_dayf M c l n i)) m) := by
  intro n
  induction n with
  | zero =>
    intro i hi N  hinv
    have ti : (nI i).toInt = (i : Int) := nI_toInt (by omega)
    have hv : N 50 (5 + 6 * l + 3) = nI i - 99 := hinv.at50
    refine r_aloadn dX6_fewest_39 rfl (by decide) ?_
    refine r_getfr dX6_fewest_40 kf_RX6_7 rfl rfl ?_
    refine r_iloadn dX6_fewest_43 rfl ?_
    refine r_ialdL (j := 5 + 6 * l + 3) dX6_fewest_44 rfl (g_i3 l hl) ⟨by omega, by decide⟩ ?_
    rw [hv]
    refine r_bp (99) dX6_fewest_45 ?_
    refine r_icmp_gt 70 dX6_fewest_47 (fun h47 => ?_) (fun h47 => ?_)
    · refine r_aloadn dX6_fewest_70 rfl (by decide) ?_
      refine r_getfr dX6_fewest_71 kf_RX6_7 rfl rfl ?_
      refine r_iloadn dX6_fewest_74 rfl ?_
      refine r_ialdL (j := 5 + 6 * l + 3) dX6_fewest_75 rfl (g_i3 l hl) ⟨by omega, by decide⟩ ?_
      rw [hv]
      refine r_istore4 dX6_fewest_76 ?_
      refine r_aloadn dX6_fewest_78 rfl (by decide) ?_
      refine r_getfr dX6_fewest_79 kf_RX6_7 rfl rfl ?_
      refine r_iloadn dX6_fewest_82 rfl ?_
      refine r_iloadn dX6_fewest_83 rfl ?_
      refine r_iastL (j := 5 + 6 * l + 3) dX6_fewest_84 rfl (g_i3 l hl) ⟨by omega, by decide⟩ ?_
      refine r_iload dX6_fewest_85 rfl ?_
      refine r_bp (99) dX6_fewest_87 ?_
      refine r_icmp_gt 97 dX6_fewest_89 (fun h89 => ?_) (fun h89 => ?_)
      · refine r_aloadn dX6_fewest_97 rfl (by decide) ?_
        refine r_ldc dX6_fewest_98 kc_RX6_46 ?_
        refine c_V1 (μz := mX6_finds) dX6_fewest_100 kl_RX6_47 mv_X6_finds rfl (ok_X6_finds (w := 3) (by decide) (by decide)) ?_
        exact r_iret dX6_fewest_103 ⟨rfl, rfl, hinv.back.fd⟩
      · exact absurd (by rw [show i = 199 by omega]; decide) h89
    · exact absurd (by rw [show i = 199 by omega]; decide) h47
  | succ n ih =>
    intro i hi N  hinv
    have ti : (nI i).toInt = (i : Int) := nI_toInt (by omega)
    have hv : N 50 (5 + 6 * l + 3) = nI i - 99 := hinv.at50
    refine r_aloadn dX6_fewest_39 rfl (by decide) ?_
    refine r_getfr dX6_fewest_40 kf_RX6_7 rfl rfl ?_
    refine r_iloadn dX6_fewest_43 rfl ?_
    refine r_ialdL (j := 5 + 6 * l + 3) dX6_fewest_44 rfl (g_i3 l hl) ⟨by omega, by decide⟩ ?_
    rw [hv]
    refine r_bp (99) dX6_fewest_45 ?_
    refine r_icmp_gt 70 dX6_fewest_47 (fun h47 => ?_) (fun h47 => ?_)
    · exact absurd h47 (k_99n i (by omega))
    · refine r_aloadn dX6_fewest_50 rfl (by decide) ?_
      refine c_V0 (μz := mX6_isFitting) dX6_fewest_51 kl_RX6_128 mv_X6_isFitting rfl (ok_X6_isFitting (hinv.wf (hw.at (Or.inr rfl)))) ?_
      rw [g_fit_e hinv]
      have hM : g_e (fp_wr M 50 (5 + 6 * l + 3) (nI i - 99)) (g_cm (fp_wr M 50 (5 + 6 * l + 3) (nI i - 99)) c (g_cn (fp_wr M 50 (5 + 6 * l + 3) (nI i - 99)) c)) := g_cm_e (hw.at (Or.inr rfl))
      refine r_if_ne 70 dX6_fewest_54 (fun h54 => ?_) (fun h54 => ?_)
      · refine r_aloadn dX6_fewest_70 rfl (by decide) ?_
        refine r_getfr dX6_fewest_71 kf_RX6_7 rfl rfl ?_
        refine r_iloadn dX6_fewest_74 rfl ?_
        refine r_ialdL (j := 5 + 6 * l + 3) dX6_fewest_75 rfl (g_i3 l hl) ⟨by omega, by decide⟩ ?_
        rw [hM.at50]
        have ew : g_dayf M c l (n + 1) i = some i := by
          show (if decide (g_fit (fp_wr M 50 (5 + 6 * l + 3) (nI i - 99)) c) = true then some i else _) = _
          rw [if_pos (decide_eq_true h54)]
        refine r_istore4 dX6_fewest_76 ?_
        refine r_aloadn dX6_fewest_78 rfl (by decide) ?_
        refine r_getfr dX6_fewest_79 kf_RX6_7 rfl rfl ?_
        refine r_iloadn dX6_fewest_82 rfl ?_
        refine r_iloadn dX6_fewest_83 rfl ?_
        refine r_iastL (j := 5 + 6 * l + 3) dX6_fewest_84 rfl (g_i3 l hl) ⟨by omega, by decide⟩ ?_
        refine r_iload dX6_fewest_85 rfl ?_
        refine r_bp (99) dX6_fewest_87 ?_
        refine r_icmp_gt 97 dX6_fewest_89 (fun h89 => ?_) (fun h89 => ?_)
        · exact absurd h89 (k_99n i (by omega))
        · refine r_iload dX6_fewest_92 rfl ?_
          refine r_goto 103 dX6_fewest_94 ?_
          exact r_iret dX6_fewest_103 ⟨by rw [ew]; rfl, rfl, by rw [ew]; exact hM.back⟩
      · refine r_aloadn dX6_fewest_57 rfl (by decide) ?_
        refine r_getfr dX6_fewest_58 kf_RX6_7 rfl rfl ?_
        refine r_iloadn dX6_fewest_61 rfl ?_
        refine r_dup2 dX6_fewest_62 ?_
        refine r_ialdL (j := 5 + 6 * l + 3) dX6_fewest_63 rfl (g_i3 l hl) ⟨by omega, by decide⟩ ?_
        rw [hM.at50]
        refine r_ic (1) dX6_fewest_64 ?_
        refine r_iadd dX6_fewest_65 ?_
        refine r_iastL (j := 5 + 6 * l + 3) dX6_fewest_66 rfl (g_i3 l hl) ⟨by omega, by decide⟩ ?_
        refine r_goto 39 dX6_fewest_67 ?_
        rw [k_99s i (by omega)]
        have e : g_dayf M c l (n + 1) i = g_dayf M c l n (i + 1) := by
          show (if decide (g_fit (fp_wr M 50 (5 + 6 * l + 3) (nI i - 99)) c) = true then some i else _) = _
          rw [if_neg (by rw [decide_eq_true_eq]; exact fun q => q h54)]
          rfl
        rw [e]
        exact ih (i + 1) (by omega) _ hM.wr50

theorem ok_X6_fewest {X : fp_X} {M : fp_M} {c : Nat} {l : Int32} (hw : g_wf M c) : fp_Ok X mX6_fewest [.ref 49, .int l] fp_sh M (fun r s m => r = some (.int (sg_fewest M c l).1) ∧ s = fp_sh ∧ g_e (sg_fewest M c l).2 m) := by
  refine fp_ok [some (.ref 49), some (.int l), none, none, none] ?_
  refine r_aloadn dX6_fewest_0 rfl (by decide) ?_
  refine r_iloadn dX6_fewest_1 rfl ?_
  refine c_V1 (μz := mX6_isLetter) dX6_fewest_2 kl_RX6_85 mv_X6_isLetter rfl ok_X6_isLetter ?_
  refine r_if_ne 15 dX6_fewest_5 (fun h5 => ?_) (fun h5 => ?_)
  · obtain ⟨el, ll⟩ := g_vl hw (bi_1.mp h5)
    have h8 := hw.1
    have ll8 : k_v l < 8 := by omega
    have ei : (5 : Int32) + 6 * l + 3 = nI (5 + 6 * k_v l + 3) := (congrArg (fun x : Int32 => 5 + 6 * x + 3) el).trans (g_i3 _ ll8)
    refine r_ic (5) dX6_fewest_15 ?_
    refine r_bp (6) dX6_fewest_16 ?_
    refine r_iloadn dX6_fewest_18 rfl ?_
    refine r_imul dX6_fewest_19 ?_
    refine r_iadd dX6_fewest_20 ?_
    refine r_ic (3) dX6_fewest_21 ?_
    refine r_iadd dX6_fewest_22 ?_
    refine r_istore2 dX6_fewest_23 ?_
    refine r_aloadn dX6_fewest_24 rfl (by decide) ?_
    refine r_getfr dX6_fewest_25 kf_RX6_7 rfl rfl ?_
    refine r_iloadn dX6_fewest_28 rfl ?_
    refine r_ialdL (j := 5 + 6 * k_v l + 3) dX6_fewest_29 rfl ei ⟨by omega, by decide⟩ ?_
    refine r_istore3 dX6_fewest_30 ?_
    refine r_aloadn dX6_fewest_31 rfl (by decide) ?_
    refine r_getfr dX6_fewest_32 kf_RX6_7 rfl rfl ?_
    refine r_iloadn dX6_fewest_35 rfl ?_
    refine r_bp (-99) dX6_fewest_36 ?_
    refine r_iastL (j := 5 + 6 * k_v l + 3) dX6_fewest_38 rfl ei ⟨by omega, by decide⟩ ?_
    have e := lp_X6_fewest (X := X) hw ll8 199 0 (by omega) _ (g_e_refl _)
    rw [← el] at e
    unfold sg_fewest
    rw [if_pos (bi_1.mp h5)]
    exact e
  · refine r_aloadn dX6_fewest_8 rfl (by decide) ?_
    refine r_ldc dX6_fewest_9 kc_RX6_37 ?_
    refine c_V1 (μz := mX6_finds) dX6_fewest_11 kl_RX6_47 mv_X6_finds rfl (ok_X6_finds (w := 0) (by decide) (by decide)) ?_
    exact r_iret dX6_fewest_14 ⟨by unfold sg_fewest; rw [if_neg (bi_0.mp h5)], rfl, by unfold sg_fewest; rw [if_neg (bi_0.mp h5)]; exact g_e_refl _⟩
theorem k_9t : ∀ i, i < 11 → (9 : Int32) - nI i - 1 = 9 - nI (i + 1) := by decide +kernel
theorem k_9p : ∀ i, i < 10 → (0 : Int32) ≤ 9 - nI i := by decide +kernel
def g_tv (M : fp_M) (o : Option Nat) : Int32 × fp_M := match o with
  | some n => (9 - nI n, M)
  | none => (-1000004, g_fd M 3)
theorem g_on_some {M : fp_M} {a : Int32} (h : 0 ≤ a) : ((if 0 ≤ a then a else -1000004) = a) ∧ (if 0 ≤ a then M else g_fd M 3) = M := ⟨if_pos h, if_pos h⟩
theorem lp_X6_tight {X : fp_X} {M : fp_M} {c : Nat} (hw : g_wf M c) : ∀ (n i : Nat), i + n = 10 → ∀ (N : fp_M), (g_e (fp_wr M 50 2 (9 - nI i)) N) → fp_W X mX6_tight 15 [some (.ref 49), some (.int (M 50 2)), none] [] fp_sh N 0 0 (fun r s m => r = some (.int (g_tv M (g_tight M c n i)).1) ∧ s = fp_sh ∧ g_e (g_tv M (g_tight M c n i)).2 m) := by
  intro n
  induction n with
  | zero =>
    intro i hi N  hinv
    have ti : (nI i).toInt = (i : Int) := nI_toInt (by omega)
    have hv : N 50 2 = 9 - nI i := hinv.at50
    refine r_aloadn dX6_tight_15 rfl (by decide) ?_
    refine r_getfr dX6_tight_16 kf_RX6_7 rfl rfl ?_
    refine r_ic (2) dX6_tight_19 ?_
    refine r_ialdL dX6_tight_20 rfl rfl (by decide) ?_
    rw [hv]
    refine r_if_lt 44 dX6_tight_21 (fun h21 => ?_) (fun h21 => ?_)
    · refine r_aloadn dX6_tight_44 rfl (by decide) ?_
      refine r_getfr dX6_tight_45 kf_RX6_7 rfl rfl ?_
      refine r_ic (2) dX6_tight_48 ?_
      refine r_ialdL dX6_tight_49 rfl rfl (by decide) ?_
      rw [hv]
      refine r_istore2 dX6_tight_50 ?_
      refine r_aloadn dX6_tight_51 rfl (by decide) ?_
      refine r_getfr dX6_tight_52 kf_RX6_7 rfl rfl ?_
      refine r_ic (2) dX6_tight_55 ?_
      refine r_iloadn dX6_tight_56 rfl ?_
      refine r_iastL dX6_tight_57 rfl rfl (by decide) ?_
      refine r_aloadn dX6_tight_58 rfl (by decide) ?_
      refine r_iloadn dX6_tight_59 rfl ?_
      refine c_V1 (μz := mX6_orNone) dX6_tight_60 kl_RX6_153 mv_X6_orNone rfl ok_X6_orNone ?_
      exact r_iret dX6_tight_63 ⟨by rw [if_neg (by rw [show i = 10 by omega]; decide)]; rfl, rfl, by rw [if_neg (by rw [show i = 10 by omega]; decide)]; exact hinv.back.fd⟩
    · exact absurd (by rw [show i = 10 by omega]; decide) h21
  | succ n ih =>
    intro i hi N  hinv
    have ti : (nI i).toInt = (i : Int) := nI_toInt (by omega)
    have hv : N 50 2 = 9 - nI i := hinv.at50
    refine r_aloadn dX6_tight_15 rfl (by decide) ?_
    refine r_getfr dX6_tight_16 kf_RX6_7 rfl rfl ?_
    refine r_ic (2) dX6_tight_19 ?_
    refine r_ialdL dX6_tight_20 rfl rfl (by decide) ?_
    rw [hv]
    refine r_if_lt 44 dX6_tight_21 (fun h21 => ?_) (fun h21 => ?_)
    · exact absurd h21 (k_9n i (by omega))
    · refine r_aloadn dX6_tight_24 rfl (by decide) ?_
      refine c_V0 (μz := mX6_isFitting) dX6_tight_25 kl_RX6_128 mv_X6_isFitting rfl (ok_X6_isFitting (hinv.wf hw.at2)) ?_
      rw [g_fit_e hinv]
      have hM : g_e (fp_wr M 50 2 (9 - nI i)) (g_cm (fp_wr M 50 2 (9 - nI i)) c (g_cn (fp_wr M 50 2 (9 - nI i)) c)) := g_cm_e hw.at2
      refine r_if_eq 44 dX6_tight_28 (fun h28 => ?_) (fun h28 => ?_)
      · refine r_aloadn dX6_tight_44 rfl (by decide) ?_
        refine r_getfr dX6_tight_45 kf_RX6_7 rfl rfl ?_
        refine r_ic (2) dX6_tight_48 ?_
        refine r_ialdL dX6_tight_49 rfl rfl (by decide) ?_
        rw [hM.at50]
        have ew : g_tight M c (n + 1) i = some i := by
          show (if decide (¬ g_fit (fp_wr M 50 2 (9 - nI i)) c) = true then some i else _) = _
          rw [if_pos (by rw [decide_eq_true_eq]; exact fun q => q h28)]
        refine r_istore2 dX6_tight_50 ?_
        refine r_aloadn dX6_tight_51 rfl (by decide) ?_
        refine r_getfr dX6_tight_52 kf_RX6_7 rfl rfl ?_
        refine r_ic (2) dX6_tight_55 ?_
        refine r_iloadn dX6_tight_56 rfl ?_
        refine r_iastL dX6_tight_57 rfl rfl (by decide) ?_
        refine r_aloadn dX6_tight_58 rfl (by decide) ?_
        refine r_iloadn dX6_tight_59 rfl ?_
        refine c_V1 (μz := mX6_orNone) dX6_tight_60 kl_RX6_153 mv_X6_orNone rfl ok_X6_orNone ?_
        exact r_iret dX6_tight_63 ⟨by rw [ew, if_pos (k_9p i (by omega))]; rfl, rfl, by rw [ew, if_pos (k_9p i (by omega))]; exact hM.back⟩
      · refine r_aloadn dX6_tight_31 rfl (by decide) ?_
        refine r_getfr dX6_tight_32 kf_RX6_7 rfl rfl ?_
        refine r_ic (2) dX6_tight_35 ?_
        refine r_dup2 dX6_tight_36 ?_
        refine r_ialdL dX6_tight_37 rfl rfl (by decide) ?_
        rw [hM.at50]
        refine r_ic (1) dX6_tight_38 ?_
        refine r_isub dX6_tight_39 ?_
        refine r_iastL dX6_tight_40 rfl rfl (by decide) ?_
        refine r_goto 15 dX6_tight_41 ?_
        rw [k_9t i (by omega)]
        have e : g_tight M c (n + 1) i = g_tight M c n (i + 1) := by
          show (if decide (¬ g_fit (fp_wr M 50 2 (9 - nI i)) c) = true then some i else _) = _
          rw [if_neg (by rw [decide_eq_true_eq]; exact fun q => q h28)]
          rfl
        rw [e]
        exact ih (i + 1) (by omega) _ hM.wr50

theorem ok_X6_tight {X : fp_X} {M : fp_M} {c : Nat} (hw : g_wf M c) : fp_Ok X mX6_tight [.ref 49] fp_sh M (fun r s m => r = some (.int (g_tv M (g_tight M c 10 0)).1) ∧ s = fp_sh ∧ g_e (g_tv M (g_tight M c 10 0)).2 m) := by
  refine fp_ok [some (.ref 49), none, none] ?_
  refine r_aloadn dX6_tight_0 rfl (by decide) ?_
  refine r_getfr dX6_tight_1 kf_RX6_7 rfl rfl ?_
  refine r_ic (2) dX6_tight_4 ?_
  refine r_ialdL dX6_tight_5 rfl rfl (by decide) ?_
  refine r_istore1 dX6_tight_6 ?_
  refine r_aloadn dX6_tight_7 rfl (by decide) ?_
  refine r_getfr dX6_tight_8 kf_RX6_7 rfl rfl ?_
  refine r_ic (2) dX6_tight_11 ?_
  refine r_bp (9) dX6_tight_12 ?_
  refine r_iastL dX6_tight_14 rfl rfl (by decide) ?_
  exact lp_X6_tight hw 10 0 (by omega) _ (g_e_refl _)
