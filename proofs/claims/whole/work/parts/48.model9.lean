/-! ===== the other one's small calls ===== -/
def g_rowi (M : fp_M) (a b n : Nat) : fp_M := fun k j => if k = b ∧ j < n then M a j else M k j
theorem g_rowi_0 (M : fp_M) (a b : Nat) : g_rowi M a b 0 = M := by
  funext k j
  unfold g_rowi
  rw [if_neg (by omega)]
theorem g_rowi_s {M : fp_M} {a b i : Nat} (h : ¬ a = b) : fp_wr (g_rowi M a b i) b i (g_rowi M a b i a i) = g_rowi M a b (i + 1) := by
  have e : g_rowi M a b i a i = M a i := by
    unfold g_rowi
    rw [if_neg (fun q => h q.1)]
  rw [e]
  funext k j
  unfold fp_wr
  by_cases q : k = b ∧ j = i
  · rw [if_pos q]
    unfold g_rowi
    rw [if_pos ⟨q.1, by omega⟩, q.2]
  · rw [if_neg q]
    unfold g_rowi
    by_cases q2 : k = b ∧ j < i
    · rw [if_pos q2, if_pos ⟨q2.1, by omega⟩]
    · rw [if_neg q2, if_neg (by omega)]
def sg_undo (M : fp_M) : Int32 × fp_M := if M 49 3 = 0 then (-1000004, g_fd M 3) else (M 51 1, g_rowi M 51 50 63)
def sg_hold (M : fp_M) (p l : Int32) : Int32 × fp_M := if (0 ≤ p ∧ p ≤ 9) ∧ (l = -1 ∨ (0 ≤ l ∧ l < M 50 0)) then (1, fp_wr M 50 (53 + k_v p) l) else (-1000001, g_fd M 0)
theorem g_v9 {w : Int32} (h : 0 ≤ w ∧ w ≤ 9) : w = nI (k_v w) ∧ k_v w < 10 := by
  refine g_vb h.1 ?_ (by decide)
  have h2 := h.2
  simp only [Int32.le_iff_toInt_le, Int32.reduceToInt] at h2
  omega
theorem lp_X6_copyRow {X : fp_X} {M : fp_M} {a b : Nat} (ha : fp_sh[a]? = some (.inr (.inl 63))) (hb : fp_sh[b]? = some (.inr (.inl 63))) (la : a < 59) (lb : b < 59) (hab : ¬ a = b) : ∀ (n i : Nat), i + n = 63 → fp_W X mX6_copyRow 2 [some (.ref a), some (.ref b), some (.int (nI i))] [] fp_sh (g_rowi M a b i) 0 0 (fun r s m => r = none ∧ s = fp_sh ∧ m = g_rowi M a b 63) := by
  intro n
  induction n with
  | zero =>
    intro i hi 
    have ti : (nI i).toInt = (i : Int) := nI_toInt (by omega)
    refine r_iloadn dX6_copyRow_2 rfl ?_
    refine r_bp (63) dX6_copyRow_3 ?_
    refine r_icmp_ge 20 dX6_copyRow_5 (fun h5 => ?_) (fun h5 => ?_)
    · exact r_vret dX6_copyRow_20 ⟨rfl, rfl, by rw [show i = 63 by omega]⟩
    · exfalso; simp only [Int32.le_iff_toInt_le, Int32.lt_iff_toInt_lt, Int32.reduceToInt] at h5; omega
  | succ n ih =>
    intro i hi 
    have ti : (nI i).toInt = (i : Int) := nI_toInt (by omega)
    refine r_iloadn dX6_copyRow_2 rfl ?_
    refine r_bp (63) dX6_copyRow_3 ?_
    refine r_icmp_ge 20 dX6_copyRow_5 (fun h5 => ?_) (fun h5 => ?_)
    · exfalso; simp only [Int32.le_iff_toInt_le, Int32.lt_iff_toInt_lt, Int32.reduceToInt] at h5; omega
    · refine r_aloadn dX6_copyRow_8 rfl (Or.inl ⟨by omega, by omega⟩) ?_
      refine r_iloadn dX6_copyRow_9 rfl ?_
      refine r_aloadn dX6_copyRow_10 rfl (Or.inl ⟨by omega, by omega⟩) ?_
      refine r_iloadn dX6_copyRow_11 rfl ?_
      refine r_ialdL (j := i) dX6_copyRow_12 ha rfl ⟨by omega, by decide⟩ ?_
      refine r_iastL (j := i) dX6_copyRow_13 hb rfl ⟨by omega, by decide⟩ ?_
      refine r_iinc2 (1) dX6_copyRow_14 ?_
      refine r_goto 2 dX6_copyRow_17 ?_
      rw [nI_1, g_rowi_s hab]
      exact ih (i + 1) (by omega)

theorem ok_X6_copyRow {X : fp_X} {M : fp_M} {a b : Nat} (ha : fp_sh[a]? = some (.inr (.inl 63))) (hb : fp_sh[b]? = some (.inr (.inl 63))) (la : a < 59) (lb : b < 59) (hab : ¬ a = b): fp_Ev X mX6_copyRow [.ref a, .ref b] fp_sh M none (g_rowi M a b 63) := by
  refine fp_ok [some (.ref a), some (.ref b), none] ?_
  refine r_ic (0) dX6_copyRow_0 ?_
  refine r_istore2 dX6_copyRow_1 ?_
  have e := lp_X6_copyRow (X := X) (M := M) ha hb la lb hab 63 0 (by omega)
  rw [g_rowi_0] at e
  exact e
theorem ok_X6_image {X : fp_X} {M : fp_M}  : fp_Ev X mX6_image [.ref 49] fp_sh M (some (.int 1)) (fp_wr (g_rowi M 50 51 63) 49 3 1) := by
  refine fp_ok [some (.ref 49)] ?_
  refine r_aloadn dX6_image_0 rfl (by decide) ?_
  refine r_getfr dX6_image_1 kf_RX6_7 rfl rfl ?_
  refine r_aloadn dX6_image_4 rfl (by decide) ?_
  refine r_getfr dX6_image_5 kf_RX6_13 rfl rfl ?_
  refine c_S2v (μz := mX6_copyRow) dX6_image_8 kl_RX6_243 ms_X6_copyRow (ok_X6_copyRow rfl rfl (by decide) (by decide) (by decide)) ?_
  refine r_aloadn dX6_image_11 rfl (by decide) ?_
  refine r_ic (1) dX6_image_12 ?_
  refine r_putfi dX6_image_13 kf_RX6_269 rfl rfl ?_
  refine r_ic (1) dX6_image_16 ?_
  exact r_iret dX6_image_17 ⟨rfl, rfl, rfl⟩
theorem ok_X6_undo {X : fp_X} {M : fp_M}  : fp_Ev X mX6_undo [.ref 49] fp_sh M (some (.int (sg_undo M).1)) (sg_undo M).2 := by
  refine fp_ok [some (.ref 49)] ?_
  refine r_aloadn dX6_undo_0 rfl (by decide) ?_
  refine r_getfi dX6_undo_1 kf_RX6_269 rfl rfl ?_
  refine r_if_ne 14 dX6_undo_4 (fun h4 => ?_) (fun h4 => ?_)
  · refine r_aloadn dX6_undo_14 rfl (by decide) ?_
    refine r_getfr dX6_undo_15 kf_RX6_13 rfl rfl ?_
    refine r_aloadn dX6_undo_18 rfl (by decide) ?_
    refine r_getfr dX6_undo_19 kf_RX6_7 rfl rfl ?_
    refine c_S2v (μz := mX6_copyRow) dX6_undo_22 kl_RX6_243 ms_X6_copyRow (ok_X6_copyRow rfl rfl (by decide) (by decide) (by decide)) ?_
    refine r_aloadn dX6_undo_25 rfl (by decide) ?_
    refine r_getfr dX6_undo_26 kf_RX6_7 rfl rfl ?_
    refine r_ic (1) dX6_undo_29 ?_
    refine r_ialdL dX6_undo_30 rfl rfl (by decide) ?_
    exact r_iret dX6_undo_31 ⟨by unfold sg_undo; rw [if_neg h4]; rfl, rfl, by unfold sg_undo; rw [if_neg h4]⟩
  · refine r_aloadn dX6_undo_7 rfl (by decide) ?_
    refine r_ldc dX6_undo_8 kc_RX6_46 ?_
    refine c_V1 (μz := mX6_finds) dX6_undo_10 kl_RX6_47 mv_X6_finds rfl (ok_X6_finds (w := 3) (by decide) (by decide)) ?_
    exact r_iret dX6_undo_13 ⟨by unfold sg_undo; rw [if_pos h4], rfl, by unfold sg_undo; rw [if_pos h4]⟩
theorem ok_X6_seed {X : fp_X} {M : fp_M} {v : Int32} : fp_Ev X mX6_seed [.ref 49, .int v] fp_sh M (some (.int (M 50 4))) (fp_wr M 50 4 v) := by
  refine fp_ok [some (.ref 49), some (.int v)] ?_
  refine r_aloadn dX6_seed_0 rfl (by decide) ?_
  refine r_ic (4) dX6_seed_1 ?_
  refine r_iloadn dX6_seed_2 rfl ?_
  refine c_V2 (μz := mX6_becomes) dX6_seed_3 kl_RX6_103 mv_X6_becomes rfl (ok_X6_becomes (k := 4) rfl (by decide)) ?_
  exact r_iret dX6_seed_6 ⟨rfl, rfl, rfl⟩
theorem ok_X6_wipe {X : fp_X} {M : fp_M}  : fp_Ev X mX6_wipe [.ref 49] fp_sh M (some (.int (M 49 6))) (fp_wr M 49 6 0) := by
  refine fp_ok [some (.ref 49), none] ?_
  refine r_aloadn dX6_wipe_0 rfl (by decide) ?_
  refine r_getfi dX6_wipe_1 kf_RX6_165 rfl rfl ?_
  refine r_istore1 dX6_wipe_4 ?_
  refine r_aloadn dX6_wipe_5 rfl (by decide) ?_
  refine r_ic (0) dX6_wipe_6 ?_
  refine r_putfi dX6_wipe_7 kf_RX6_165 rfl rfl ?_
  refine r_iloadn dX6_wipe_10 rfl ?_
  exact r_iret dX6_wipe_11 ⟨rfl, rfl, rfl⟩
theorem ok_X6_tear {X : fp_X} {M : fp_M}  : fp_Ev X mX6_tear [.ref 49] fp_sh M (some (.int (if M 49 3 = 0 then 0 else 1))) (fp_wr M 49 3 0) := by
  refine fp_ok [some (.ref 49), none] ?_
  refine r_aloadn dX6_tear_0 rfl (by decide) ?_
  refine r_getfi dX6_tear_1 kf_RX6_269 rfl rfl ?_
  refine r_istore1 dX6_tear_4 ?_
  refine r_aloadn dX6_tear_5 rfl (by decide) ?_
  refine r_ic (0) dX6_tear_6 ?_
  refine r_putfi dX6_tear_7 kf_RX6_269 rfl rfl ?_
  refine r_iloadn dX6_tear_10 rfl ?_
  refine r_if_eq 18 dX6_tear_11 (fun h11 => ?_) (fun h11 => ?_)
  · refine r_ic (0) dX6_tear_18 ?_
    exact r_iret dX6_tear_19 ⟨by rw [if_pos h11], rfl, rfl⟩
  · refine r_ic (1) dX6_tear_14 ?_
    refine r_goto 19 dX6_tear_15 ?_
    exact r_iret dX6_tear_19 ⟨by rw [if_neg h11], rfl, rfl⟩
theorem ok_X6_hold {X : fp_X} {M : fp_M} {p l : Int32} : fp_Ev X mX6_hold [.ref 49, .int p, .int l] fp_sh M (some (.int (sg_hold M p l).1)) (sg_hold M p l).2 := by
  refine fp_ok [some (.ref 49), some (.int p), some (.int l)] ?_
  refine r_iloadn dX6_hold_0 rfl ?_
  refine r_i2l dX6_hold_1 ?_
  refine r_lc 0 dX6_hold_2 ?_
  refine r_ldc2 dX6_hold_3 kc_RX6_88 ?_
  refine c_S3 (μz := mX6_isIn) dX6_hold_6 kl_RX6_42 ms_X6_isIn (ok_X6_in (lo := 0) (hi := 9) (by decide) (by decide)) ?_
  refine r_if_eq 25 dX6_hold_9 (fun h9 => ?_) (fun h9 => ?_)
  · refine r_aloadn dX6_hold_25 rfl (by decide) ?_
    refine r_ldc dX6_hold_26 kc_RX6_37 ?_
    refine c_V1 (μz := mX6_finds) dX6_hold_28 kl_RX6_47 mv_X6_finds rfl (ok_X6_finds (w := 0) (by decide) (by decide)) ?_
    exact r_iret dX6_hold_31 ⟨by unfold sg_hold; rw [if_neg (fun q => absurd q.1 (bi_0.mp h9))], rfl, by unfold sg_hold; rw [if_neg (fun q => absurd q.1 (bi_0.mp h9))]⟩
  · refine r_iloadn dX6_hold_12 rfl ?_
    refine r_ic (-1) dX6_hold_13 ?_
    refine r_icmp_eq 32 dX6_hold_14 (fun h14 => ?_) (fun h14 => ?_)
    · obtain ⟨ep, lp⟩ := g_v9 (bi_1.mp h9)
      refine r_aloadn dX6_hold_32 rfl (by decide) ?_
      refine r_getfr dX6_hold_33 kf_RX6_7 rfl rfl ?_
      refine r_bp (53) dX6_hold_36 ?_
      refine r_iloadn dX6_hold_38 rfl ?_
      refine r_iadd dX6_hold_39 ?_
      refine r_iloadn dX6_hold_40 rfl ?_
      refine r_iastL (j := 53 + k_v p) dX6_hold_41 rfl ((congrArg (fun x : Int32 => 53 + x) ep).trans (nI_add 53 _)) ⟨by omega, by decide⟩ ?_
      refine r_ic (1) dX6_hold_42 ?_
      exact r_iret dX6_hold_43 ⟨by unfold sg_hold; rw [if_pos ⟨bi_1.mp h9, Or.inl h14⟩], rfl, by unfold sg_hold; rw [if_pos ⟨bi_1.mp h9, Or.inl h14⟩]⟩
    · refine r_aloadn dX6_hold_17 rfl (by decide) ?_
      refine r_iloadn dX6_hold_18 rfl ?_
      refine c_V1 (μz := mX6_isLetter) dX6_hold_19 kl_RX6_85 mv_X6_isLetter rfl ok_X6_isLetter ?_
      refine r_if_ne 32 dX6_hold_22 (fun h22 => ?_) (fun h22 => ?_)
      · obtain ⟨ep, lp⟩ := g_v9 (bi_1.mp h9)
        refine r_aloadn dX6_hold_32 rfl (by decide) ?_
        refine r_getfr dX6_hold_33 kf_RX6_7 rfl rfl ?_
        refine r_bp (53) dX6_hold_36 ?_
        refine r_iloadn dX6_hold_38 rfl ?_
        refine r_iadd dX6_hold_39 ?_
        refine r_iloadn dX6_hold_40 rfl ?_
        refine r_iastL (j := 53 + k_v p) dX6_hold_41 rfl ((congrArg (fun x : Int32 => 53 + x) ep).trans (nI_add 53 _)) ⟨by omega, by decide⟩ ?_
        refine r_ic (1) dX6_hold_42 ?_
        exact r_iret dX6_hold_43 ⟨by unfold sg_hold; rw [if_pos ⟨bi_1.mp h9, Or.inr (bi_1.mp h22)⟩], rfl, by unfold sg_hold; rw [if_pos ⟨bi_1.mp h9, Or.inr (bi_1.mp h22)⟩]⟩
      · refine r_aloadn dX6_hold_25 rfl (by decide) ?_
        refine r_ldc dX6_hold_26 kc_RX6_37 ?_
        refine c_V1 (μz := mX6_finds) dX6_hold_28 kl_RX6_47 mv_X6_finds rfl (ok_X6_finds (w := 0) (by decide) (by decide)) ?_
        exact r_iret dX6_hold_31 ⟨by unfold sg_hold; rw [if_neg (fun q => q.2.elim h14 (bi_0.mp h22))], rfl, by unfold sg_hold; rw [if_neg (fun q => q.2.elim h14 (bi_0.mp h22))]⟩
theorem ok_X6_isSheet {X : fp_X} {M : fp_M} {a : Int32} : fp_Ev X mX6_isSheet [.int a] fp_sh M (some (.int (bi (0 ≤ a ∧ a ≤ 3)))) M := by
  refine fp_ok [some (.int a)] ?_
  refine r_iloadn dX6_isSheet_0 rfl ?_
  refine r_if_lt 13 dX6_isSheet_1 (fun h1 => ?_) (fun h1 => ?_)
  · refine r_ic (0) dX6_isSheet_13 ?_
    exact r_iret dX6_isSheet_14 ⟨by first | rw [bi_f (by simp only [Int32.le_iff_toInt_le, Int32.lt_iff_toInt_lt, ← Int32.toInt_inj, Int32.reduceToInt] at *; omega)] | rw [bi_t (by simp only [Int32.le_iff_toInt_le, Int32.lt_iff_toInt_lt, ← Int32.toInt_inj, Int32.reduceToInt] at *; omega)], rfl, rfl⟩
  · refine r_iloadn dX6_isSheet_4 rfl ?_
    refine r_ic (4) dX6_isSheet_5 ?_
    refine r_icmp_ge 13 dX6_isSheet_6 (fun h6 => ?_) (fun h6 => ?_)
    · refine r_ic (0) dX6_isSheet_13 ?_
      exact r_iret dX6_isSheet_14 ⟨by first | rw [bi_f (by simp only [Int32.le_iff_toInt_le, Int32.lt_iff_toInt_lt, ← Int32.toInt_inj, Int32.reduceToInt] at *; omega)] | rw [bi_t (by simp only [Int32.le_iff_toInt_le, Int32.lt_iff_toInt_lt, ← Int32.toInt_inj, Int32.reduceToInt] at *; omega)], rfl, rfl⟩
    · refine r_ic (1) dX6_isSheet_9 ?_
      refine r_goto 14 dX6_isSheet_10 ?_
      exact r_iret dX6_isSheet_14 ⟨by first | rw [bi_f (by simp only [Int32.le_iff_toInt_le, Int32.lt_iff_toInt_lt, ← Int32.toInt_inj, Int32.reduceToInt] at *; omega)] | rw [bi_t (by simp only [Int32.le_iff_toInt_le, Int32.lt_iff_toInt_lt, ← Int32.toInt_inj, Int32.reduceToInt] at *; omega)], rfl, rfl⟩
theorem ok_X6_isAlpha {X : fp_X} {M : fp_M} {a : Int32} : fp_Ev X mX6_isAlpha [.int a] fp_sh M (some (.int (bi (97 ≤ a ∧ a ≤ 122)))) M := by
  refine fp_ok [some (.int a)] ?_
  refine r_iloadn dX6_isAlpha_0 rfl ?_
  refine r_bp (97) dX6_isAlpha_1 ?_
  refine r_icmp_lt 16 dX6_isAlpha_3 (fun h3 => ?_) (fun h3 => ?_)
  · refine r_ic (0) dX6_isAlpha_16 ?_
    exact r_iret dX6_isAlpha_17 ⟨by first | rw [bi_f (by simp only [Int32.le_iff_toInt_le, Int32.lt_iff_toInt_lt, ← Int32.toInt_inj, Int32.reduceToInt] at *; omega)] | rw [bi_t (by simp only [Int32.le_iff_toInt_le, Int32.lt_iff_toInt_lt, ← Int32.toInt_inj, Int32.reduceToInt] at *; omega)], rfl, rfl⟩
  · refine r_iloadn dX6_isAlpha_6 rfl ?_
    refine r_bp (122) dX6_isAlpha_7 ?_
    refine r_icmp_gt 16 dX6_isAlpha_9 (fun h9 => ?_) (fun h9 => ?_)
    · refine r_ic (0) dX6_isAlpha_16 ?_
      exact r_iret dX6_isAlpha_17 ⟨by first | rw [bi_f (by simp only [Int32.le_iff_toInt_le, Int32.lt_iff_toInt_lt, ← Int32.toInt_inj, Int32.reduceToInt] at *; omega)] | rw [bi_t (by simp only [Int32.le_iff_toInt_le, Int32.lt_iff_toInt_lt, ← Int32.toInt_inj, Int32.reduceToInt] at *; omega)], rfl, rfl⟩
    · refine r_ic (1) dX6_isAlpha_12 ?_
      refine r_goto 17 dX6_isAlpha_13 ?_
      exact r_iret dX6_isAlpha_17 ⟨by first | rw [bi_f (by simp only [Int32.le_iff_toInt_le, Int32.lt_iff_toInt_lt, ← Int32.toInt_inj, Int32.reduceToInt] at *; omega)] | rw [bi_t (by simp only [Int32.le_iff_toInt_le, Int32.lt_iff_toInt_lt, ← Int32.toInt_inj, Int32.reduceToInt] at *; omega)], rfl, rfl⟩
theorem ok_X6_isDigit {X : fp_X} {M : fp_M} {a : Int32} : fp_Ev X mX6_isDigit [.int a] fp_sh M (some (.int (bi (48 ≤ a ∧ a ≤ 57)))) M := by
  refine fp_ok [some (.int a)] ?_
  refine r_iloadn dX6_isDigit_0 rfl ?_
  refine r_bp (48) dX6_isDigit_1 ?_
  refine r_icmp_lt 16 dX6_isDigit_3 (fun h3 => ?_) (fun h3 => ?_)
  · refine r_ic (0) dX6_isDigit_16 ?_
    exact r_iret dX6_isDigit_17 ⟨by first | rw [bi_f (by simp only [Int32.le_iff_toInt_le, Int32.lt_iff_toInt_lt, ← Int32.toInt_inj, Int32.reduceToInt] at *; omega)] | rw [bi_t (by simp only [Int32.le_iff_toInt_le, Int32.lt_iff_toInt_lt, ← Int32.toInt_inj, Int32.reduceToInt] at *; omega)], rfl, rfl⟩
  · refine r_iloadn dX6_isDigit_6 rfl ?_
    refine r_bp (57) dX6_isDigit_7 ?_
    refine r_icmp_gt 16 dX6_isDigit_9 (fun h9 => ?_) (fun h9 => ?_)
    · refine r_ic (0) dX6_isDigit_16 ?_
      exact r_iret dX6_isDigit_17 ⟨by first | rw [bi_f (by simp only [Int32.le_iff_toInt_le, Int32.lt_iff_toInt_lt, ← Int32.toInt_inj, Int32.reduceToInt] at *; omega)] | rw [bi_t (by simp only [Int32.le_iff_toInt_le, Int32.lt_iff_toInt_lt, ← Int32.toInt_inj, Int32.reduceToInt] at *; omega)], rfl, rfl⟩
    · refine r_ic (1) dX6_isDigit_12 ?_
      refine r_goto 17 dX6_isDigit_13 ?_
      exact r_iret dX6_isDigit_17 ⟨by first | rw [bi_f (by simp only [Int32.le_iff_toInt_le, Int32.lt_iff_toInt_lt, ← Int32.toInt_inj, Int32.reduceToInt] at *; omega)] | rw [bi_t (by simp only [Int32.le_iff_toInt_le, Int32.lt_iff_toInt_lt, ← Int32.toInt_inj, Int32.reduceToInt] at *; omega)], rfl, rfl⟩
theorem ok_X6_fails {X : fp_X} {M : fp_M}  : fp_Ev X mX6_fails [.ref 49] fp_sh M (some (.int 0)) (fp_wr M 49 16 (M 49 13)) := by
  refine fp_ok [some (.ref 49)] ?_
  refine r_aloadn dX6_fails_0 rfl (by decide) ?_
  refine r_aloadn dX6_fails_1 rfl (by decide) ?_
  refine r_getfi dX6_fails_2 kf_RX6_171 rfl rfl ?_
  refine r_putfi dX6_fails_5 kf_RX6_189 rfl rfl ?_
  refine r_ic (0) dX6_fails_8 ?_
  exact r_iret dX6_fails_9 ⟨rfl, rfl, rfl⟩
