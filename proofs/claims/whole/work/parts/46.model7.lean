/-! ===== the other one's calls that ask many sets ===== -/
theorem g_e.fd {M m : fp_M} {w : Nat} (h : g_e M m) : g_e (g_fd M w) (g_fd m w) := by
  intro k j q
  have e0 : m 53 0 = M 53 0 := h 53 0 (fun p => absurd p.1 (by decide))
  have e1 : m 53 (w + 1) = M 53 (w + 1) := h 53 (w + 1) (fun p => absurd p.1 (by decide))
  unfold g_fd fp_wr
  rw [e0, e1, h k j q]
def g_wb (M : fp_M) (o : Option Nat) : fp_M := match o with
  | some _ => M
  | none => g_fd M 3
theorem g_dn_eq {M m : fp_M} {c n : Nat} (h : g_e M m) : nI (g_con m (m 50 1 + nI n) c) = g_dn M c n := by
  rw [h.r50, g_con_eq h]
def g_when (M : fp_M) (c n i : Nat) : Option Nat := k_first (fun n => decide (¬ g_hold M c (g_dn M c n))) n i
def g_known (M : fp_M) (c x y n i : Nat) : Option Nat := k_first (fun n => decide (g_hold M c (g_dn M c n) ∧ g_wid (g_cm M c (g_dn M c n)) x y = 1)) n i
theorem lp_X6_when {X : fp_X} {M : fp_M} {c : Nat} (hw : g_wf M c) : ∀ (n i : Nat), i + n = 501 → ∀ (N : fp_M), (g_e M N) → fp_W X mX6_when 2 [some (.ref 49), some (.int (nI i))] [] fp_sh N 0 0 (fun r s m => r = some (.int (k_wv (g_when M c n i) nI 3)) ∧ s = fp_sh ∧ g_e (g_wb M (g_when M c n i)) m) := by
  intro n
  induction n with
  | zero =>
    intro i hi N  hinv
    have ti : (nI i).toInt = (i : Int) := nI_toInt (by omega)
    refine r_iloadn dX6_when_2 rfl ?_
    refine r_sp (500) dX6_when_3 ?_
    refine r_icmp_gt 27 dX6_when_6 (fun h6 => ?_) (fun h6 => ?_)
    · refine r_iloadn dX6_when_27 rfl ?_
      refine r_sp (500) dX6_when_28 ?_
      refine r_icmp_gt 38 dX6_when_31 (fun h31 => ?_) (fun h31 => ?_)
      · refine r_aloadn dX6_when_38 rfl (by decide) ?_
        refine r_ldc dX6_when_39 kc_RX6_46 ?_
        refine c_V1 (μz := mX6_finds) dX6_when_41 kl_RX6_47 mv_X6_finds rfl (ok_X6_finds (w := 3) (by decide) (by decide)) ?_
        exact r_iret dX6_when_44 ⟨rfl, rfl, hinv.fd⟩
      · exfalso; simp only [Int32.le_iff_toInt_le, Int32.lt_iff_toInt_lt, Int32.reduceToInt] at h31; omega
    · exfalso; simp only [Int32.le_iff_toInt_le, Int32.lt_iff_toInt_lt, Int32.reduceToInt] at h6; omega
  | succ n ih =>
    intro i hi N  hinv
    have ti : (nI i).toInt = (i : Int) := nI_toInt (by omega)
    refine r_iloadn dX6_when_2 rfl ?_
    refine r_sp (500) dX6_when_3 ?_
    refine r_icmp_gt 27 dX6_when_6 (fun h6 => ?_) (fun h6 => ?_)
    · exfalso; simp only [Int32.le_iff_toInt_le, Int32.lt_iff_toInt_lt, Int32.reduceToInt] at h6; omega
    · refine r_aloadn dX6_when_9 rfl (by decide) ?_
      refine r_aloadn dX6_when_10 rfl (by decide) ?_
      refine r_iloadn dX6_when_11 rfl ?_
      refine c_V1 (μz := mX6_countIn) dX6_when_12 kl_RX6_96 mv_X6_countIn rfl (ok_X6_countIn (hinv.wf hw)) ?_
      rw [g_dn_eq hinv]
      refine c_V1 (μz := mX6_canHold) dX6_when_15 kl_RX6_122 mv_X6_canHold rfl (ok_X6_canHold (hinv.wf hw)) ?_
      rw [g_cm_eq hinv]
      refine r_if_eq 27 dX6_when_18 (fun h18 => ?_) (fun h18 => ?_)
      · have ew : g_when M c (n + 1) i = some i := by
          show (if decide (¬ g_hold M c (g_dn M c i)) = true then some i else _) = _
          rw [if_pos (by rw [decide_eq_true_eq]; exact fun q => q h18)]
        refine r_iloadn dX6_when_27 rfl ?_
        refine r_sp (500) dX6_when_28 ?_
        refine r_icmp_gt 38 dX6_when_31 (fun h31 => ?_) (fun h31 => ?_)
        · exfalso; simp only [Int32.le_iff_toInt_le, Int32.lt_iff_toInt_lt, Int32.reduceToInt] at h31; omega
        · refine r_iloadn dX6_when_34 rfl ?_
          refine r_goto 44 dX6_when_35 ?_
          exact r_iret dX6_when_44 ⟨by rw [ew]; rfl, rfl, by rw [ew]; exact g_cm_e hw⟩
      · refine r_iinc1 (1) dX6_when_21 ?_
        refine r_goto 2 dX6_when_24 ?_
        rw [nI_1]
        have e : g_when M c (n + 1) i = g_when M c n (i + 1) := by
          show (if decide (¬ g_hold M c (g_dn M c i)) = true then some i else _) = _
          rw [if_neg (by rw [decide_eq_true_eq]; exact fun q => q h18)]
          rfl
        rw [e]
        exact ih (i + 1) (by omega) _ (g_cm_e hw)

theorem ok_X6_when {X : fp_X} {M : fp_M} {c : Nat} (hw : g_wf M c) : fp_Ok X mX6_when [.ref 49] fp_sh M (fun r s m => r = some (.int (k_wv (g_when M c 501 0) nI 3)) ∧ s = fp_sh ∧ g_e (g_wb M (g_when M c 501 0)) m) := by
  refine fp_ok [some (.ref 49), none] ?_
  refine r_ic (0) dX6_when_0 ?_
  refine r_istore1 dX6_when_1 ?_
  exact lp_X6_when hw 501 0 (by omega) M (g_e_refl M)
theorem lp_X6_known {X : fp_X} {M : fp_M} {c : Nat} {a b : Int32} (hw : g_wf M c) (ea : a = nI (k_v a)) (eb : b = nI (k_v b)) (la : k_v a < 8) (lb : k_v b < 8) : ∀ (n i : Nat), i + n = 501 → ∀ (N : fp_M), (g_e M N) → fp_W X mX6_known 17 [some (.ref 49), some (.int a), some (.int b), some (.int (nI i))] [] fp_sh N 0 0 (fun r s m => r = some (.int (k_wv (g_known M c (k_v a) (k_v b) n i) nI 3)) ∧ s = fp_sh ∧ g_e (g_wb M (g_known M c (k_v a) (k_v b) n i)) m) := by
  intro n
  induction n with
  | zero =>
    intro i hi N  hinv
    have ti : (nI i).toInt = (i : Int) := nI_toInt (by omega)
    refine r_iloadn dX6_known_17 rfl ?_
    refine r_sp (500) dX6_known_18 ?_
    refine r_icmp_gt 52 dX6_known_21 (fun h21 => ?_) (fun h21 => ?_)
    · refine r_iloadn dX6_known_52 rfl ?_
      refine r_sp (500) dX6_known_53 ?_
      refine r_icmp_gt 63 dX6_known_56 (fun h56 => ?_) (fun h56 => ?_)
      · refine r_aloadn dX6_known_63 rfl (by decide) ?_
        refine r_ldc dX6_known_64 kc_RX6_46 ?_
        refine c_V1 (μz := mX6_finds) dX6_known_66 kl_RX6_47 mv_X6_finds rfl (ok_X6_finds (w := 3) (by decide) (by decide)) ?_
        exact r_iret dX6_known_69 ⟨rfl, rfl, hinv.fd⟩
      · exfalso; simp only [Int32.le_iff_toInt_le, Int32.lt_iff_toInt_lt, Int32.reduceToInt] at h56; omega
    · exfalso; simp only [Int32.le_iff_toInt_le, Int32.lt_iff_toInt_lt, Int32.reduceToInt] at h21; omega
  | succ n ih =>
    intro i hi N  hinv
    have ti : (nI i).toInt = (i : Int) := nI_toInt (by omega)
    refine r_iloadn dX6_known_17 rfl ?_
    refine r_sp (500) dX6_known_18 ?_
    refine r_icmp_gt 52 dX6_known_21 (fun h21 => ?_) (fun h21 => ?_)
    · exfalso; simp only [Int32.le_iff_toInt_le, Int32.lt_iff_toInt_lt, Int32.reduceToInt] at h21; omega
    · refine r_aloadn dX6_known_24 rfl (by decide) ?_
      refine r_aloadn dX6_known_25 rfl (by decide) ?_
      refine r_iloadn dX6_known_26 rfl ?_
      refine c_V1 (μz := mX6_countIn) dX6_known_27 kl_RX6_96 mv_X6_countIn rfl (ok_X6_countIn (hinv.wf hw)) ?_
      rw [g_dn_eq hinv]
      refine c_V1 (μz := mX6_canHold) dX6_known_30 kl_RX6_122 mv_X6_canHold rfl (ok_X6_canHold (hinv.wf hw)) ?_
      rw [g_cm_eq hinv]
      refine r_if_eq 46 dX6_known_33 (fun h33 => ?_) (fun h33 => ?_)
      · refine r_iinc3 (1) dX6_known_46 ?_
        refine r_goto 17 dX6_known_49 ?_
        rw [nI_1]
        have e : g_known M c (k_v a) (k_v b) (n + 1) i = g_known M c (k_v a) (k_v b) n (i + 1) := by
          show (if decide (g_hold M c (g_dn M c i) ∧ g_wid (g_cm M c (g_dn M c i)) (k_v a) (k_v b) = 1) = true then some i else _) = _
          rw [if_neg (by rw [decide_eq_true_eq]; exact fun q => q.1 h33)]
          rfl
        rw [e]
        exact ih (i + 1) (by omega) _ (g_cm_e hw)
      · refine r_aloadn dX6_known_36 rfl (by decide) ?_
        refine r_iloadn dX6_known_37 rfl ?_
        refine r_iloadn dX6_known_38 rfl ?_
        refine c_V2 (μz := mX6_spanOf) dX6_known_39 kl_RX6_125 mv_X6_spanOf rfl (ok_X6_spanOf ea eb la lb) ?_
        refine r_ic (1) dX6_known_42 ?_
        refine r_icmp_eq 52 dX6_known_43 (fun h43 => ?_) (fun h43 => ?_)
        · have ew : g_known M c (k_v a) (k_v b) (n + 1) i = some i := by
            show (if decide (g_hold M c (g_dn M c i) ∧ g_wid (g_cm M c (g_dn M c i)) (k_v a) (k_v b) = 1) = true then some i else _) = _
            rw [if_pos (by rw [decide_eq_true_eq]; exact ⟨h33, h43⟩)]
          refine r_iloadn dX6_known_52 rfl ?_
          refine r_sp (500) dX6_known_53 ?_
          refine r_icmp_gt 63 dX6_known_56 (fun h56 => ?_) (fun h56 => ?_)
          · exfalso; simp only [Int32.le_iff_toInt_le, Int32.lt_iff_toInt_lt, Int32.reduceToInt] at h56; omega
          · refine r_iloadn dX6_known_59 rfl ?_
            refine r_goto 69 dX6_known_60 ?_
            exact r_iret dX6_known_69 ⟨by rw [ew]; rfl, rfl, by rw [ew]; exact g_cm_e hw⟩
        · refine r_iinc3 (1) dX6_known_46 ?_
          refine r_goto 17 dX6_known_49 ?_
          rw [nI_1]
          have e : g_known M c (k_v a) (k_v b) (n + 1) i = g_known M c (k_v a) (k_v b) n (i + 1) := by
            show (if decide (g_hold M c (g_dn M c i) ∧ g_wid (g_cm M c (g_dn M c i)) (k_v a) (k_v b) = 1) = true then some i else _) = _
            rw [if_neg (by rw [decide_eq_true_eq]; exact fun q => h43 q.2)]
            rfl
          rw [e]
          exact ih (i + 1) (by omega) _ (g_cm_e hw)

def sg_known (M : fp_M) (c : Nat) (a b : Int32) : Int32 × fp_M := if k_pair a b then (k_wv (g_known M c (k_v a) (k_v b) 501 0) nI 3, g_wb M (g_known M c (k_v a) (k_v b) 501 0)) else (-1000001, g_fd M 0)
theorem ok_X6_known {X : fp_X} {M : fp_M} {c : Nat} {a b : Int32} (hw : g_wf M c) : fp_Ok X mX6_known [.ref 49, .int a, .int b] fp_sh M (fun r s m => r = some (.int (sg_known M c a b).1) ∧ s = fp_sh ∧ g_e (sg_known M c a b).2 m) := by
  refine fp_ok [some (.ref 49), some (.int a), some (.int b), none] ?_
  refine r_iloadn dX6_known_0 rfl ?_
  refine r_iloadn dX6_known_1 rfl ?_
  refine c_S2 (μz := mX6_isPair) dX6_known_2 kl_RX6_70 ms_X6_isPair ok_X6_isPair ?_
  refine r_if_ne 15 dX6_known_5 (fun h5 => ?_) (fun h5 => ?_)
  · refine r_ic (0) dX6_known_15 ?_
    refine r_istore3 dX6_known_16 ?_
    obtain ⟨ea, la⟩ := g_v7 (bi_1.mp h5).1
    obtain ⟨eb, lb⟩ := g_v7 (bi_1.mp h5).2.1
    unfold sg_known
    rw [if_pos (bi_1.mp h5)]
    exact lp_X6_known hw ea eb la lb 501 0 (by omega) M (g_e_refl M)
  · refine r_aloadn dX6_known_8 rfl (by decide) ?_
    refine r_ldc dX6_known_9 kc_RX6_37 ?_
    refine c_V1 (μz := mX6_finds) dX6_known_11 kl_RX6_47 mv_X6_finds rfl (ok_X6_finds (w := 0) (by decide) (by decide)) ?_
    exact r_iret dX6_known_14 ⟨by unfold sg_known; rw [if_neg (bi_0.mp h5)], rfl, by unfold sg_known; rw [if_neg (bi_0.mp h5)]; exact g_e_refl _⟩
