/-! ===== the other one's calls 2 ===== -/
theorem g_vb {a : Int32} {n : Nat} (h0 : 0 ≤ a) (hn : a.toInt < (n : Int)) (h1 : n < 1000) : a = nI (k_v a) ∧ k_v a < n := by
  have h2 : 0 ≤ a.toInt := by have := Int32.le_iff_toInt_le.mp h0; simpa using this
  have e : (a.toNatClampNeg : Int) = a.toInt := Int.toNat_of_nonneg h2
  have h3 : k_v a < n := by show a.toNatClampNeg < n; omega
  refine ⟨Int32.toInt_inj.mp ?_, h3⟩
  rw [nI_toInt (by omega)]
  exact e.symm
theorem g_vl {M : fp_M} {c : Nat} {l : Int32} (hw : g_wf M c) (h : 0 ≤ l ∧ l < M 50 0) : l = nI (k_v l) ∧ k_v l < c := by
  have h8 := hw.1
  refine g_vb h.1 ?_ (by omega)
  have h2 := Int32.lt_iff_toInt_lt.mp h.2
  rw [hw.2.1, nI_toInt (by omega)] at h2
  exact h2
theorem g_v6 {w : Int32} (h : 0 ≤ w ∧ w ≤ 9) (h6 : ¬ w = 6) (h7 : ¬ w = 7) (h8 : ¬ w = 8) (h9 : ¬ w = 9) : w = nI (k_v w) ∧ k_v w < 6 := by
  refine g_vb h.1 ?_ (by decide)
  simp only [Int32.le_iff_toInt_le, ← Int32.toInt_inj, Int32.reduceToInt] at *
  omega
theorem ok_X6_leastOfL {X : fp_X} {M : fp_M} {l : Int32} {i : Nat} (hl : l = nI i) (hi : i < 8) : fp_Ev X mX6_leastOf [.ref 49, .int l] fp_sh M (some (.int (g_least M i))) M := by
  subst hl
  exact ok_X6_leastOf hi
theorem ok_X6_mostOfL {X : fp_X} {M : fp_M} {l : Int32} {i : Nat} (hl : l = nI i) (hi : i < 8) : fp_Ev X mX6_mostOf [.ref 49, .int l] fp_sh M (some (.int (g_most M i))) M := by
  subst hl
  exact ok_X6_mostOf hi
theorem ok_X6_comesOnL {X : fp_X} {M : fp_M} {l : Int32} {i : Nat} (hl : l = nI i) (hi : i < 8) : fp_Ev X mX6_comesOn [.ref 49, .int l] fp_sh M (some (.int (g_come M i))) M := by
  subst hl
  exact ok_X6_comesOn hi
def sg_of (M : fp_M) (c : Nat) (l w : Int32) : Int32 × fp_M := if (0 ≤ l ∧ l < M 50 0) ∧ (0 ≤ w ∧ w ≤ 9) then ((if w = 6 then g_least M (k_v l) else if w = 7 then g_most M (k_v l) else if w = 8 then g_come M (k_v l) else if w = 9 then (nI (g_con M (M 50 1 + 0) c) >>> (l &&& 31)) &&& 1 else M 50 (5 + 6 * k_v l + k_v w)), M) else (-1000001, g_fd M 0)
abbrev g_isfit (M : fp_M) (i : Nat) (w v : Int32) : Prop := (w = 0 ∧ 0 ≤ v ∧ v ≤ 6) ∨ (w = 1 ∧ k_pair v (M 50 (5 + 6 * i + 2))) ∨ (w = 2 ∧ k_pair v (M 50 (5 + 6 * i + 1))) ∨ (w = 3 ∧ -99 ≤ v ∧ v ≤ 99) ∨ (w = 4 ∧ 0 ≤ v ∧ v ≤ 999) ∨ (w = 5 ∧ 0 ≤ v ∧ v ≤ 1)
def sg_now (M : fp_M) (c : Nat) (w : Int32) : Int32 × fp_M := if w = 0 then (M 50 1, M) else if w = 1 then (nI (g_con M (M 50 1 + 0) c), M) else if w = 2 then (nI (g_lat M (M 50 1 + 0) c), M) else if w = 3 then (nI (g_str M c), M) else if w = 4 then (M 50 2, M) else if w = 5 then (M 50 3, M) else (-1000001, g_fd M 0)
theorem g_d8 : ∀ k, k < 64 → nI k / 8 = nI (k / 8) ∧ nI k - nI k / 8 * 8 = nI (k % 8) ∧ ((nI k - nI k / 8 * 8 ≤ nI k / 8) ↔ ¬ (k / 8 < k % 8)) := by decide +kernel
def g_wk (N : fp_M) (k b : Nat) : Nat := if k / 8 < k % 8 ∧ g_wid N (b / 8) (b % 8) < g_wid N (k / 8) (k % 8) then k else b
def sg_widest (M : fp_M) (c : Nat) : Int32 × fp_M := if g_ok (g_cc M c) = 0 then (-1000004, g_fd (g_cc M c) 3) else (nI (k_it (g_wk (g_cc M c)) 62 2 1), g_cc M c)
theorem ok_X6_of {X : fp_X} {M : fp_M} {c : Nat} {l w : Int32} (hw : g_wf M c): fp_Ev X mX6_of [.ref 49, .int l, .int w] fp_sh M (some (.int (sg_of M c l w).1)) (sg_of M c l w).2 := by
  refine fp_ok [some (.ref 49), some (.int l), some (.int w)] ?_
  refine r_aloadn dX6_of_0 rfl (by decide) ?_
  refine r_iloadn dX6_of_1 rfl ?_
  refine c_V1 (μz := mX6_isLetter) dX6_of_2 kl_RX6_85 mv_X6_isLetter rfl ok_X6_isLetter ?_
  refine r_if_eq 20 dX6_of_5 (fun h5 => ?_) (fun h5 => ?_)
  · refine r_aloadn dX6_of_20 rfl (by decide) ?_
    refine r_ldc dX6_of_21 kc_RX6_37 ?_
    refine c_V1 (μz := mX6_finds) dX6_of_23 kl_RX6_47 mv_X6_finds rfl (ok_X6_finds (w := 0) (by decide) (by decide)) ?_
    exact r_iret dX6_of_26 ⟨by unfold sg_of; rw [if_neg (fun q => absurd q.1 (bi_0.mp h5))], rfl, by unfold sg_of; rw [if_neg (fun q => absurd q.1 (bi_0.mp h5))]⟩
  · refine r_iloadn dX6_of_8 rfl ?_
    refine r_i2l dX6_of_9 ?_
    refine r_lc 0 dX6_of_10 ?_
    refine r_ldc2 dX6_of_11 kc_RX6_88 ?_
    refine c_S3 (μz := mX6_isIn) dX6_of_14 kl_RX6_42 ms_X6_isIn (ok_X6_in (lo := 0) (hi := 9) (by decide) (by decide)) ?_
    refine r_if_ne 27 dX6_of_17 (fun h17 => ?_) (fun h17 => ?_)
    · have hp : (0 ≤ l ∧ l < M 50 0) ∧ (0 ≤ w ∧ w ≤ 9) := ⟨bi_1.mp h5, bi_1.mp h17⟩
      obtain ⟨el, ll⟩ := g_vl hw hp.1
      have h8 := hw.1
      refine r_iloadn dX6_of_27 rfl ?_
      refine r_tsw [(6, 60), (7, 66), (8, 72), (9, 78)] 88 dX6_of_28 (And.intro (fun h28 => ?_) (And.intro (fun h28 => ?_) (And.intro (fun h28 => ?_) (And.intro (fun h28 => ?_) (trivial))))) (fun h28 => ?_)
      · refine r_aloadn dX6_of_60 rfl (by decide) ?_
        refine r_iloadn dX6_of_61 rfl ?_
        refine c_V1 (μz := mX6_leastOf) dX6_of_62 kl_RX6_90 mv_X6_leastOf rfl (ok_X6_leastOfL el (by omega)) ?_
        exact r_iret dX6_of_65 ⟨by simp only [fp_tn] at h28; unfold sg_of; rw [if_pos hp]; simp [h28], rfl, by unfold sg_of; rw [if_pos hp]⟩
      · refine r_aloadn dX6_of_66 rfl (by decide) ?_
        refine r_iloadn dX6_of_67 rfl ?_
        refine c_V1 (μz := mX6_mostOf) dX6_of_68 kl_RX6_93 mv_X6_mostOf rfl (ok_X6_mostOfL el (by omega)) ?_
        exact r_iret dX6_of_71 ⟨by simp only [fp_tn] at h28; unfold sg_of; rw [if_pos hp]; simp [h28], rfl, by unfold sg_of; rw [if_pos hp]⟩
      · refine r_aloadn dX6_of_72 rfl (by decide) ?_
        refine r_iloadn dX6_of_73 rfl ?_
        refine c_V1 (μz := mX6_comesOn) dX6_of_74 kl_RX6_58 mv_X6_comesOn rfl (ok_X6_comesOnL el (by omega)) ?_
        exact r_iret dX6_of_77 ⟨by simp only [fp_tn] at h28; unfold sg_of; rw [if_pos hp]; simp [h28], rfl, by unfold sg_of; rw [if_pos hp]⟩
      · refine r_aloadn dX6_of_78 rfl (by decide) ?_
        refine r_ic (0) dX6_of_79 ?_
        refine c_V1 (μz := mX6_countIn) dX6_of_80 kl_RX6_96 mv_X6_countIn rfl (ok_X6_countIn hw) ?_
        refine r_iloadn dX6_of_83 rfl ?_
        refine r_ishr dX6_of_84 ?_
        refine r_ic (1) dX6_of_85 ?_
        refine r_iand dX6_of_86 ?_
        exact r_iret dX6_of_87 ⟨by simp only [fp_tn] at h28; unfold sg_of; rw [if_pos hp]; simp [h28], rfl, by unfold sg_of; rw [if_pos hp]⟩
      · simp only [fp_tn] at h28
        obtain ⟨ew, lw⟩ : w = nI (k_v w) ∧ k_v w < 6 := g_v6 hp.2 (by simp [h28]) (by simp [h28]) (by simp [h28]) (by simp [h28])
        refine r_aloadn dX6_of_88 rfl (by decide) ?_
        refine r_iloadn dX6_of_89 rfl ?_
        refine r_iloadn dX6_of_90 rfl ?_
        refine c_V2 (μz := mX6_its) dX6_of_91 kl_RX6_51 mv_X6_its rfl (ok_X6_its el ew (by omega) lw) ?_
        exact r_iret dX6_of_94 ⟨by unfold sg_of; rw [if_pos hp]; simp [h28], rfl, by unfold sg_of; rw [if_pos hp]⟩
    · refine r_aloadn dX6_of_20 rfl (by decide) ?_
      refine r_ldc dX6_of_21 kc_RX6_37 ?_
      refine c_V1 (μz := mX6_finds) dX6_of_23 kl_RX6_47 mv_X6_finds rfl (ok_X6_finds (w := 0) (by decide) (by decide)) ?_
      exact r_iret dX6_of_26 ⟨by unfold sg_of; rw [if_neg (fun q => absurd q.2 (bi_0.mp h17))], rfl, by unfold sg_of; rw [if_neg (fun q => absurd q.2 (bi_0.mp h17))]⟩
theorem ok_X6_isFit {X : fp_X} {M : fp_M} {i : Nat} {l w v : Int32} (hl : l = nI i) (hi : i < 8): fp_Ev X mX6_isFit [.ref 49, .int l, .int w, .int v] fp_sh M (some (.int (bi (g_isfit M i w v)))) M := by
  refine fp_ok [some (.ref 49), some (.int l), some (.int w), some (.int v)] ?_
  refine r_iloadn dX6_isFit_0 rfl ?_
  refine r_tsw [(0, 36), (1, 46), (2, 57), (3, 68), (4, 80)] 90 dX6_isFit_1 (And.intro (fun h1 => ?_) (And.intro (fun h1 => ?_) (And.intro (fun h1 => ?_) (And.intro (fun h1 => ?_) (And.intro (fun h1 => ?_) (trivial)))))) (fun h1 => ?_)
  · refine r_iloadn dX6_isFit_36 rfl ?_
    refine r_i2l dX6_isFit_37 ?_
    refine r_lc 0 dX6_isFit_38 ?_
    refine r_ldc2 dX6_isFit_39 kc_RX6_68 ?_
    refine c_S3 (μz := mX6_isIn) dX6_isFit_42 kl_RX6_42 ms_X6_isIn (ok_X6_in (lo := 0) (hi := 6) (by decide) (by decide)) ?_
    simp only [fp_tn] at h1
    rw [show bi (0 ≤ v ∧ v ≤ 6) = bi (g_isfit M i w v) from bi_iff (by simp [g_isfit, h1])]
    exact r_iret dX6_isFit_45 ⟨rfl, rfl, rfl⟩ rfl nar_bi
  · refine r_iloadn dX6_isFit_46 rfl ?_
    refine r_aloadn dX6_isFit_47 rfl (by decide) ?_
    refine r_iloadn dX6_isFit_48 rfl ?_
    refine r_ic (2) dX6_isFit_49 ?_
    refine c_V2 (μz := mX6_its) dX6_isFit_50 kl_RX6_51 mv_X6_its rfl (ok_X6_its (i := i) (j := 2) hl rfl hi (by decide)) ?_
    refine c_S2 (μz := mX6_isPair) dX6_isFit_53 kl_RX6_70 ms_X6_isPair ok_X6_isPair ?_
    simp only [fp_tn] at h1
    rw [show bi (k_pair v (M 50 (5 + 6 * i + 2))) = bi (g_isfit M i w v) from bi_iff (by simp [g_isfit, h1])]
    exact r_iret dX6_isFit_56 ⟨rfl, rfl, rfl⟩ rfl nar_bi
  · refine r_iloadn dX6_isFit_57 rfl ?_
    refine r_aloadn dX6_isFit_58 rfl (by decide) ?_
    refine r_iloadn dX6_isFit_59 rfl ?_
    refine r_ic (1) dX6_isFit_60 ?_
    refine c_V2 (μz := mX6_its) dX6_isFit_61 kl_RX6_51 mv_X6_its rfl (ok_X6_its (i := i) (j := 1) hl rfl hi (by decide)) ?_
    refine c_S2 (μz := mX6_isPair) dX6_isFit_64 kl_RX6_70 ms_X6_isPair ok_X6_isPair ?_
    simp only [fp_tn] at h1
    rw [show bi (k_pair v (M 50 (5 + 6 * i + 1))) = bi (g_isfit M i w v) from bi_iff (by simp [g_isfit, h1])]
    exact r_iret dX6_isFit_67 ⟨rfl, rfl, rfl⟩ rfl nar_bi
  · refine r_iloadn dX6_isFit_68 rfl ?_
    refine r_i2l dX6_isFit_69 ?_
    refine r_ldc2 dX6_isFit_70 kc_RX6_74 ?_
    refine r_ldc2 dX6_isFit_73 kc_RX6_76 ?_
    refine c_S3 (μz := mX6_isIn) dX6_isFit_76 kl_RX6_42 ms_X6_isIn (ok_X6_in (lo := (-99)) (hi := 99) (by decide) (by decide)) ?_
    simp only [fp_tn] at h1
    rw [show bi (-99 ≤ v ∧ v ≤ 99) = bi (g_isfit M i w v) from bi_iff (by simp [g_isfit, h1])]
    exact r_iret dX6_isFit_79 ⟨rfl, rfl, rfl⟩ rfl nar_bi
  · refine r_iloadn dX6_isFit_80 rfl ?_
    refine r_i2l dX6_isFit_81 ?_
    refine r_lc 0 dX6_isFit_82 ?_
    refine r_ldc2 dX6_isFit_83 kc_RX6_78 ?_
    refine c_S3 (μz := mX6_isIn) dX6_isFit_86 kl_RX6_42 ms_X6_isIn (ok_X6_in (lo := 0) (hi := 999) (by decide) (by decide)) ?_
    simp only [fp_tn] at h1
    rw [show bi (0 ≤ v ∧ v ≤ 999) = bi (g_isfit M i w v) from bi_iff (by simp [g_isfit, h1])]
    exact r_iret dX6_isFit_89 ⟨rfl, rfl, rfl⟩ rfl nar_bi
  · refine r_iloadn dX6_isFit_90 rfl ?_
    refine r_ic (5) dX6_isFit_91 ?_
    refine r_icmp_ne 109 dX6_isFit_92 (fun h92 => ?_) (fun h92 => ?_)
    · refine r_ic (0) dX6_isFit_109 ?_
      exact r_iret dX6_isFit_110 ⟨by simp only [fp_tn] at h1; rw [bi_f (by simp [g_isfit, h1, h92])], rfl, rfl⟩
    · refine r_iloadn dX6_isFit_95 rfl ?_
      refine r_i2l dX6_isFit_96 ?_
      refine r_lc 0 dX6_isFit_97 ?_
      refine r_lc 1 dX6_isFit_98 ?_
      refine c_S3 (μz := mX6_isIn) dX6_isFit_99 kl_RX6_42 ms_X6_isIn (ok_X6_in (lo := 0) (hi := 1) (by decide) (by decide)) ?_
      refine r_if_eq 109 dX6_isFit_102 (fun h102 => ?_) (fun h102 => ?_)
      · refine r_ic (0) dX6_isFit_109 ?_
        exact r_iret dX6_isFit_110 ⟨by rw [bi_f (by rw [bi_0] at h102; subst h92; simp only [g_isfit]; intro q; simp at q; exact h102 q)], rfl, rfl⟩
      · refine r_ic (1) dX6_isFit_105 ?_
        refine r_goto 110 dX6_isFit_106 ?_
        exact r_iret dX6_isFit_110 ⟨by rw [bi_t (Or.inr (Or.inr (Or.inr (Or.inr (Or.inr ⟨h92, bi_1.mp h102⟩)))))], rfl, rfl⟩
theorem ok_X6_now {X : fp_X} {M : fp_M} {c : Nat} {w : Int32} (hw : g_wf M c): fp_Ev X mX6_now [.ref 49, .int w] fp_sh M (some (.int (sg_now M c w).1)) (sg_now M c w).2 := by
  refine fp_ok [some (.ref 49), some (.int w)] ?_
  refine r_iloadn dX6_now_0 rfl ?_
  refine r_tsw [(0, 40), (1, 47), (2, 53), (3, 59), (4, 64), (5, 64)] 75 dX6_now_1 (And.intro (fun h1 => ?_) (And.intro (fun h1 => ?_) (And.intro (fun h1 => ?_) (And.intro (fun h1 => ?_) (And.intro (fun h1 => ?_) (And.intro (fun h1 => ?_) (trivial))))))) (fun h1 => ?_)
  · refine r_aloadn dX6_now_40 rfl (by decide) ?_
    refine r_getfr dX6_now_41 kf_RX6_7 rfl rfl ?_
    refine r_ic (1) dX6_now_44 ?_
    refine r_ialdL dX6_now_45 rfl rfl (by decide) ?_
    exact r_iret dX6_now_46 ⟨by simp only [fp_tn] at h1; simp [sg_now, h1], rfl, by simp only [fp_tn] at h1; simp [sg_now, h1]⟩
  · refine r_aloadn dX6_now_47 rfl (by decide) ?_
    refine r_ic (0) dX6_now_48 ?_
    refine c_V1 (μz := mX6_countIn) dX6_now_49 kl_RX6_96 mv_X6_countIn rfl (ok_X6_countIn hw) ?_
    exact r_iret dX6_now_52 ⟨by simp only [fp_tn] at h1; simp [sg_now, h1], rfl, by simp only [fp_tn] at h1; simp [sg_now, h1]⟩
  · refine r_aloadn dX6_now_53 rfl (by decide) ?_
    refine r_ic (0) dX6_now_54 ?_
    refine c_V1 (μz := mX6_laterThan) dX6_now_55 kl_RX6_65 mv_X6_laterThan rfl (ok_X6_laterThan hw) ?_
    exact r_iret dX6_now_58 ⟨by simp only [fp_tn] at h1; simp [sg_now, h1], rfl, by simp only [fp_tn] at h1; simp [sg_now, h1]⟩
  · refine r_aloadn dX6_now_59 rfl (by decide) ?_
    refine c_V0 (μz := mX6_strucks) dX6_now_60 kl_RX6_61 mv_X6_strucks rfl (ok_X6_strucks hw) ?_
    exact r_iret dX6_now_63 ⟨by simp only [fp_tn] at h1; simp [sg_now, h1], rfl, by simp only [fp_tn] at h1; simp [sg_now, h1]⟩
  · refine r_aloadn dX6_now_64 rfl (by decide) ?_
    refine r_getfr dX6_now_65 kf_RX6_7 rfl rfl ?_
    refine r_ic (2) dX6_now_68 ?_
    refine r_iloadn dX6_now_69 rfl ?_
    refine r_iadd dX6_now_70 ?_
    refine r_ic (4) dX6_now_71 ?_
    refine r_isub dX6_now_72 ?_
    refine r_ialdL (j := 2) dX6_now_73 rfl (by simp only [fp_tn] at h1; subst h1; decide) (by decide) ?_
    exact r_iret dX6_now_74 ⟨by simp only [fp_tn] at h1; simp [sg_now, h1], rfl, by simp only [fp_tn] at h1; simp [sg_now, h1]⟩
  · refine r_aloadn dX6_now_64 rfl (by decide) ?_
    refine r_getfr dX6_now_65 kf_RX6_7 rfl rfl ?_
    refine r_ic (2) dX6_now_68 ?_
    refine r_iloadn dX6_now_69 rfl ?_
    refine r_iadd dX6_now_70 ?_
    refine r_ic (4) dX6_now_71 ?_
    refine r_isub dX6_now_72 ?_
    refine r_ialdL (j := 3) dX6_now_73 rfl (by simp only [fp_tn] at h1; subst h1; decide) (by decide) ?_
    exact r_iret dX6_now_74 ⟨by simp only [fp_tn] at h1; simp [sg_now, h1], rfl, by simp only [fp_tn] at h1; simp [sg_now, h1]⟩
  · refine r_aloadn dX6_now_75 rfl (by decide) ?_
    refine r_ldc dX6_now_76 kc_RX6_37 ?_
    refine c_V1 (μz := mX6_finds) dX6_now_78 kl_RX6_47 mv_X6_finds rfl (ok_X6_finds (w := 0) (by decide) (by decide)) ?_
    exact r_iret dX6_now_81 ⟨by simp only [fp_tn] at h1; simp [sg_now, h1], rfl, by simp only [fp_tn] at h1; simp [sg_now, h1]⟩
theorem lp_X6_widest {X : fp_X} {N : fp_M} : ∀ (n i : Nat), i + n = 64 → ∀ (b : Nat), (b < 64) → fp_W X mX6_widest 18 [some (.ref 49), some (.int (nI b)), some (.int (nI i))] [] fp_sh N 0 0 (fun r s m => r = some (.int (nI (k_it (g_wk N) n i b))) ∧ s = fp_sh ∧ m = N) := by
  intro n
  induction n with
  | zero =>
    intro i hi b  hinv
    have ti : (nI i).toInt = (i : Int) := nI_toInt (by omega)
    refine r_iloadn dX6_widest_18 rfl ?_
    refine r_bp (64) dX6_widest_19 ?_
    refine r_icmp_ge 74 dX6_widest_21 (fun h21 => ?_) (fun h21 => ?_)
    · refine r_iloadn dX6_widest_74 rfl ?_
      exact r_iret dX6_widest_75 ⟨rfl, rfl, rfl⟩
    · exfalso; simp only [Int32.le_iff_toInt_le, Int32.lt_iff_toInt_lt, Int32.reduceToInt] at h21; omega
  | succ n ih =>
    intro i hi b  hinv
    have ti : (nI i).toInt = (i : Int) := nI_toInt (by omega)
    refine r_iloadn dX6_widest_18 rfl ?_
    refine r_bp (64) dX6_widest_19 ?_
    refine r_icmp_ge 74 dX6_widest_21 (fun h21 => ?_) (fun h21 => ?_)
    · exfalso; simp only [Int32.le_iff_toInt_le, Int32.lt_iff_toInt_lt, Int32.reduceToInt] at h21; omega
    · refine r_iloadn dX6_widest_24 rfl ?_
      refine r_bp (8) dX6_widest_25 ?_
      refine r_idiv dX6_widest_27 (by decide) ?_
      refine r_iloadn dX6_widest_28 rfl ?_
      refine r_bp (8) dX6_widest_29 ?_
      refine r_irem dX6_widest_31 (by decide) ?_
      refine r_icmp_ge 66 dX6_widest_32 (fun h32 => ?_) (fun h32 => ?_)
      · refine r_iloadn dX6_widest_66 rfl ?_
        refine r_istore1 dX6_widest_67 ?_
        refine r_iinc2 (1) dX6_widest_68 ?_
        refine r_goto 18 dX6_widest_71 ?_
        rw [nI_1, k_it_s, show g_wk N i b = b from by unfold g_wk; rw [if_neg (fun q => ((g_d8 i (by omega)).2.2.mp h32) q.1)]]
        exact ih (i + 1) (by omega) b hinv
      · refine r_aloadn dX6_widest_35 rfl (by decide) ?_
        refine r_iloadn dX6_widest_36 rfl ?_
        refine r_bp (8) dX6_widest_37 ?_
        refine r_idiv dX6_widest_39 (by decide) ?_
        refine r_iloadn dX6_widest_40 rfl ?_
        refine r_bp (8) dX6_widest_41 ?_
        refine r_irem dX6_widest_43 (by decide) ?_
        refine c_V2 (μz := mX6_spanOf) dX6_widest_44 kl_RX6_125 mv_X6_spanOf rfl (ok_X6_spanOf (a := i / 8) (b := i % 8) (g_d8 i (by omega)).1 (g_d8 i (by omega)).2.1 (by omega) (by omega)) ?_
        refine r_aloadn dX6_widest_47 rfl (by decide) ?_
        refine r_iloadn dX6_widest_48 rfl ?_
        refine r_bp (8) dX6_widest_49 ?_
        refine r_idiv dX6_widest_51 (by decide) ?_
        refine r_iloadn dX6_widest_52 rfl ?_
        refine r_bp (8) dX6_widest_53 ?_
        refine r_irem dX6_widest_55 (by decide) ?_
        refine c_V2 (μz := mX6_spanOf) dX6_widest_56 kl_RX6_125 mv_X6_spanOf rfl (ok_X6_spanOf (a := b / 8) (b := b % 8) (g_d8 b hinv).1 (g_d8 b hinv).2.1 (by omega) (by omega)) ?_
        refine r_icmp_le 66 dX6_widest_59 (fun h59 => ?_) (fun h59 => ?_)
        · refine r_iloadn dX6_widest_66 rfl ?_
          refine r_istore1 dX6_widest_67 ?_
          refine r_iinc2 (1) dX6_widest_68 ?_
          refine r_goto 18 dX6_widest_71 ?_
          rw [nI_1, k_it_s, show g_wk N i b = b from by unfold g_wk; rw [if_neg (fun q => absurd q.2 (Int32.not_lt.mpr h59))]]
          exact ih (i + 1) (by omega) b hinv
        · refine r_iloadn dX6_widest_62 rfl ?_
          refine r_goto 67 dX6_widest_63 ?_
          refine r_istore1 dX6_widest_67 ?_
          refine r_iinc2 (1) dX6_widest_68 ?_
          refine r_goto 18 dX6_widest_71 ?_
          rw [nI_1, k_it_s, show g_wk N i b = i from by unfold g_wk; rw [if_pos ⟨Decidable.not_not.mp (fun q => h32 ((g_d8 i (by omega)).2.2.mpr q)), Int32.not_le.mp h59⟩]]
          exact ih (i + 1) (by omega) i (by omega)

theorem ok_X6_widest {X : fp_X} {M : fp_M} {c : Nat} (hw : g_wf M c): fp_Ev X mX6_widest [.ref 49] fp_sh M (some (.int (sg_widest M c).1)) (sg_widest M c).2 := by
  refine fp_ok [some (.ref 49), none, none] ?_
  refine r_aloadn dX6_widest_0 rfl (by decide) ?_
  refine c_V0 (μz := mX6_isFitting) dX6_widest_1 kl_RX6_128 mv_X6_isFitting rfl (ok_X6_isFitting hw) ?_
  refine r_if_ne 14 dX6_widest_4 (fun h4 => ?_) (fun h4 => ?_)
  · refine r_ic (1) dX6_widest_14 ?_
    refine r_istore1 dX6_widest_15 ?_
    refine r_ic (2) dX6_widest_16 ?_
    refine r_istore2 dX6_widest_17 ?_
    unfold sg_widest
    rw [if_neg h4]
    exact lp_X6_widest 62 2 (by omega) 1 (by decide)
  · refine r_aloadn dX6_widest_7 rfl (by decide) ?_
    refine r_ldc dX6_widest_8 kc_RX6_46 ?_
    refine c_V1 (μz := mX6_finds) dX6_widest_10 kl_RX6_47 mv_X6_finds rfl (ok_X6_finds (w := 3) (by decide) (by decide)) ?_
    exact r_iret dX6_widest_13 ⟨by unfold sg_widest; rw [if_pos h4], rfl, by unfold sg_widest; rw [if_pos h4]⟩
