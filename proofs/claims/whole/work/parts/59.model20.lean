/-! ===== the other one: sheets as maps ===== -/
abbrev g_told (M : fp_M) (t a b : Nat) : Int64 := (M 57 (40 * t + b)).toInt64 - (M 57 (40 * t + a)).toInt64
abbrev g_near (M : fp_M) (t a b : Nat) : Prop := -999 ≤ g_told M t a b ∧ g_told M t a b ≤ 999
def g_bin (M : fp_M) (t a : Nat) (b : Nat) (bar : Int32) : Int32 := if g_near M t a b then bar else -1000005
def g_bar (M : fp_M) (t : Nat) : Nat → Nat → Int32
  | 0, _ => 0
  | n + 1, a => if k_it (g_bin M t a) a 0 0 = 0 then g_bar M t n (a + 1) else k_it (g_bin M t a) a 0 0
def g_wp (M : fp_M) (t : Int32) : Int32 := if g_want M t = 0 then (if k_v (M 56 (k_v t)) ≤ 8 then g_bar M (k_v t) (k_v (M 56 (k_v t))) 0 else -1000005) else g_want M t
theorem g_bin_v (M : fp_M) (t a : Nat) : ∀ n b bar, (bar = 0 ∨ bar = -1000005) → (k_it (g_bin M t a) n b bar = 0 ∧ bar = 0 ∧ ∀ j, b ≤ j → j < b + n → g_near M t a j) ∨ (k_it (g_bin M t a) n b bar = -1000005 ∧ ¬ (bar = 0 ∧ ∀ j, b ≤ j → j < b + n → g_near M t a j))
  | 0, b, bar, h => by
    rcases h with h | h
    · exact Or.inl ⟨h, h, fun j h1 h2 => absurd h1 (by omega)⟩
    · exact Or.inr ⟨h, fun q => by rw [h] at q; exact absurd q.1 (by decide)⟩
  | n + 1, b, bar, h => by
    rw [k_it_s]
    by_cases q : g_near M t a b
    · have e : g_bin M t a b bar = bar := by unfold g_bin; rw [if_pos q]
      rw [e]
      rcases g_bin_v M t a n (b + 1) bar h with r | r
      · refine Or.inl ⟨r.1, r.2.1, fun j h1 h2 => ?_⟩
        by_cases hj : j = b
        · rw [hj]; exact q
        · exact r.2.2 j (by omega) (by omega)
      · exact Or.inr ⟨r.1, fun z => r.2 ⟨z.1, fun j h1 h2 => z.2 j (by omega) (by omega)⟩⟩
    · have e : g_bin M t a b bar = -1000005 := by unfold g_bin; rw [if_neg q]
      rw [e]
      rcases g_bin_v M t a n (b + 1) (-1000005) (Or.inr rfl) with r | r
      · exact absurd r.2.1 (by decide)
      · exact Or.inr ⟨r.1, fun z => q (z.2 b (by omega) (by omega))⟩
theorem g_bar_v (M : fp_M) (t : Nat) : ∀ n a, (g_bar M t n a = 0 ∧ ∀ i, a ≤ i → i < a + n → ∀ j, j < i → g_near M t i j) ∨ (g_bar M t n a = -1000005 ∧ ¬ ∀ i, a ≤ i → i < a + n → ∀ j, j < i → g_near M t i j)
  | 0, a => Or.inl ⟨rfl, fun i h1 h2 => absurd h1 (by omega)⟩
  | n + 1, a => by
    show ((if k_it (g_bin M t a) a 0 0 = 0 then g_bar M t n (a + 1) else k_it (g_bin M t a) a 0 0) = 0 ∧ _) ∨ ((if k_it (g_bin M t a) a 0 0 = 0 then g_bar M t n (a + 1) else k_it (g_bin M t a) a 0 0) = -1000005 ∧ _)
    rcases g_bin_v M t a a 0 0 (Or.inl rfl) with r | r
    · rw [if_pos r.1]
      rcases g_bar_v M t n (a + 1) with s | s
      · refine Or.inl ⟨s.1, fun i h1 h2 j hj => ?_⟩
        by_cases hi : i = a
        · rw [hi] at hj ⊢; exact r.2.2 j (by omega) (by omega)
        · exact s.2 i (by omega) (by omega) j hj
      · exact Or.inr ⟨s.1, fun z => s.2 (fun i h1 h2 => z i (by omega) (by omega))⟩
    · rw [if_neg (by rw [r.1]; decide)]
      exact Or.inr ⟨r.1, fun z => r.2 ⟨rfl, fun j _ hj => z a (by omega) (by omega) j (by omega)⟩⟩
theorem g_wp_0 {M : fp_M} {t : Int32} (h : g_wp M t = 0) : g_want M t = 0 ∧ k_v (M 56 (k_v t)) ≤ 8 ∧ ∀ i, i < k_v (M 56 (k_v t)) → ∀ j, j < i → g_near M (k_v t) i j := by
  unfold g_wp at h
  by_cases h1 : g_want M t = 0
  · rw [if_pos h1] at h
    by_cases h2 : k_v (M 56 (k_v t)) ≤ 8
    · rw [if_pos h2] at h
      rcases g_bar_v M (k_v t) (k_v (M 56 (k_v t))) 0 with r | r
      · exact ⟨h1, h2, fun i hi => r.2 i (by omega) (by omega)⟩
      · rw [r.1] at h; exact absurd h (by decide)
    · rw [if_neg h2] at h; exact absurd h (by decide)
  · rw [if_neg h1] at h
    exact absurd h h1
theorem g_wp_v {M : fp_M} {t : Int32} (h : ¬ g_wp M t = 0) : ∃ w, w < 7 ∧ -1000001 - g_wp M t = nI w ∧ g_wp M t = -1000001 - nI w := by
  unfold g_wp at h ⊢
  by_cases h1 : g_want M t = 0
  · rw [if_pos h1] at h ⊢
    by_cases h2 : k_v (M 56 (k_v t)) ≤ 8
    · rw [if_pos h2] at h ⊢
      rcases g_bar_v M (k_v t) (k_v (M 56 (k_v t))) 0 with r | r
      · exact absurd r.1 h
      · rw [r.1]; exact ⟨4, by decide, by decide, by decide⟩
    · rw [if_neg h2]; exact ⟨4, by decide, by decide, by decide⟩
  · rw [if_neg h1] at h ⊢
    exact g_want_v h1
theorem lp_X6_wp_stop {X : fp_X} {M : fp_M} {t bar x : Int32} {w4 : Option Value} (hb : ¬ bar = 0) (et : t = nI (k_v t)) (lt : k_v t < 4) : fp_W X mX6_wantsPlaces 32 [some (.ref 49), some (.int t), some (.int bar), some (.int x), w4] [] fp_sh M 0 0 (fun r s m => r = some (.int bar) ∧ s = fp_sh ∧ m = M) := by
  refine r_iloadn dX6_wantsPlaces_32 rfl ?_
  refine r_aloadn dX6_wantsPlaces_33 rfl (by decide) ?_
  refine r_getfr dX6_wantsPlaces_34 kf_RX6_28 rfl rfl ?_
  refine r_iloadn dX6_wantsPlaces_37 rfl ?_
  refine r_ialdL (j := k_v t) dX6_wantsPlaces_38 rfl et ⟨lt, by decide⟩ ?_
  refine r_icmp_ge 94 dX6_wantsPlaces_39 (fun h39 => ?_) (fun h39 => ?_)
  · refine r_iloadn dX6_wantsPlaces_94 rfl ?_
    exact r_iret dX6_wantsPlaces_95 ⟨rfl, rfl, rfl⟩
  · refine r_iloadn dX6_wantsPlaces_42 rfl ?_
    refine r_if_ne 94 dX6_wantsPlaces_43 (fun h43 => ?_) (fun h43 => ?_)
    · refine r_iloadn dX6_wantsPlaces_94 rfl ?_
      exact r_iret dX6_wantsPlaces_95 ⟨rfl, rfl, rfl⟩
    · exact absurd h43 hb
theorem lp_X6_wp_in {X : fp_X} {M : fp_M} {t : Int32} {a : Nat} {Post : fp_Q} (ha : a < 8) (et : t = nI (k_v t)) (lt : k_v t < 4) : ∀ (n b : Nat), b + n = a → ∀ (bar : Int32), fp_W X mX6_wantsPlaces 88 [some (.ref 49), some (.int t), some (.int (k_it (g_bin M (k_v t) a) n b bar)), some (.int (nI a)), some (.int (nI a))] [] fp_sh M 0 0 Post → fp_W X mX6_wantsPlaces 49 [some (.ref 49), some (.int t), some (.int bar), some (.int (nI a)), some (.int (nI b))] [] fp_sh M 0 0 Post := by
  have ta : (nI a).toInt = (a : Int) := nI_toInt (by omega)
  intro n
  induction n with
  | zero =>
    intro b hb bar out
    have tb : (nI b).toInt = (b : Int) := nI_toInt (by omega)
    refine r_iload dX6_wantsPlaces_49 rfl ?_
    refine r_iloadn dX6_wantsPlaces_51 rfl ?_
    refine r_icmp_ge 88 dX6_wantsPlaces_52 (fun h52 => ?_) (fun h52 => ?_)
    · rw [show b = a by omega]
      exact out
    · exfalso; simp only [Int32.le_iff_toInt_le, Int32.lt_iff_toInt_lt, Int32.reduceToInt] at h52; omega
  | succ n ih =>
    intro b hb bar out
    have tb : (nI b).toInt = (b : Int) := nI_toInt (by omega)
    refine r_iload dX6_wantsPlaces_49 rfl ?_
    refine r_iloadn dX6_wantsPlaces_51 rfl ?_
    refine r_icmp_ge 88 dX6_wantsPlaces_52 (fun h52 => ?_) (fun h52 => ?_)
    · exfalso; simp only [Int32.le_iff_toInt_le, Int32.lt_iff_toInt_lt, Int32.reduceToInt] at h52; omega
    · refine r_aloadn dX6_wantsPlaces_55 rfl (by decide) ?_
      refine r_iloadn dX6_wantsPlaces_56 rfl ?_
      refine r_iloadn dX6_wantsPlaces_57 rfl ?_
      refine r_iload dX6_wantsPlaces_58 rfl ?_
      refine c_V3 (μz := mX6_toldBy) dX6_wantsPlaces_60 kl_RX6_262 mv_X6_toldBy rfl (ok_X6_toldBy (a := a) (b := b) et rfl rfl lt (by omega) (by omega)) ?_
      refine r_ldc2 dX6_wantsPlaces_63 kc_RX6_136 ?_
      refine r_ldc2 dX6_wantsPlaces_66 kc_RX6_78 ?_
      refine c_S3 (μz := mX6_isIn) dX6_wantsPlaces_69 kl_RX6_42 ms_X6_isIn ok_X6_isIn ?_
      refine r_if_eq 79 dX6_wantsPlaces_72 (fun h72 => ?_) (fun h72 => ?_)
      · refine r_ldc dX6_wantsPlaces_79 kc_RX6_109 ?_
        refine r_istore2 dX6_wantsPlaces_81 ?_
        refine r_iinc4 (1) dX6_wantsPlaces_82 ?_
        refine r_goto 49 dX6_wantsPlaces_85 ?_
        rw [nI_1]
        refine ih (b + 1) (by omega) _ ?_
        rw [k_it_s, show g_bin M (k_v t) a b bar = -1000005 from by unfold g_bin; rw [if_neg (bi_0.mp h72)]] at out
        exact out
      · refine r_iloadn dX6_wantsPlaces_75 rfl ?_
        refine r_goto 81 dX6_wantsPlaces_76 ?_
        refine r_istore2 dX6_wantsPlaces_81 ?_
        refine r_iinc4 (1) dX6_wantsPlaces_82 ?_
        refine r_goto 49 dX6_wantsPlaces_85 ?_
        rw [nI_1]
        refine ih (b + 1) (by omega) _ ?_
        rw [k_it_s, show g_bin M (k_v t) a b bar = bar from by unfold g_bin; rw [if_pos (bi_1.mp h72)]] at out
        exact out
theorem lp_X6_wp {X : fp_X} {M : fp_M} {t : Int32} {z : Nat} (et : t = nI (k_v t)) (lt : k_v t < 4) (hz : M 56 (k_v t) = nI z) (z8 : z ≤ 8) : ∀ (n i : Nat), i + n = z → ∀ (w4 : Option Value), fp_W X mX6_wantsPlaces 32 [some (.ref 49), some (.int t), some (.int 0), some (.int (nI i)), w4] [] fp_sh M 0 0 (fun r s m => r = some (.int (g_bar M (k_v t) n i)) ∧ s = fp_sh ∧ m = M) := by
  intro n
  induction n with
  | zero =>
    intro i hi w4 
    have ti : (nI i).toInt = (i : Int) := nI_toInt (by omega)
    have tz : (M 56 (k_v t)).toInt = (z : Int) := by rw [hz]; exact nI_toInt (by omega)
    refine r_iloadn dX6_wantsPlaces_32 rfl ?_
    refine r_aloadn dX6_wantsPlaces_33 rfl (by decide) ?_
    refine r_getfr dX6_wantsPlaces_34 kf_RX6_28 rfl rfl ?_
    refine r_iloadn dX6_wantsPlaces_37 rfl ?_
    refine r_ialdL (j := k_v t) dX6_wantsPlaces_38 rfl et ⟨lt, by decide⟩ ?_
    refine r_icmp_ge 94 dX6_wantsPlaces_39 (fun h39 => ?_) (fun h39 => ?_)
    · refine r_iloadn dX6_wantsPlaces_94 rfl ?_
      exact r_iret dX6_wantsPlaces_95 ⟨rfl, rfl, rfl⟩
    · exfalso; simp only [Int32.le_iff_toInt_le, Int32.lt_iff_toInt_lt, Int32.reduceToInt] at h39; omega
  | succ n ih =>
    intro i hi w4 
    have ti : (nI i).toInt = (i : Int) := nI_toInt (by omega)
    have tz : (M 56 (k_v t)).toInt = (z : Int) := by rw [hz]; exact nI_toInt (by omega)
    refine r_iloadn dX6_wantsPlaces_32 rfl ?_
    refine r_aloadn dX6_wantsPlaces_33 rfl (by decide) ?_
    refine r_getfr dX6_wantsPlaces_34 kf_RX6_28 rfl rfl ?_
    refine r_iloadn dX6_wantsPlaces_37 rfl ?_
    refine r_ialdL (j := k_v t) dX6_wantsPlaces_38 rfl et ⟨lt, by decide⟩ ?_
    refine r_icmp_ge 94 dX6_wantsPlaces_39 (fun h39 => ?_) (fun h39 => ?_)
    · exfalso; simp only [Int32.le_iff_toInt_le, Int32.lt_iff_toInt_lt, Int32.reduceToInt] at h39; omega
    · refine r_iloadn dX6_wantsPlaces_42 rfl ?_
      refine r_if_ne 94 dX6_wantsPlaces_43 (fun h43 => ?_) (fun h43 => ?_)
      · exact absurd rfl h43
      · refine r_ic (0) dX6_wantsPlaces_46 ?_
        refine r_istore4 dX6_wantsPlaces_47 ?_
        refine lp_X6_wp_in (by omega) et lt i 0 (by omega) 0 ?_
        refine r_iinc3 (1) dX6_wantsPlaces_88 ?_
        refine r_goto 32 dX6_wantsPlaces_91 ?_
        rw [nI_1]
        by_cases hb : k_it (g_bin M (k_v t) i) i 0 0 = 0
        · rw [hb, show g_bar M (k_v t) (n + 1) i = g_bar M (k_v t) n (i + 1) from if_pos hb]
          exact ih (i + 1) (by omega) _
        · rw [show g_bar M (k_v t) (n + 1) i = k_it (g_bin M (k_v t) i) i 0 0 from if_neg hb]
          exact lp_X6_wp_stop hb et lt

theorem ok_X6_wantsPlaces {X : fp_X} {M : fp_M} {t : Int32} (hz : g_sz M): fp_Ev X mX6_wantsPlaces [.ref 49, .int t] fp_sh M (some (.int (g_wp M t))) M := by
  refine fp_ok [some (.ref 49), some (.int t), none, none, none] ?_
  refine r_aloadn dX6_wantsPlaces_0 rfl (by decide) ?_
  refine r_iloadn dX6_wantsPlaces_1 rfl ?_
  refine c_V1 (μz := mX6_wants) dX6_wantsPlaces_2 kl_RX6_259 mv_X6_wants rfl ok_X6_wants ?_
  refine r_istore2 dX6_wantsPlaces_5 ?_
  refine r_iloadn dX6_wantsPlaces_6 rfl ?_
  refine r_if_eq 12 dX6_wantsPlaces_7 (fun h7 => ?_) (fun h7 => ?_)
  · obtain ⟨et, lt⟩ := g_v3 (g_want_0 h7).1
    obtain ⟨z, z40, ez⟩ := hz (k_v t) lt
    have ez2 : k_v (M 56 (k_v t)) = z := by show (M 56 (k_v t)).toNatClampNeg = z; rw [ez]; exact nI_clamp (by omega)
    have tz : (M 56 (k_v t)).toInt = (z : Int) := by rw [ez]; exact nI_toInt (by omega)
    refine r_aloadn dX6_wantsPlaces_12 rfl (by decide) ?_
    refine r_getfr dX6_wantsPlaces_13 kf_RX6_28 rfl rfl ?_
    refine r_iloadn dX6_wantsPlaces_16 rfl ?_
    refine r_ialdL (j := k_v t) dX6_wantsPlaces_17 rfl et ⟨lt, by decide⟩ ?_
    refine r_bp (8) dX6_wantsPlaces_18 ?_
    refine r_icmp_le 28 dX6_wantsPlaces_20 (fun h20 => ?_) (fun h20 => ?_)
    · refine r_ic (0) dX6_wantsPlaces_28 ?_
      refine r_istore2 dX6_wantsPlaces_29 ?_
      refine r_ic (0) dX6_wantsPlaces_30 ?_
      refine r_istore3 dX6_wantsPlaces_31 ?_
      have z8 : z ≤ 8 := by simp only [Int32.le_iff_toInt_le, Int32.reduceToInt] at h20; omega
      unfold g_wp
      rw [if_pos h7, ez2, if_pos z8]
      exact lp_X6_wp et lt ez z8 z 0 (by omega) none
    · refine r_ldc dX6_wantsPlaces_23 kc_RX6_109 ?_
      refine r_goto 29 dX6_wantsPlaces_25 ?_
      refine r_istore2 dX6_wantsPlaces_29 ?_
      refine r_ic (0) dX6_wantsPlaces_30 ?_
      refine r_istore3 dX6_wantsPlaces_31 ?_
      have z8 : ¬ z ≤ 8 := by simp only [Int32.le_iff_toInt_le, Int32.reduceToInt] at h20; omega
      unfold g_wp
      rw [if_pos h7, ez2, if_neg z8]
      exact lp_X6_wp_stop (by decide) et lt
  · refine r_iloadn dX6_wantsPlaces_10 rfl ?_
    exact r_iret dX6_wantsPlaces_11 ⟨by unfold g_wp; rw [if_neg h7], rfl, rfl⟩
abbrev g_den (M : fp_M) (t : Nat) (i : Nat) : Prop := (M 50 (5 + 6 * i + 1) < M 56 t ∧ M 50 (5 + 6 * i + 2) < M 56 t) ∧ ¬ ((g_least M i).toInt64 ≤ g_told M t (k_v (M 50 (5 + 6 * i + 1))) (k_v (M 50 (5 + 6 * i + 2))) ∧ g_told M t (k_v (M 50 (5 + 6 * i + 1))) (k_v (M 50 (5 + 6 * i + 2))) ≤ (g_most M i).toInt64)
def g_judge (M : fp_M) (set : Int32) (t n : Nat) : Nat := k_bn (fun i => decide (k_isin set i ∧ g_den M t i)) n
def sg_judge (M : fp_M) (c : Nat) (t : Int32) : Int32 × fp_M := if g_wp M t = 0 then (nI (g_judge M (g_cn M c) (k_v t) c), M) else (g_wp M t, g_fd M (k_v (-1000001 - g_wp M t)))
theorem lp_X6_judge {X : fp_X} {M : fp_M} {c : Nat} {set t bar : Int32} (hw : g_wf M c) (et : t = nI (k_v t)) (lt : k_v t < 4) : ∀ (n i : Nat), i + n = c → ∀ (w6 : Option Value), fp_W X mX6_judge 28 [some (.ref 49), some (.int t), some (.int bar), some (.int set), some (.int (nI (g_judge M set (k_v t) i))), some (.int (nI i)), w6] [] fp_sh M 0 0 (fun r s m => r = some (.int (nI (g_judge M set (k_v t) c))) ∧ s = fp_sh ∧ m = M) := by
  intro n
  induction n with
  | zero =>
    intro i hi w6 
    have h8 := hw.1
    have ti : (nI i).toInt = (i : Int) := nI_toInt (by omega)
    have tc : (M 50 0).toInt = (c : Int) := by rw [hw.2.1]; exact nI_toInt (by omega)
    refine r_iload dX6_judge_28 rfl ?_
    refine r_aloadn dX6_judge_30 rfl (by decide) ?_
    refine r_getfr dX6_judge_31 kf_RX6_7 rfl rfl ?_
    refine r_ic (0) dX6_judge_34 ?_
    refine r_ialdL dX6_judge_35 rfl rfl (by decide) ?_
    refine r_icmp_ge 151 dX6_judge_36 (fun h36 => ?_) (fun h36 => ?_)
    · refine r_iload dX6_judge_151 rfl ?_
      exact r_iret dX6_judge_153 ⟨by rw [show i = c by omega], rfl, rfl⟩
    · exfalso; simp only [Int32.le_iff_toInt_le, Int32.lt_iff_toInt_lt, Int32.reduceToInt] at h36; omega
  | succ n ih =>
    intro i hi w6 
    have h8 := hw.1
    have ti : (nI i).toInt = (i : Int) := nI_toInt (by omega)
    have tc : (M 50 0).toInt = (c : Int) := by rw [hw.2.1]; exact nI_toInt (by omega)
    refine r_iload dX6_judge_28 rfl ?_
    refine r_aloadn dX6_judge_30 rfl (by decide) ?_
    refine r_getfr dX6_judge_31 kf_RX6_7 rfl rfl ?_
    refine r_ic (0) dX6_judge_34 ?_
    refine r_ialdL dX6_judge_35 rfl rfl (by decide) ?_
    refine r_icmp_ge 151 dX6_judge_36 (fun h36 => ?_) (fun h36 => ?_)
    · exfalso; simp only [Int32.le_iff_toInt_le, Int32.lt_iff_toInt_lt, Int32.reduceToInt] at h36; omega
    · refine r_aloadn dX6_judge_39 rfl (by decide) ?_
      refine r_iload dX6_judge_40 rfl ?_
      refine r_ic (1) dX6_judge_42 ?_
      refine c_V2 (μz := mX6_its) dX6_judge_43 kl_RX6_51 mv_X6_its rfl (ok_X6_its (i := i) (j := 1) rfl rfl (by omega) (by decide)) ?_
      refine r_aloadn dX6_judge_46 rfl (by decide) ?_
      refine r_getfr dX6_judge_47 kf_RX6_28 rfl rfl ?_
      refine r_iloadn dX6_judge_50 rfl ?_
      refine r_ialdL (j := k_v t) dX6_judge_51 rfl et ⟨lt, by decide⟩ ?_
      refine r_icmp_ge 75 dX6_judge_52 (fun h52 => ?_) (fun h52 => ?_)
      · refine r_ic (0) dX6_judge_75 ?_
        refine r_istore6 dX6_judge_76 ?_
        refine r_iload dX6_judge_78 rfl ?_
        refine r_iloadn dX6_judge_80 rfl ?_
        refine r_iload dX6_judge_81 rfl ?_
        refine r_ishr dX6_judge_83 ?_
        refine r_ic (1) dX6_judge_84 ?_
        refine r_iand dX6_judge_85 ?_
        refine r_ic (1) dX6_judge_86 ?_
        refine r_icmp_ne 141 dX6_judge_87 (fun h87 => ?_) (fun h87 => ?_)
        · refine r_ic (0) dX6_judge_141 ?_
          refine r_ior dX6_judge_142 ?_
          refine r_istore4 dX6_judge_143 ?_
          refine r_iinc5 (1) dX6_judge_145 ?_
          refine r_goto 28 dX6_judge_148 ?_
          rw [nI_1]
          rw [Int32.or_zero]
          have e := ih (i + 1) (by omega) (some (.int 0))
          rw [show g_judge M set (k_v t) (i + 1) = g_judge M set (k_v t) i from k_bn_no (decide_eq_false (fun q => h87 q.1))] at e
          exact e
        · refine r_iload dX6_judge_90 rfl ?_
          refine r_if_eq 141 dX6_judge_92 (fun h92 => ?_) (fun h92 => ?_)
          · refine r_ic (0) dX6_judge_141 ?_
            refine r_ior dX6_judge_142 ?_
            refine r_istore4 dX6_judge_143 ?_
            refine r_iinc5 (1) dX6_judge_145 ?_
            refine r_goto 28 dX6_judge_148 ?_
            rw [nI_1]
            rw [Int32.or_zero]
            have e := ih (i + 1) (by omega) (some (.int 0))
            rw [show g_judge M set (k_v t) (i + 1) = g_judge M set (k_v t) i from k_bn_no (decide_eq_false (fun q => absurd q.2.1.1 (Int32.not_lt.mpr h52)))] at e
            exact e
          · exact absurd rfl h92
      · refine r_aloadn dX6_judge_55 rfl (by decide) ?_
        refine r_iload dX6_judge_56 rfl ?_
        refine r_ic (2) dX6_judge_58 ?_
        refine c_V2 (μz := mX6_its) dX6_judge_59 kl_RX6_51 mv_X6_its rfl (ok_X6_its (i := i) (j := 2) rfl rfl (by omega) (by decide)) ?_
        refine r_aloadn dX6_judge_62 rfl (by decide) ?_
        refine r_getfr dX6_judge_63 kf_RX6_28 rfl rfl ?_
        refine r_iloadn dX6_judge_66 rfl ?_
        refine r_ialdL (j := k_v t) dX6_judge_67 rfl et ⟨lt, by decide⟩ ?_
        refine r_icmp_ge 75 dX6_judge_68 (fun h68 => ?_) (fun h68 => ?_)
        · refine r_ic (0) dX6_judge_75 ?_
          refine r_istore6 dX6_judge_76 ?_
          refine r_iload dX6_judge_78 rfl ?_
          refine r_iloadn dX6_judge_80 rfl ?_
          refine r_iload dX6_judge_81 rfl ?_
          refine r_ishr dX6_judge_83 ?_
          refine r_ic (1) dX6_judge_84 ?_
          refine r_iand dX6_judge_85 ?_
          refine r_ic (1) dX6_judge_86 ?_
          refine r_icmp_ne 141 dX6_judge_87 (fun h87 => ?_) (fun h87 => ?_)
          · refine r_ic (0) dX6_judge_141 ?_
            refine r_ior dX6_judge_142 ?_
            refine r_istore4 dX6_judge_143 ?_
            refine r_iinc5 (1) dX6_judge_145 ?_
            refine r_goto 28 dX6_judge_148 ?_
            rw [nI_1]
            rw [Int32.or_zero]
            have e := ih (i + 1) (by omega) (some (.int 0))
            rw [show g_judge M set (k_v t) (i + 1) = g_judge M set (k_v t) i from k_bn_no (decide_eq_false (fun q => h87 q.1))] at e
            exact e
          · refine r_iload dX6_judge_90 rfl ?_
            refine r_if_eq 141 dX6_judge_92 (fun h92 => ?_) (fun h92 => ?_)
            · refine r_ic (0) dX6_judge_141 ?_
              refine r_ior dX6_judge_142 ?_
              refine r_istore4 dX6_judge_143 ?_
              refine r_iinc5 (1) dX6_judge_145 ?_
              refine r_goto 28 dX6_judge_148 ?_
              rw [nI_1]
              rw [Int32.or_zero]
              have e := ih (i + 1) (by omega) (some (.int 0))
              rw [show g_judge M set (k_v t) (i + 1) = g_judge M set (k_v t) i from k_bn_no (decide_eq_false (fun q => absurd q.2.1.2 (Int32.not_lt.mpr h68)))] at e
              exact e
            · exact absurd rfl h92
        · refine r_ic (1) dX6_judge_71 ?_
          refine r_goto 76 dX6_judge_72 ?_
          refine r_istore6 dX6_judge_76 ?_
          refine r_iload dX6_judge_78 rfl ?_
          refine r_iloadn dX6_judge_80 rfl ?_
          refine r_iload dX6_judge_81 rfl ?_
          refine r_ishr dX6_judge_83 ?_
          refine r_ic (1) dX6_judge_84 ?_
          refine r_iand dX6_judge_85 ?_
          refine r_ic (1) dX6_judge_86 ?_
          refine r_icmp_ne 141 dX6_judge_87 (fun h87 => ?_) (fun h87 => ?_)
          · refine r_ic (0) dX6_judge_141 ?_
            refine r_ior dX6_judge_142 ?_
            refine r_istore4 dX6_judge_143 ?_
            refine r_iinc5 (1) dX6_judge_145 ?_
            refine r_goto 28 dX6_judge_148 ?_
            rw [nI_1]
            rw [Int32.or_zero]
            have e := ih (i + 1) (by omega) (some (.int 1))
            rw [show g_judge M set (k_v t) (i + 1) = g_judge M set (k_v t) i from k_bn_no (decide_eq_false (fun q => h87 q.1))] at e
            exact e
          · refine r_iload dX6_judge_90 rfl ?_
            refine r_if_eq 141 dX6_judge_92 (fun h92 => ?_) (fun h92 => ?_)
            · exact absurd h92 (by decide)
            · obtain ⟨f, t2, hf8, ht8, hf, ht, _⟩ := hw.2.2 i (by omega)
              have ef : k_v (M 50 (5 + 6 * i + 1)) = f := by show (M 50 (5 + 6 * i + 1)).toNatClampNeg = f; rw [hf]; exact nI_clamp (by omega)
              have et2 : k_v (M 50 (5 + 6 * i + 2)) = t2 := by show (M 50 (5 + 6 * i + 2)).toNatClampNeg = t2; rw [ht]; exact nI_clamp (by omega)
              refine r_aloadn dX6_judge_95 rfl (by decide) ?_
              refine r_iloadn dX6_judge_96 rfl ?_
              refine r_aloadn dX6_judge_97 rfl (by decide) ?_
              refine r_iload dX6_judge_98 rfl ?_
              refine r_ic (1) dX6_judge_100 ?_
              refine c_V2 (μz := mX6_its) dX6_judge_101 kl_RX6_51 mv_X6_its rfl (ok_X6_its (i := i) (j := 1) rfl rfl (by omega) (by decide)) ?_
              refine r_aloadn dX6_judge_104 rfl (by decide) ?_
              refine r_iload dX6_judge_105 rfl ?_
              refine r_ic (2) dX6_judge_107 ?_
              refine c_V2 (μz := mX6_its) dX6_judge_108 kl_RX6_51 mv_X6_its rfl (ok_X6_its (i := i) (j := 2) rfl rfl (by omega) (by decide)) ?_
              refine c_V3 (μz := mX6_toldBy) dX6_judge_111 kl_RX6_262 mv_X6_toldBy rfl (ok_X6_toldBy (a := f) (b := t2) et hf ht lt (by omega) (by omega)) ?_
              refine r_aloadn dX6_judge_114 rfl (by decide) ?_
              refine r_iload dX6_judge_115 rfl ?_
              refine c_V1 (μz := mX6_leastOf) dX6_judge_117 kl_RX6_90 mv_X6_leastOf rfl (ok_X6_leastOf (by omega)) ?_
              refine r_i2l dX6_judge_120 ?_
              refine r_aloadn dX6_judge_121 rfl (by decide) ?_
              refine r_iload dX6_judge_122 rfl ?_
              refine c_V1 (μz := mX6_mostOf) dX6_judge_124 kl_RX6_93 mv_X6_mostOf rfl (ok_X6_mostOf (by omega)) ?_
              refine r_i2l dX6_judge_127 ?_
              refine c_S3 (μz := mX6_isIn) dX6_judge_128 kl_RX6_42 ms_X6_isIn ok_X6_isIn ?_
              refine r_if_ne 141 dX6_judge_131 (fun h131 => ?_) (fun h131 => ?_)
              · refine r_ic (0) dX6_judge_141 ?_
                refine r_ior dX6_judge_142 ?_
                refine r_istore4 dX6_judge_143 ?_
                refine r_iinc5 (1) dX6_judge_145 ?_
                refine r_goto 28 dX6_judge_148 ?_
                rw [nI_1]
                rw [Int32.or_zero]
                have e := ih (i + 1) (by omega) (some (.int 1))
                rw [show g_judge M set (k_v t) (i + 1) = g_judge M set (k_v t) i from k_bn_no (decide_eq_false (fun q => q.2.2 (bi_1.mp (by rw [ef, et2] at *; exact h131))))] at e
                exact e
              · refine r_ic (1) dX6_judge_134 ?_
                refine r_iload dX6_judge_135 rfl ?_
                refine r_ishl dX6_judge_137 ?_
                refine r_goto 142 dX6_judge_138 ?_
                refine r_ior dX6_judge_142 ?_
                refine r_istore4 dX6_judge_143 ?_
                refine r_iinc5 (1) dX6_judge_145 ?_
                refine r_goto 28 dX6_judge_148 ?_
                rw [nI_1]
                rw [show nI (g_judge M set (k_v t) i) ||| _ = nI (g_judge M set (k_v t) (i + 1)) from k_bn_or (by omega) (decide_eq_true ⟨h87, ⟨Int32.not_le.mp h52, Int32.not_le.mp h68⟩, bi_0.mp (by rw [ef, et2] at *; exact h131)⟩)]
                exact ih (i + 1) (by omega) _

theorem ok_X6_judge {X : fp_X} {M : fp_M} {c : Nat} {t : Int32} (hw : g_wf M c) (hz : g_sz M): fp_Ev X mX6_judge [.ref 49, .int t] fp_sh M (some (.int (sg_judge M c t).1)) (sg_judge M c t).2 := by
  refine fp_ok [some (.ref 49), some (.int t), none, none, none, none, none] ?_
  refine r_aloadn dX6_judge_0 rfl (by decide) ?_
  refine r_iloadn dX6_judge_1 rfl ?_
  refine c_V1 (μz := mX6_wantsPlaces) dX6_judge_2 kl_RX6_266 mv_X6_wantsPlaces rfl (ok_X6_wantsPlaces hz) ?_
  refine r_istore2 dX6_judge_5 ?_
  refine r_iloadn dX6_judge_6 rfl ?_
  refine r_if_eq 16 dX6_judge_7 (fun h7 => ?_) (fun h7 => ?_)
  · obtain ⟨et, lt⟩ := g_v3 (g_want_0 (g_wp_0 h7).1).1
    refine r_aloadn dX6_judge_16 rfl (by decide) ?_
    refine r_ic (0) dX6_judge_17 ?_
    refine c_V1 (μz := mX6_countIn) dX6_judge_18 kl_RX6_96 mv_X6_countIn rfl (ok_X6_countIn hw) ?_
    refine r_istore3 dX6_judge_21 ?_
    refine r_ic (0) dX6_judge_22 ?_
    refine r_istore4 dX6_judge_23 ?_
    refine r_ic (0) dX6_judge_25 ?_
    refine r_istore5 dX6_judge_26 ?_
    unfold sg_judge
    rw [if_pos h7]
    exact lp_X6_judge hw et lt c 0 (by omega) none
  · obtain ⟨w, hw7, hw8, hw9⟩ := g_wp_v h7
    have ew : k_v (-1000001 - g_wp M t) = w := by show (-1000001 - g_wp M t).toNatClampNeg = w; rw [hw8]; exact nI_clamp (by omega)
    refine r_aloadn dX6_judge_10 rfl (by decide) ?_
    refine r_iloadn dX6_judge_11 rfl ?_
    refine c_V1 (μz := mX6_finds) dX6_judge_12 kl_RX6_47 mv_X6_finds rfl (ok_X6_finds (w := w) hw8 hw7) ?_
    exact r_iret dX6_judge_15 ⟨by unfold sg_judge; rw [if_neg h7, ew], rfl, by unfold sg_judge; rw [if_neg h7, ew]⟩
def g_bd (M : fp_M) (t a : Nat) (b : Nat) (N : fp_M) : fp_M := g_bind N a b (g_told M t a b).toInt32
def g_mp (M : fp_M) (t z : Nat) (N : fp_M) : fp_M := k_it (fun a N => k_it (g_bd M t a) z 0 N) z 0 N
def g_maps (M : fp_M) (c t z : Nat) : fp_M := g_fol (g_mp M t z (g_lay M c (g_cn M c)))
def sg_maps (M : fp_M) (c : Nat) (t : Int32) : Int32 × fp_M := if g_wp M t = 0 then ((if g_ok (g_maps M c (k_v t) (k_v (M 56 (k_v t)))) = 0 then 0 else 1), g_maps M c (k_v t) (k_v (M 56 (k_v t)))) else (g_wp M t, g_fd M (k_v (-1000001 - g_wp M t)))
theorem lp_X6_maps_in {X : fp_X} {M : fp_M} {t bar : Int32} {a z : Nat} {Post : fp_Q} (ha : a < z) (z8 : z ≤ 8) (et : t = nI (k_v t)) (lt : k_v t < 4) (hz : M 56 (k_v t) = nI z) : ∀ (n b : Nat), b + n = z → ∀ (N : fp_M), (N 56 = M 56 ∧ N 57 = M 57) → (∀ w4 : Option Value, ((k_it (g_bd M (k_v t) a) n b N) 56 = M 56 ∧ (k_it (g_bd M (k_v t) a) n b N) 57 = M 57) → fp_W X mX6_maps 73 [some (.ref 49), some (.int t), some (.int bar), some (.int (nI a)), w4] [] fp_sh (k_it (g_bd M (k_v t) a) n b N) 0 0 Post) → fp_W X mX6_maps 40 [some (.ref 49), some (.int t), some (.int bar), some (.int (nI a)), some (.int (nI b))] [] fp_sh N 0 0 Post := by
  intro n
  induction n with
  | zero =>
    intro b hb N hQ out
    have tb : (nI b).toInt = (b : Int) := nI_toInt (by omega)
    have tz : (N 56 (k_v t)).toInt = (z : Int) := by rw [hQ.1, hz]; exact nI_toInt (by omega)
    refine r_iload dX6_maps_40 rfl ?_
    refine r_aloadn dX6_maps_42 rfl (by decide) ?_
    refine r_getfr dX6_maps_43 kf_RX6_28 rfl rfl ?_
    refine r_iloadn dX6_maps_46 rfl ?_
    refine r_ialdL (j := k_v t) dX6_maps_47 rfl et ⟨lt, by decide⟩ ?_
    refine r_icmp_ge 73 dX6_maps_48 (fun h48 => ?_) (fun h48 => ?_)
    · exact out _ hQ
    · exfalso; simp only [Int32.le_iff_toInt_le, Int32.lt_iff_toInt_lt, Int32.reduceToInt] at h48; omega
  | succ n ih =>
    intro b hb N hQ out
    have tb : (nI b).toInt = (b : Int) := nI_toInt (by omega)
    have tz : (N 56 (k_v t)).toInt = (z : Int) := by rw [hQ.1, hz]; exact nI_toInt (by omega)
    have e7 : g_bd M (k_v t) a b N = g_bind N a b (g_told N (k_v t) a b).toInt32 := by unfold g_bd g_told; rw [hQ.2]
    refine r_iload dX6_maps_40 rfl ?_
    refine r_aloadn dX6_maps_42 rfl (by decide) ?_
    refine r_getfr dX6_maps_43 kf_RX6_28 rfl rfl ?_
    refine r_iloadn dX6_maps_46 rfl ?_
    refine r_ialdL (j := k_v t) dX6_maps_47 rfl et ⟨lt, by decide⟩ ?_
    refine r_icmp_ge 73 dX6_maps_48 (fun h48 => ?_) (fun h48 => ?_)
    · exfalso; simp only [Int32.le_iff_toInt_le, Int32.lt_iff_toInt_lt, Int32.reduceToInt] at h48; omega
    · refine r_aloadn dX6_maps_51 rfl (by decide) ?_
      refine r_iloadn dX6_maps_52 rfl ?_
      refine r_iload dX6_maps_53 rfl ?_
      refine r_aloadn dX6_maps_55 rfl (by decide) ?_
      refine r_iloadn dX6_maps_56 rfl ?_
      refine r_iloadn dX6_maps_57 rfl ?_
      refine r_iload dX6_maps_58 rfl ?_
      refine c_V3 (μz := mX6_toldBy) dX6_maps_60 kl_RX6_262 mv_X6_toldBy rfl (ok_X6_toldBy (a := a) (b := b) et rfl rfl lt (by omega) (by omega)) ?_
      refine r_l2i dX6_maps_63 ?_
      refine c_V3v (μz := mX6_binds) dX6_maps_64 kl_RX6_110 mv_X6_binds rfl (ok_X6_binds (a := a) (b := b) rfl rfl (by omega) (by omega)) ?_
      refine r_iinc4 (1) dX6_maps_67 ?_
      refine r_goto 40 dX6_maps_70 ?_
      rw [nI_1]
      rw [k_it_s, e7] at out
      exact ih (b + 1) (by omega) _ ⟨by unfold g_bind; rw [fp_wr_row (by decide)]; exact hQ.1, by unfold g_bind; rw [fp_wr_row (by decide)]; exact hQ.2⟩ out
theorem lp_X6_maps {X : fp_X} {M : fp_M} {t bar : Int32} {z : Nat} (z8 : z ≤ 8) (et : t = nI (k_v t)) (lt : k_v t < 4) (hz : M 56 (k_v t) = nI z) : ∀ (n i : Nat), i + n = z → ∀ (N : fp_M) (w4 : Option Value), ((N 56 = M 56 ∧ N 57 = M 57)) → fp_W X mX6_maps 27 [some (.ref 49), some (.int t), some (.int bar), some (.int (nI i)), w4] [] fp_sh N 0 0 (fun r s m => r = some (.int (if g_ok (g_fol (k_it (fun a N => k_it (g_bd M (k_v t) a) z 0 N) n i N)) = 0 then 0 else 1)) ∧ s = fp_sh ∧ m = g_fol (k_it (fun a N => k_it (g_bd M (k_v t) a) z 0 N) n i N)) := by
  intro n
  induction n with
  | zero =>
    intro i hi N  w4  hinv
    have ti : (nI i).toInt = (i : Int) := nI_toInt (by omega)
    have hQ := hinv
    have tz : (N 56 (k_v t)).toInt = (z : Int) := by rw [hQ.1, hz]; exact nI_toInt (by omega)
    refine r_iloadn dX6_maps_27 rfl ?_
    refine r_aloadn dX6_maps_28 rfl (by decide) ?_
    refine r_getfr dX6_maps_29 kf_RX6_28 rfl rfl ?_
    refine r_iloadn dX6_maps_32 rfl ?_
    refine r_ialdL (j := k_v t) dX6_maps_33 rfl et ⟨lt, by decide⟩ ?_
    refine r_icmp_ge 79 dX6_maps_34 (fun h34 => ?_) (fun h34 => ?_)
    · refine r_aloadn dX6_maps_79 rfl (by decide) ?_
      refine c_V0 (μz := mX6_follows) dX6_maps_80 kl_RX6_118 mv_X6_follows rfl ok_X6_follows ?_
      refine r_if_eq 90 dX6_maps_83 (fun h83 => ?_) (fun h83 => ?_)
      · refine r_ic (0) dX6_maps_90 ?_
        exact r_iret dX6_maps_91 ⟨by rw [if_pos (show g_ok (g_fol (k_it (fun a N => k_it (g_bd M (k_v t) a) z 0 N) 0 i N)) = 0 from h83)], rfl, rfl⟩
      · refine r_ic (1) dX6_maps_86 ?_
        refine r_goto 91 dX6_maps_87 ?_
        exact r_iret dX6_maps_91 ⟨by rw [if_neg (show ¬ g_ok (g_fol (k_it (fun a N => k_it (g_bd M (k_v t) a) z 0 N) 0 i N)) = 0 from h83)], rfl, rfl⟩
    · exfalso; simp only [Int32.le_iff_toInt_le, Int32.lt_iff_toInt_lt, Int32.reduceToInt] at h34; omega
  | succ n ih =>
    intro i hi N  w4  hinv
    have ti : (nI i).toInt = (i : Int) := nI_toInt (by omega)
    have hQ := hinv
    have tz : (N 56 (k_v t)).toInt = (z : Int) := by rw [hQ.1, hz]; exact nI_toInt (by omega)
    refine r_iloadn dX6_maps_27 rfl ?_
    refine r_aloadn dX6_maps_28 rfl (by decide) ?_
    refine r_getfr dX6_maps_29 kf_RX6_28 rfl rfl ?_
    refine r_iloadn dX6_maps_32 rfl ?_
    refine r_ialdL (j := k_v t) dX6_maps_33 rfl et ⟨lt, by decide⟩ ?_
    refine r_icmp_ge 79 dX6_maps_34 (fun h34 => ?_) (fun h34 => ?_)
    · exfalso; simp only [Int32.le_iff_toInt_le, Int32.lt_iff_toInt_lt, Int32.reduceToInt] at h34; omega
    · refine r_ic (0) dX6_maps_37 ?_
      refine r_istore4 dX6_maps_38 ?_
      refine lp_X6_maps_in (by omega) z8 et lt hz z 0 (by omega) N hQ (fun w4 hQ2 => ?_)
      refine r_iinc3 (1) dX6_maps_73 ?_
      refine r_goto 27 dX6_maps_76 ?_
      rw [nI_1]
      exact ih (i + 1) (by omega) _ _ hQ2

theorem g_lay_row {M : fp_M} {c k : Nat} {set : Int32} (hk : ¬ k = 58) : g_lay M c set k = M k := by
  unfold g_lay
  refine (k_it_ind (fun N : fp_M => N k = M k) (fun i N h => ?_) c 0 _ ?_)
  · unfold g_dr
    split
    · unfold g_bind
      rw [fp_wr_row hk, fp_wr_row hk]
      exact h
    · exact h
  · exact k_it_ind (fun N : fp_M => N k = M k) (fun i N h => by unfold g_c1; rw [fp_wr_row hk]; exact h) 64 0 M rfl
theorem ok_X6_maps {X : fp_X} {M : fp_M} {c : Nat} {t : Int32} (hw : g_wf M c) (hz : g_sz M): fp_Ev X mX6_maps [.ref 49, .int t] fp_sh M (some (.int (sg_maps M c t).1)) (sg_maps M c t).2 := by
  refine fp_ok [some (.ref 49), some (.int t), none, none, none] ?_
  refine r_aloadn dX6_maps_0 rfl (by decide) ?_
  refine r_iloadn dX6_maps_1 rfl ?_
  refine c_V1 (μz := mX6_wantsPlaces) dX6_maps_2 kl_RX6_266 mv_X6_wantsPlaces rfl (ok_X6_wantsPlaces hz) ?_
  refine r_istore2 dX6_maps_5 ?_
  refine r_iloadn dX6_maps_6 rfl ?_
  refine r_if_eq 16 dX6_maps_7 (fun h7 => ?_) (fun h7 => ?_)
  · obtain ⟨h70, h78, _⟩ := g_wp_0 h7
    obtain ⟨et, lt⟩ := g_v3 (g_want_0 h70).1
    obtain ⟨z, z40, ez⟩ := hz (k_v t) lt
    have ez2 : k_v (M 56 (k_v t)) = z := by show (M 56 (k_v t)).toNatClampNeg = z; rw [ez]; exact nI_clamp (by omega)
    rw [ez2] at h78
    refine r_aloadn dX6_maps_16 rfl (by decide) ?_
    refine r_aloadn dX6_maps_17 rfl (by decide) ?_
    refine r_ic (0) dX6_maps_18 ?_
    refine c_V1 (μz := mX6_countIn) dX6_maps_19 kl_RX6_96 mv_X6_countIn rfl (ok_X6_countIn hw) ?_
    refine c_V1v (μz := mX6_lays) dX6_maps_22 kl_RX6_114 mv_X6_lays rfl (ok_X6_lays hw) ?_
    refine r_ic (0) dX6_maps_25 ?_
    refine r_istore3 dX6_maps_26 ?_
    have e2 : sg_maps M c t = ((if g_ok (g_maps M c (k_v t) z) = 0 then 0 else 1), g_maps M c (k_v t) z) := by
      unfold sg_maps
      rw [if_pos h7, ez2]
    rw [e2]
    exact lp_X6_maps h78 et lt ez z 0 (by omega) _ none ⟨g_lay_row (by decide), g_lay_row (by decide)⟩
  · obtain ⟨w, hw7, hw8, hw9⟩ := g_wp_v h7
    have ew : k_v (-1000001 - g_wp M t) = w := by show (-1000001 - g_wp M t).toNatClampNeg = w; rw [hw8]; exact nI_clamp (by omega)
    refine r_aloadn dX6_maps_10 rfl (by decide) ?_
    refine r_iloadn dX6_maps_11 rfl ?_
    refine c_V1 (μz := mX6_finds) dX6_maps_12 kl_RX6_47 mv_X6_finds rfl (ok_X6_finds (w := w) hw8 hw7) ?_
    exact r_iret dX6_maps_15 ⟨by unfold sg_maps; rw [if_neg h7, ew], rfl, by unfold sg_maps; rw [if_neg h7, ew]⟩
