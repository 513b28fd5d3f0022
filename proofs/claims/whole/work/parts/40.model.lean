/-! ===== the other one's small methods (its object at 49, its row at 50) ===== -/
theorem g_i : ∀ i, i < 8 → ∀ j, j < 6 → (5 : Int32) + 6 * nI i + nI j = nI (5 + 6 * i + j) := by decide +kernel
theorem g_i0 : ∀ i, i < 8 → (5 : Int32) + 6 * nI i = nI (5 + 6 * i) := by decide +kernel
theorem g_8 : ∀ a, a < 8 → ∀ b, b < 8 → (8 : Int32) * nI a + nI b = nI (8 * a + b) := by decide +kernel
theorem bi_iff {p q : Prop} [Decidable p] [Decidable q] (h : p ↔ q) : bi p = bi q := by
  by_cases hp : p
  · rw [bi_t hp, bi_t (h.mp hp)]
  · rw [bi_f hp, bi_f (fun x => hp (h.mpr x))]
theorem g_2s (d s : Int32) : d - 2 * s = d - s - s := by
  rw [show (2 : Int32) = 1 + 1 from rfl, Int32.add_mul, Int32.one_mul, Int32.sub_eq_add_neg, Int32.neg_add, Int32.sub_eq_add_neg, Int32.sub_eq_add_neg, Int32.sub_eq_add_neg, Int32.add_assoc]
theorem g_2a (d s : Int32) : d + 2 * s = d + s + s := by
  rw [show (2 : Int32) = 1 + 1 from rfl, Int32.add_mul, Int32.one_mul, Int32.add_assoc]
abbrev g_fd (M : fp_M) (w : Nat) : fp_M := fp_wr (fp_wr M 53 0 (M 53 0 + 1)) 53 (w + 1) (M 53 (w + 1) + 1)
theorem g_fx {w : Nat} {v : Int32} (h : -1000001 - v = nI w) : -1000001 - v + 1 = nI (w + 1) := by rw [h, nI_1]
/-- the row is well made: how many letters, their towns, whether struck -/
def g_wf (M : fp_M) (c : Nat) : Prop := c ≤ 8 ∧ M 50 0 = nI c ∧ ∀ i, i < c → ∃ f t : Nat, f < 8 ∧ t < 8 ∧ M 50 (5 + 6 * i + 1) = nI f ∧ M 50 (5 + 6 * i + 2) = nI t ∧ (M 50 (5 + 6 * i + 5) = 0 ∨ M 50 (5 + 6 * i + 5) = 1)
abbrev g_least (M : fp_M) (i : Nat) : Int32 := k_least (M 50 (5 + 6 * i)) (M 50 (5 + 6 * i + 3)) (M 50 2)
abbrev g_most (M : fp_M) (i : Nat) : Int32 := k_most (M 50 (5 + 6 * i)) (M 50 (5 + 6 * i + 3)) (M 50 2)
abbrev g_come (M : fp_M) (i : Nat) : Int32 := k_comes (M 50 (5 + 6 * i)) (M 50 (5 + 6 * i + 4)) (M 50 (5 + 6 * i + 3)) (M 50 3)
def g_str (M : fp_M) (c : Nat) : Nat := k_bn (fun i => decide (M 50 (5 + 6 * i + 5) = 1)) c
def g_lat (M : fp_M) (d : Int32) (c : Nat) : Nat := k_bn (fun i => decide (d < g_come M i)) c
def g_con (M : fp_M) (d : Int32) (c : Nat) : Nat := k_bn (fun i => decide (M 50 (5 + 6 * i + 5) = 0 ∧ g_come M i ≤ d)) c
theorem ok_X6_isIn {X : fp_X} {M : fp_M} {a b c : Int64} : fp_Ev X mX6_isIn [.long a, .long b, .long c] fp_sh M (some (.int (bi (b ≤ a ∧ a ≤ c)))) M := by
  refine fp_ok [some (.long a), none, some (.long b), none, some (.long c), none] ?_
  refine r_lloadn dX6_isIn_0 rfl ?_
  refine r_lloadn dX6_isIn_1 rfl ?_
  refine r_lcmp dX6_isIn_2 ?_
  refine r_if_lt 17 dX6_isIn_3 (fun h3 => ?_) (fun h3 => ?_)
  · refine r_ic (0) dX6_isIn_17 ?_
    exact r_iret dX6_isIn_18 ⟨by rw [bi_f (fun q => absurd ((lg_cmp_lt a b).mp h3) (Int64.not_lt.mpr q.1))], rfl, rfl⟩
  · refine r_lloadn dX6_isIn_6 rfl ?_
    refine r_lload dX6_isIn_7 rfl ?_
    refine r_lcmp dX6_isIn_9 ?_
    refine r_if_gt 17 dX6_isIn_10 (fun h10 => ?_) (fun h10 => ?_)
    · refine r_ic (0) dX6_isIn_17 ?_
      exact r_iret dX6_isIn_18 ⟨by rw [bi_f (fun q => absurd ((lg_cmp_gt a c).mp h10) (Int64.not_lt.mpr q.2))], rfl, rfl⟩
    · refine r_ic (1) dX6_isIn_13 ?_
      refine r_goto 18 dX6_isIn_14 ?_
      exact r_iret dX6_isIn_18 ⟨by rw [bi_t ⟨Int64.not_lt.mp (fun q => h3 ((lg_cmp_lt a b).mpr q)), Int64.not_lt.mp (fun q => h10 ((lg_cmp_gt a c).mpr q))⟩], rfl, rfl⟩
theorem ok_X6_finds {X : fp_X} {M : fp_M} {v : Int32} {w : Nat} (hv : -1000001 - v = nI w) (hw : w < 7): fp_Ev X mX6_finds [.ref 49, .int v] fp_sh M (some (.int v)) (g_fd M w) := by
  refine fp_ok [some (.ref 49), some (.int v)] ?_
  refine r_aloadn dX6_finds_0 rfl (by decide) ?_
  refine r_getfr dX6_finds_1 kf_RX6_19 rfl rfl ?_
  refine r_ic (0) dX6_finds_4 ?_
  refine r_dup2 dX6_finds_5 ?_
  refine r_ialdL dX6_finds_6 rfl rfl (by decide) ?_
  refine r_ic (1) dX6_finds_7 ?_
  refine r_iadd dX6_finds_8 ?_
  refine r_iastL dX6_finds_9 rfl rfl (by decide) ?_
  refine r_aloadn dX6_finds_10 rfl (by decide) ?_
  refine r_getfr dX6_finds_11 kf_RX6_19 rfl rfl ?_
  refine r_ldc dX6_finds_14 kc_RX6_37 ?_
  refine r_iloadn dX6_finds_16 rfl ?_
  refine r_isub dX6_finds_17 ?_
  refine r_ic (1) dX6_finds_18 ?_
  refine r_iadd dX6_finds_19 ?_
  refine r_dup2 dX6_finds_20 ?_
  refine r_ialdL (j := w + 1) dX6_finds_21 rfl (g_fx hv) ⟨by omega, by decide⟩ ?_
  refine r_ic (1) dX6_finds_22 ?_
  refine r_iadd dX6_finds_23 ?_
  refine r_iastL (j := w + 1) dX6_finds_24 rfl (g_fx hv) ⟨by omega, by decide⟩ ?_
  refine r_iloadn dX6_finds_25 rfl ?_
  exact r_iret dX6_finds_26 ⟨rfl, rfl, by rw [show fp_wr M 53 0 (M 53 0 + 1) 53 (w + 1) = M 53 (w + 1) from fp_wr_ne2 (by omega)]⟩
theorem ok_X6_becomes {X : fp_X} {M : fp_M} {a v : Int32} {k : Nat} (ha : a = nI k) (hk : k < 63): fp_Ev X mX6_becomes [.ref 49, .int a, .int v] fp_sh M (some (.int (M 50 k))) (fp_wr M 50 k v) := by
  refine fp_ok [some (.ref 49), some (.int a), some (.int v), none] ?_
  refine r_aloadn dX6_becomes_0 rfl (by decide) ?_
  refine r_getfr dX6_becomes_1 kf_RX6_7 rfl rfl ?_
  refine r_iloadn dX6_becomes_4 rfl ?_
  refine r_ialdL (j := k) dX6_becomes_5 rfl ha ⟨hk, by decide⟩ ?_
  refine r_istore3 dX6_becomes_6 ?_
  refine r_aloadn dX6_becomes_7 rfl (by decide) ?_
  refine r_getfr dX6_becomes_8 kf_RX6_7 rfl rfl ?_
  refine r_iloadn dX6_becomes_11 rfl ?_
  refine r_iloadn dX6_becomes_12 rfl ?_
  refine r_iastL (j := k) dX6_becomes_13 rfl ha ⟨hk, by decide⟩ ?_
  refine r_iloadn dX6_becomes_14 rfl ?_
  exact r_iret dX6_becomes_15 ⟨rfl, rfl, rfl⟩
theorem ok_X6_isTown {X : fp_X} {M : fp_M} {a : Int32} : fp_Ev X mX6_isTown [.int a] fp_sh M (some (.int (bi (0 ≤ a ∧ a ≤ 7)))) M := by
  refine fp_ok [some (.int a)] ?_
  refine r_iloadn dX6_isTown_0 rfl ?_
  refine r_if_lt 14 dX6_isTown_1 (fun h1 => ?_) (fun h1 => ?_)
  · refine r_ic (0) dX6_isTown_14 ?_
    exact r_iret dX6_isTown_15 ⟨by first | rw [bi_f (by simp only [Int32.le_iff_toInt_le, Int32.lt_iff_toInt_lt, ← Int32.toInt_inj, Int32.reduceToInt] at *; omega)] | rw [bi_t (by simp only [Int32.le_iff_toInt_le, Int32.lt_iff_toInt_lt, ← Int32.toInt_inj, Int32.reduceToInt] at *; omega)], rfl, rfl⟩
  · refine r_iloadn dX6_isTown_4 rfl ?_
    refine r_bp (8) dX6_isTown_5 ?_
    refine r_icmp_ge 14 dX6_isTown_7 (fun h7 => ?_) (fun h7 => ?_)
    · refine r_ic (0) dX6_isTown_14 ?_
      exact r_iret dX6_isTown_15 ⟨by first | rw [bi_f (by simp only [Int32.le_iff_toInt_le, Int32.lt_iff_toInt_lt, ← Int32.toInt_inj, Int32.reduceToInt] at *; omega)] | rw [bi_t (by simp only [Int32.le_iff_toInt_le, Int32.lt_iff_toInt_lt, ← Int32.toInt_inj, Int32.reduceToInt] at *; omega)], rfl, rfl⟩
    · refine r_ic (1) dX6_isTown_10 ?_
      refine r_goto 15 dX6_isTown_11 ?_
      exact r_iret dX6_isTown_15 ⟨by first | rw [bi_f (by simp only [Int32.le_iff_toInt_le, Int32.lt_iff_toInt_lt, ← Int32.toInt_inj, Int32.reduceToInt] at *; omega)] | rw [bi_t (by simp only [Int32.le_iff_toInt_le, Int32.lt_iff_toInt_lt, ← Int32.toInt_inj, Int32.reduceToInt] at *; omega)], rfl, rfl⟩
theorem ok_X6_isPair {X : fp_X} {M : fp_M} {a b : Int32} : fp_Ev X mX6_isPair [.int a, .int b] fp_sh M (some (.int (bi ((0 ≤ a ∧ a ≤ 7) ∧ (0 ≤ b ∧ b ≤ 7) ∧ ¬ a = b)))) M := by
  refine fp_ok [some (.int a), some (.int b)] ?_
  refine r_iloadn dX6_isPair_0 rfl ?_
  refine c_S1 (μz := mX6_isTown) dX6_isPair_1 kl_RX6_38 ms_X6_isTown ok_X6_isTown ?_
  refine r_if_eq 23 dX6_isPair_4 (fun h4 => ?_) (fun h4 => ?_)
  · refine r_ic (0) dX6_isPair_23 ?_
    exact r_iret dX6_isPair_24 ⟨by rw [bi_f (fun q => absurd q.1 (bi_0.mp h4))], rfl, rfl⟩
  · refine r_iloadn dX6_isPair_7 rfl ?_
    refine c_S1 (μz := mX6_isTown) dX6_isPair_8 kl_RX6_38 ms_X6_isTown ok_X6_isTown ?_
    refine r_if_eq 23 dX6_isPair_11 (fun h11 => ?_) (fun h11 => ?_)
    · refine r_ic (0) dX6_isPair_23 ?_
      exact r_iret dX6_isPair_24 ⟨by rw [bi_f (fun q => absurd q.2.1 (bi_0.mp h11))], rfl, rfl⟩
    · refine r_iloadn dX6_isPair_14 rfl ?_
      refine r_iloadn dX6_isPair_15 rfl ?_
      refine r_icmp_eq 23 dX6_isPair_16 (fun h16 => ?_) (fun h16 => ?_)
      · refine r_ic (0) dX6_isPair_23 ?_
        exact r_iret dX6_isPair_24 ⟨by rw [bi_f (fun q => q.2.2 h16)], rfl, rfl⟩
      · refine r_ic (1) dX6_isPair_19 ?_
        refine r_goto 24 dX6_isPair_20 ?_
        exact r_iret dX6_isPair_24 ⟨by rw [bi_t ⟨bi_1.mp h4, bi_1.mp h11, h16⟩], rfl, rfl⟩
theorem ok_X6_isLetter {X : fp_X} {M : fp_M} {a : Int32} : fp_Ev X mX6_isLetter [.ref 49, .int a] fp_sh M (some (.int (bi (0 ≤ a ∧ a < M 50 0)))) M := by
  refine fp_ok [some (.ref 49), some (.int a)] ?_
  refine r_iloadn dX6_isLetter_0 rfl ?_
  refine r_if_lt 18 dX6_isLetter_1 (fun h1 => ?_) (fun h1 => ?_)
  · refine r_ic (0) dX6_isLetter_18 ?_
    exact r_iret dX6_isLetter_19 ⟨by first | rw [bi_f (by simp only [Int32.le_iff_toInt_le, Int32.lt_iff_toInt_lt, ← Int32.toInt_inj, Int32.reduceToInt] at *; omega)] | rw [bi_t (by simp only [Int32.le_iff_toInt_le, Int32.lt_iff_toInt_lt, ← Int32.toInt_inj, Int32.reduceToInt] at *; omega)], rfl, rfl⟩
  · refine r_iloadn dX6_isLetter_4 rfl ?_
    refine r_aloadn dX6_isLetter_5 rfl (by decide) ?_
    refine r_getfr dX6_isLetter_6 kf_RX6_7 rfl rfl ?_
    refine r_ic (0) dX6_isLetter_9 ?_
    refine r_ialdL dX6_isLetter_10 rfl rfl (by decide) ?_
    refine r_icmp_ge 18 dX6_isLetter_11 (fun h11 => ?_) (fun h11 => ?_)
    · refine r_ic (0) dX6_isLetter_18 ?_
      exact r_iret dX6_isLetter_19 ⟨by first | rw [bi_f (by simp only [Int32.le_iff_toInt_le, Int32.lt_iff_toInt_lt, ← Int32.toInt_inj, Int32.reduceToInt] at *; omega)] | rw [bi_t (by simp only [Int32.le_iff_toInt_le, Int32.lt_iff_toInt_lt, ← Int32.toInt_inj, Int32.reduceToInt] at *; omega)], rfl, rfl⟩
    · refine r_ic (1) dX6_isLetter_14 ?_
      refine r_goto 19 dX6_isLetter_15 ?_
      exact r_iret dX6_isLetter_19 ⟨by first | rw [bi_f (by simp only [Int32.le_iff_toInt_le, Int32.lt_iff_toInt_lt, ← Int32.toInt_inj, Int32.reduceToInt] at *; omega)] | rw [bi_t (by simp only [Int32.le_iff_toInt_le, Int32.lt_iff_toInt_lt, ← Int32.toInt_inj, Int32.reduceToInt] at *; omega)], rfl, rfl⟩
theorem ok_X6_isSet {X : fp_X} {M : fp_M} {a : Int32} : fp_Ev X mX6_isSet [.ref 49, .int a] fp_sh M (some (.int (bi (0 ≤ a ∧ a ≤ (1 : Int32) <<< (M 50 0 &&& 31) - 1)))) M := by
  have e : bi ((0 : Int64) ≤ a.toInt64 ∧ a.toInt64 ≤ ((1 : Int32) <<< (M 50 0 &&& 31) - 1).toInt64) = bi (0 ≤ a ∧ a ≤ (1 : Int32) <<< (M 50 0 &&& 31) - 1) := by
    refine bi_iff ?_
    simp only [Int64.le_iff_toInt_le, Int32.toInt_toInt64, Int32.le_iff_toInt_le, Int32.reduceToInt, Int64.reduceToInt]
  refine fp_ok [some (.ref 49), some (.int a)] ?_
  refine r_iloadn dX6_isSet_0 rfl ?_
  refine r_i2l dX6_isSet_1 ?_
  refine r_lc 0 dX6_isSet_2 ?_
  refine r_ic (1) dX6_isSet_3 ?_
  refine r_aloadn dX6_isSet_4 rfl (by decide) ?_
  refine r_getfr dX6_isSet_5 kf_RX6_7 rfl rfl ?_
  refine r_ic (0) dX6_isSet_8 ?_
  refine r_ialdL dX6_isSet_9 rfl rfl (by decide) ?_
  refine r_ishl dX6_isSet_10 ?_
  refine r_ic (1) dX6_isSet_11 ?_
  refine r_isub dX6_isSet_12 ?_
  refine r_i2l dX6_isSet_13 ?_
  refine c_S3 (μz := mX6_isIn) dX6_isSet_14 kl_RX6_42 ms_X6_isIn ok_X6_isIn ?_
  rw [e]
  exact r_iret dX6_isSet_17 ⟨rfl, rfl, rfl⟩ rfl nar_bi
theorem ok_X6_its {X : fp_X} {M : fp_M} {l w : Int32} {i j : Nat} (hl : l = nI i) (hw : w = nI j) (hi : i < 8) (hj : j < 6): fp_Ev X mX6_its [.ref 49, .int l, .int w] fp_sh M (some (.int (M 50 (5 + 6 * i + j)))) M := by
  refine fp_ok [some (.ref 49), some (.int l), some (.int w)] ?_
  refine r_aloadn dX6_its_0 rfl (by decide) ?_
  refine r_getfr dX6_its_1 kf_RX6_7 rfl rfl ?_
  refine r_ic (5) dX6_its_4 ?_
  refine r_bp (6) dX6_its_5 ?_
  refine r_iloadn dX6_its_7 rfl ?_
  refine r_imul dX6_its_8 ?_
  refine r_iadd dX6_its_9 ?_
  refine r_iloadn dX6_its_10 rfl ?_
  refine r_iadd dX6_its_11 ?_
  refine r_ialdL (j := 5 + 6 * i + j) dX6_its_12 rfl (by rw [hl, hw]; exact g_i i hi j hj) ⟨by omega, by decide⟩ ?_
  exact r_iret dX6_its_13 ⟨rfl, rfl, rfl⟩
theorem ok_X6_orNone {X : fp_X} {M : fp_M} {a : Int32} : fp_Ev X mX6_orNone [.ref 49, .int a] fp_sh M (some (.int (if 0 ≤ a then a else -1000004))) (if 0 ≤ a then M else g_fd M 3) := by
  refine fp_ok [some (.ref 49), some (.int a)] ?_
  refine r_iloadn dX6_orNone_0 rfl ?_
  refine r_if_ge 13 dX6_orNone_1 (fun h1 => ?_) (fun h1 => ?_)
  · refine r_iloadn dX6_orNone_13 rfl ?_
    exact r_iret dX6_orNone_14 ⟨by rw [if_pos h1], rfl, by rw [if_pos h1]⟩
  · refine r_aloadn dX6_orNone_4 rfl (by decide) ?_
    refine r_ldc dX6_orNone_5 kc_RX6_46 ?_
    refine c_V1 (μz := mX6_finds) dX6_orNone_7 kl_RX6_47 mv_X6_finds rfl (ok_X6_finds (w := 3) (by decide) (by decide)) ?_
    refine r_goto 14 dX6_orNone_10 ?_
    exact r_iret dX6_orNone_14 ⟨by rw [if_neg h1], rfl, by rw [if_neg h1]⟩
theorem ok_X6_leastOf {X : fp_X} {M : fp_M} {i : Nat} (hi : i < 8): fp_Ev X mX6_leastOf [.ref 49, .int (nI i)] fp_sh M (some (.int (g_least M i))) M := by
  refine fp_ok [some (.ref 49), some (.int (nI i)), none] ?_
  refine r_aloadn dX6_leastOf_0 rfl (by decide) ?_
  refine r_iloadn dX6_leastOf_1 rfl ?_
  refine r_ic (3) dX6_leastOf_2 ?_
  refine c_V2 (μz := mX6_its) dX6_leastOf_3 kl_RX6_51 mv_X6_its rfl (ok_X6_its (i := i) (j := 3) rfl rfl hi (by decide)) ?_
  refine r_istore2 dX6_leastOf_6 ?_
  refine r_aloadn dX6_leastOf_7 rfl (by decide) ?_
  refine r_iloadn dX6_leastOf_8 rfl ?_
  refine r_ic (0) dX6_leastOf_9 ?_
  refine c_V2 (μz := mX6_its) dX6_leastOf_10 kl_RX6_51 mv_X6_its rfl (ok_X6_its (i := i) (j := 0) rfl rfl hi (by decide)) ?_
  refine r_tsw [(1, 52), (2, 56), (3, 58), (4, 61), (5, 66), (6, 52)] 77 dX6_leastOf_13 (And.intro (fun h13 => ?_) (And.intro (fun h13 => ?_) (And.intro (fun h13 => ?_) (And.intro (fun h13 => ?_) (And.intro (fun h13 => ?_) (And.intro (fun h13 => ?_) (trivial))))))) (fun h13 => ?_)
  · refine r_sp (-999) dX6_leastOf_52 ?_
    exact r_iret dX6_leastOf_55 ⟨by simp only [fp_tn, Nat.add_zero] at *; simp [g_least, k_least, g_2s, *], rfl, rfl⟩
  · refine r_iloadn dX6_leastOf_56 rfl ?_
    exact r_iret dX6_leastOf_57 ⟨by simp only [fp_tn, Nat.add_zero] at *; simp [g_least, k_least, g_2s, *], rfl, rfl⟩
  · refine r_iloadn dX6_leastOf_58 rfl ?_
    refine r_ineg dX6_leastOf_59 ?_
    exact r_iret dX6_leastOf_60 ⟨by simp only [fp_tn, Nat.add_zero] at *; simp [g_least, k_least, g_2s, *], rfl, rfl⟩
  · refine r_iloadn dX6_leastOf_61 rfl ?_
    refine r_ineg dX6_leastOf_62 ?_
    refine r_ic (1) dX6_leastOf_63 ?_
    refine r_isub dX6_leastOf_64 ?_
    exact r_iret dX6_leastOf_65 ⟨by simp only [fp_tn, Nat.add_zero] at *; simp [g_least, k_least, g_2s, *], rfl, rfl⟩
  · refine r_iloadn dX6_leastOf_66 rfl ?_
    refine r_ic (2) dX6_leastOf_67 ?_
    refine r_aloadn dX6_leastOf_68 rfl (by decide) ?_
    refine r_getfr dX6_leastOf_69 kf_RX6_7 rfl rfl ?_
    refine r_ic (2) dX6_leastOf_72 ?_
    refine r_ialdL dX6_leastOf_73 rfl rfl (by decide) ?_
    refine r_imul dX6_leastOf_74 ?_
    refine r_isub dX6_leastOf_75 ?_
    exact r_iret dX6_leastOf_76 ⟨by simp only [fp_tn, Nat.add_zero] at *; simp [g_least, k_least, g_2s, *], rfl, rfl⟩
  · refine r_sp (-999) dX6_leastOf_52 ?_
    exact r_iret dX6_leastOf_55 ⟨by simp only [fp_tn, Nat.add_zero] at *; simp [g_least, k_least, g_2s, *], rfl, rfl⟩
  · refine r_iloadn dX6_leastOf_77 rfl ?_
    refine r_aloadn dX6_leastOf_78 rfl (by decide) ?_
    refine r_getfr dX6_leastOf_79 kf_RX6_7 rfl rfl ?_
    refine r_ic (2) dX6_leastOf_82 ?_
    refine r_ialdL dX6_leastOf_83 rfl rfl (by decide) ?_
    refine r_isub dX6_leastOf_84 ?_
    exact r_iret dX6_leastOf_85 ⟨by simp only [fp_tn, Nat.add_zero] at *; simp [g_least, k_least, g_2s, *], rfl, rfl⟩
theorem ok_X6_mostOf {X : fp_X} {M : fp_M} {i : Nat} (hi : i < 8): fp_Ev X mX6_mostOf [.ref 49, .int (nI i)] fp_sh M (some (.int (g_most M i))) M := by
  refine fp_ok [some (.ref 49), some (.int (nI i)), none] ?_
  refine r_aloadn dX6_mostOf_0 rfl (by decide) ?_
  refine r_iloadn dX6_mostOf_1 rfl ?_
  refine r_ic (3) dX6_mostOf_2 ?_
  refine c_V2 (μz := mX6_its) dX6_mostOf_3 kl_RX6_51 mv_X6_its rfl (ok_X6_its (i := i) (j := 3) rfl rfl hi (by decide)) ?_
  refine r_istore2 dX6_mostOf_6 ?_
  refine r_aloadn dX6_mostOf_7 rfl (by decide) ?_
  refine r_iloadn dX6_mostOf_8 rfl ?_
  refine r_ic (0) dX6_mostOf_9 ?_
  refine c_V2 (μz := mX6_its) dX6_mostOf_10 kl_RX6_51 mv_X6_its rfl (ok_X6_its (i := i) (j := 0) rfl rfl hi (by decide)) ?_
  refine r_tsw [(2, 48), (3, 50), (4, 53), (5, 58), (6, 69)] 80 dX6_mostOf_13 (And.intro (fun h13 => ?_) (And.intro (fun h13 => ?_) (And.intro (fun h13 => ?_) (And.intro (fun h13 => ?_) (And.intro (fun h13 => ?_) (trivial)))))) (fun h13 => ?_)
  · refine r_iloadn dX6_mostOf_48 rfl ?_
    exact r_iret dX6_mostOf_49 ⟨by simp only [fp_tn, Nat.add_zero] at *; simp [g_most, k_most, g_2a, *], rfl, rfl⟩
  · refine r_iloadn dX6_mostOf_50 rfl ?_
    refine r_ineg dX6_mostOf_51 ?_
    exact r_iret dX6_mostOf_52 ⟨by simp only [fp_tn, Nat.add_zero] at *; simp [g_most, k_most, g_2a, *], rfl, rfl⟩
  · refine r_iloadn dX6_mostOf_53 rfl ?_
    refine r_ineg dX6_mostOf_54 ?_
    refine r_ic (1) dX6_mostOf_55 ?_
    refine r_iadd dX6_mostOf_56 ?_
    exact r_iret dX6_mostOf_57 ⟨by simp only [fp_tn, Nat.add_zero] at *; simp [g_most, k_most, g_2a, *], rfl, rfl⟩
  · refine r_iloadn dX6_mostOf_58 rfl ?_
    refine r_ic (2) dX6_mostOf_59 ?_
    refine r_aloadn dX6_mostOf_60 rfl (by decide) ?_
    refine r_getfr dX6_mostOf_61 kf_RX6_7 rfl rfl ?_
    refine r_ic (2) dX6_mostOf_64 ?_
    refine r_ialdL dX6_mostOf_65 rfl rfl (by decide) ?_
    refine r_imul dX6_mostOf_66 ?_
    refine r_iadd dX6_mostOf_67 ?_
    exact r_iret dX6_mostOf_68 ⟨by simp only [fp_tn, Nat.add_zero] at *; simp [g_most, k_most, g_2a, *], rfl, rfl⟩
  · refine r_iloadn dX6_mostOf_69 rfl ?_
    refine r_aloadn dX6_mostOf_70 rfl (by decide) ?_
    refine r_getfr dX6_mostOf_71 kf_RX6_7 rfl rfl ?_
    refine r_ic (2) dX6_mostOf_74 ?_
    refine r_ialdL dX6_mostOf_75 rfl rfl (by decide) ?_
    refine r_iadd dX6_mostOf_76 ?_
    refine r_ic (5) dX6_mostOf_77 ?_
    refine r_iadd dX6_mostOf_78 ?_
    exact r_iret dX6_mostOf_79 ⟨by simp only [fp_tn, Nat.add_zero] at *; simp [g_most, k_most, g_2a, *], rfl, rfl⟩
  · refine r_iloadn dX6_mostOf_80 rfl ?_
    refine r_aloadn dX6_mostOf_81 rfl (by decide) ?_
    refine r_getfr dX6_mostOf_82 kf_RX6_7 rfl rfl ?_
    refine r_ic (2) dX6_mostOf_85 ?_
    refine r_ialdL dX6_mostOf_86 rfl rfl (by decide) ?_
    refine r_iadd dX6_mostOf_87 ?_
    exact r_iret dX6_mostOf_88 ⟨by simp only [fp_tn, Nat.add_zero] at *; simp [g_most, k_most, g_2a, *], rfl, rfl⟩
theorem ok_X6_comesOn {X : fp_X} {M : fp_M} {i : Nat} (hi : i < 8): fp_Ev X mX6_comesOn [.ref 49, .int (nI i)] fp_sh M (some (.int (g_come M i))) M := by
  refine fp_ok [some (.ref 49), some (.int (nI i)), none, none] ?_
  refine r_aloadn dX6_comesOn_0 rfl (by decide) ?_
  refine r_iloadn dX6_comesOn_1 rfl ?_
  refine r_ic (3) dX6_comesOn_2 ?_
  refine c_V2 (μz := mX6_its) dX6_comesOn_3 kl_RX6_51 mv_X6_its rfl (ok_X6_its (i := i) (j := 3) rfl rfl hi (by decide)) ?_
  refine c_S1 (μz := mX6_size) dX6_comesOn_6 kl_RX6_55 ms_X6_size ok_X6_size ?_
  refine r_istore2 dX6_comesOn_9 ?_
  refine r_aloadn dX6_comesOn_10 rfl (by decide) ?_
  refine r_iloadn dX6_comesOn_11 rfl ?_
  refine r_ic (4) dX6_comesOn_12 ?_
  refine c_V2 (μz := mX6_its) dX6_comesOn_13 kl_RX6_51 mv_X6_its rfl (ok_X6_its (i := i) (j := 4) rfl rfl hi (by decide)) ?_
  refine r_istore3 dX6_comesOn_16 ?_
  refine r_aloadn dX6_comesOn_17 rfl (by decide) ?_
  refine r_iloadn dX6_comesOn_18 rfl ?_
  refine r_ic (0) dX6_comesOn_19 ?_
  refine c_V2 (μz := mX6_its) dX6_comesOn_20 kl_RX6_51 mv_X6_its rfl (ok_X6_its (i := i) (j := 0) rfl rfl hi (by decide)) ?_
  refine r_tsw [(1, 60), (2, 75), (3, 88), (4, 90), (5, 94), (6, 66)] 94 dX6_comesOn_23 (And.intro (fun h23 => ?_) (And.intro (fun h23 => ?_) (And.intro (fun h23 => ?_) (And.intro (fun h23 => ?_) (And.intro (fun h23 => ?_) (And.intro (fun h23 => ?_) (trivial))))))) (fun h23 => ?_)
  · refine r_iloadn dX6_comesOn_60 rfl ?_
    refine r_iloadn dX6_comesOn_61 rfl ?_
    refine r_ic (2) dX6_comesOn_62 ?_
    refine r_idiv dX6_comesOn_63 (by decide) ?_
    refine r_iadd dX6_comesOn_64 ?_
    exact r_iret dX6_comesOn_65 ⟨by simp only [fp_tn, Nat.add_zero] at *; simp [g_come, k_comes, k_abs, *], rfl, rfl⟩
  · refine r_iloadn dX6_comesOn_75 rfl ?_
    refine r_iloadn dX6_comesOn_76 rfl ?_
    refine r_iadd dX6_comesOn_77 ?_
    refine r_aloadn dX6_comesOn_78 rfl (by decide) ?_
    refine r_getfr dX6_comesOn_79 kf_RX6_7 rfl rfl ?_
    refine r_ic (3) dX6_comesOn_82 ?_
    refine r_ialdL dX6_comesOn_83 rfl rfl (by decide) ?_
    refine r_iadd dX6_comesOn_84 ?_
    refine r_ic (1) dX6_comesOn_85 ?_
    refine r_iadd dX6_comesOn_86 ?_
    exact r_iret dX6_comesOn_87 ⟨by simp only [fp_tn, Nat.add_zero] at *; simp [g_come, k_comes, k_abs, *], rfl, rfl⟩
  · refine r_iloadn dX6_comesOn_88 rfl ?_
    exact r_iret dX6_comesOn_89 ⟨by simp only [fp_tn, Nat.add_zero] at *; simp [g_come, k_comes, k_abs, *], rfl, rfl⟩
  · refine r_iloadn dX6_comesOn_90 rfl ?_
    refine r_ic (2) dX6_comesOn_91 ?_
    refine r_iadd dX6_comesOn_92 ?_
    exact r_iret dX6_comesOn_93 ⟨by simp only [fp_tn, Nat.add_zero] at *; simp [g_come, k_comes, k_abs, *], rfl, rfl⟩
  · refine r_iloadn dX6_comesOn_94 rfl ?_
    refine r_iloadn dX6_comesOn_95 rfl ?_
    refine r_iadd dX6_comesOn_96 ?_
    refine r_aloadn dX6_comesOn_97 rfl (by decide) ?_
    refine r_getfr dX6_comesOn_98 kf_RX6_7 rfl rfl ?_
    refine r_ic (3) dX6_comesOn_101 ?_
    refine r_ialdL dX6_comesOn_102 rfl rfl (by decide) ?_
    refine r_iadd dX6_comesOn_103 ?_
    exact r_iret dX6_comesOn_104 ⟨by simp only [fp_tn, Nat.add_zero] at *; simp [g_come, k_comes, k_abs, *], rfl, rfl⟩
  · refine r_iloadn dX6_comesOn_66 rfl ?_
    refine r_iloadn dX6_comesOn_67 rfl ?_
    refine r_ic (2) dX6_comesOn_68 ?_
    refine r_idiv dX6_comesOn_69 (by decide) ?_
    refine r_iadd dX6_comesOn_70 ?_
    refine r_bp (10) dX6_comesOn_71 ?_
    refine r_iadd dX6_comesOn_73 ?_
    exact r_iret dX6_comesOn_74 ⟨by simp only [fp_tn, Nat.add_zero] at *; simp [g_come, k_comes, k_abs, *], rfl, rfl⟩
  · refine r_iloadn dX6_comesOn_94 rfl ?_
    refine r_iloadn dX6_comesOn_95 rfl ?_
    refine r_iadd dX6_comesOn_96 ?_
    refine r_aloadn dX6_comesOn_97 rfl (by decide) ?_
    refine r_getfr dX6_comesOn_98 kf_RX6_7 rfl rfl ?_
    refine r_ic (3) dX6_comesOn_101 ?_
    refine r_ialdL dX6_comesOn_102 rfl rfl (by decide) ?_
    refine r_iadd dX6_comesOn_103 ?_
    exact r_iret dX6_comesOn_104 ⟨by simp only [fp_tn, Nat.add_zero] at *; simp [g_come, k_comes, k_abs, *], rfl, rfl⟩
theorem lp_X6_strucks {X : fp_X} {M : fp_M} {c : Nat} (hw : g_wf M c) : ∀ (n i : Nat), i + n = c → fp_W X mX6_strucks 4 [some (.ref 49), some (.int (nI (g_str M i))), some (.int (nI i))] [] fp_sh M 0 0 (fun r s m => r = some (.int (nI (g_str M c))) ∧ s = fp_sh ∧ m = M) := by
  intro n
  induction n with
  | zero =>
    intro i hi 
    have h8 := hw.1
    have ti : (nI i).toInt = (i : Int) := nI_toInt (by omega)
    have tc : (M 50 0).toInt = (c : Int) := by rw [hw.2.1]; exact nI_toInt (by omega)
    refine r_iloadn dX6_strucks_4 rfl ?_
    refine r_aloadn dX6_strucks_5 rfl (by decide) ?_
    refine r_getfr dX6_strucks_6 kf_RX6_7 rfl rfl ?_
    refine r_ic (0) dX6_strucks_9 ?_
    refine r_ialdL dX6_strucks_10 rfl rfl (by decide) ?_
    refine r_icmp_ge 31 dX6_strucks_11 (fun h11 => ?_) (fun h11 => ?_)
    · refine r_iloadn dX6_strucks_31 rfl ?_
      exact r_iret dX6_strucks_32 ⟨by rw [show i = c by omega], rfl, rfl⟩
    · exfalso; simp only [Int32.le_iff_toInt_le, Int32.lt_iff_toInt_lt, Int32.reduceToInt] at h11; omega
  | succ n ih =>
    intro i hi 
    have h8 := hw.1
    have ti : (nI i).toInt = (i : Int) := nI_toInt (by omega)
    have tc : (M 50 0).toInt = (c : Int) := by rw [hw.2.1]; exact nI_toInt (by omega)
    refine r_iloadn dX6_strucks_4 rfl ?_
    refine r_aloadn dX6_strucks_5 rfl (by decide) ?_
    refine r_getfr dX6_strucks_6 kf_RX6_7 rfl rfl ?_
    refine r_ic (0) dX6_strucks_9 ?_
    refine r_ialdL dX6_strucks_10 rfl rfl (by decide) ?_
    refine r_icmp_ge 31 dX6_strucks_11 (fun h11 => ?_) (fun h11 => ?_)
    · exfalso; simp only [Int32.le_iff_toInt_le, Int32.lt_iff_toInt_lt, Int32.reduceToInt] at h11; omega
    · refine r_iloadn dX6_strucks_14 rfl ?_
      refine r_aloadn dX6_strucks_15 rfl (by decide) ?_
      refine r_iloadn dX6_strucks_16 rfl ?_
      refine r_ic (5) dX6_strucks_17 ?_
      refine c_V2 (μz := mX6_its) dX6_strucks_18 kl_RX6_51 mv_X6_its rfl (ok_X6_its (i := i) (j := 5) rfl rfl (by omega) (by decide)) ?_
      refine r_iloadn dX6_strucks_21 rfl ?_
      refine r_ishl dX6_strucks_22 ?_
      refine r_ior dX6_strucks_23 ?_
      refine r_istore1 dX6_strucks_24 ?_
      refine r_iinc2 (1) dX6_strucks_25 ?_
      refine r_goto 4 dX6_strucks_28 ?_
      rw [nI_1]
      obtain ⟨f, t, _, _, _, _, h5⟩ := hw.2.2 i (by omega)
      rcases h5 with h5 | h5
      · rw [h5, show nI (g_str M i) ||| _ = nI (g_str M i) from k_or80 i (by omega) _ (k_bn_lt _ i)]
        have e := ih (i + 1) (by omega)
        rw [show g_str M (i + 1) = g_str M i from k_bn_no (decide_eq_false (by rw [h5]; decide))] at e
        exact e
      · rw [h5, show nI (g_str M i) ||| _ = nI (g_str M (i + 1)) from k_bn_or (by omega) (decide_eq_true h5)]
        exact ih (i + 1) (by omega)

theorem ok_X6_strucks {X : fp_X} {M : fp_M} {c : Nat} (hw : g_wf M c): fp_Ev X mX6_strucks [.ref 49] fp_sh M (some (.int (nI (g_str M c)))) M := by
  refine fp_ok [some (.ref 49), none, none] ?_
  refine r_ic (0) dX6_strucks_0 ?_
  refine r_istore1 dX6_strucks_1 ?_
  refine r_ic (0) dX6_strucks_2 ?_
  refine r_istore2 dX6_strucks_3 ?_
  exact lp_X6_strucks hw c 0 (by omega)
theorem lp_X6_laterThan {X : fp_X} {M : fp_M} {c : Nat} (hw : g_wf M c) {n0 : Int32} : ∀ (n i : Nat), i + n = c → fp_W X mX6_laterThan 4 [some (.ref 49), some (.int n0), some (.int (nI (g_lat M (M 50 1 + n0) i))), some (.int (nI i))] [] fp_sh M 0 0 (fun r s m => r = some (.int (nI (g_lat M (M 50 1 + n0) c))) ∧ s = fp_sh ∧ m = M) := by
  intro n
  induction n with
  | zero =>
    intro i hi 
    have h8 := hw.1
    have ti : (nI i).toInt = (i : Int) := nI_toInt (by omega)
    have tc : (M 50 0).toInt = (c : Int) := by rw [hw.2.1]; exact nI_toInt (by omega)
    refine r_iloadn dX6_laterThan_4 rfl ?_
    refine r_aloadn dX6_laterThan_5 rfl (by decide) ?_
    refine r_getfr dX6_laterThan_6 kf_RX6_7 rfl rfl ?_
    refine r_ic (0) dX6_laterThan_9 ?_
    refine r_ialdL dX6_laterThan_10 rfl rfl (by decide) ?_
    refine r_icmp_ge 46 dX6_laterThan_11 (fun h11 => ?_) (fun h11 => ?_)
    · refine r_iloadn dX6_laterThan_46 rfl ?_
      exact r_iret dX6_laterThan_47 ⟨by rw [show i = c by omega], rfl, rfl⟩
    · exfalso; simp only [Int32.le_iff_toInt_le, Int32.lt_iff_toInt_lt, Int32.reduceToInt] at h11; omega
  | succ n ih =>
    intro i hi 
    have h8 := hw.1
    have ti : (nI i).toInt = (i : Int) := nI_toInt (by omega)
    have tc : (M 50 0).toInt = (c : Int) := by rw [hw.2.1]; exact nI_toInt (by omega)
    refine r_iloadn dX6_laterThan_4 rfl ?_
    refine r_aloadn dX6_laterThan_5 rfl (by decide) ?_
    refine r_getfr dX6_laterThan_6 kf_RX6_7 rfl rfl ?_
    refine r_ic (0) dX6_laterThan_9 ?_
    refine r_ialdL dX6_laterThan_10 rfl rfl (by decide) ?_
    refine r_icmp_ge 46 dX6_laterThan_11 (fun h11 => ?_) (fun h11 => ?_)
    · exfalso; simp only [Int32.le_iff_toInt_le, Int32.lt_iff_toInt_lt, Int32.reduceToInt] at h11; omega
    · refine r_iloadn dX6_laterThan_14 rfl ?_
      refine r_aloadn dX6_laterThan_15 rfl (by decide) ?_
      refine r_iloadn dX6_laterThan_16 rfl ?_
      refine c_V1 (μz := mX6_comesOn) dX6_laterThan_17 kl_RX6_58 mv_X6_comesOn rfl (ok_X6_comesOn (by omega)) ?_
      refine r_aloadn dX6_laterThan_20 rfl (by decide) ?_
      refine r_getfr dX6_laterThan_21 kf_RX6_7 rfl rfl ?_
      refine r_ic (1) dX6_laterThan_24 ?_
      refine r_ialdL dX6_laterThan_25 rfl rfl (by decide) ?_
      refine r_iloadn dX6_laterThan_26 rfl ?_
      refine r_iadd dX6_laterThan_27 ?_
      refine r_icmp_le 37 dX6_laterThan_28 (fun h28 => ?_) (fun h28 => ?_)
      · refine r_ic (0) dX6_laterThan_37 ?_
        refine r_ior dX6_laterThan_38 ?_
        refine r_istore2 dX6_laterThan_39 ?_
        refine r_iinc3 (1) dX6_laterThan_40 ?_
        refine r_goto 4 dX6_laterThan_43 ?_
        rw [nI_1, Int32.or_zero]
        have e := ih (i + 1) (by omega)
        rw [show g_lat M (M 50 1 + n0) (i + 1) = g_lat M (M 50 1 + n0) i from k_bn_no (decide_eq_false (Int32.not_lt.mpr h28))] at e
        exact e
      · refine r_ic (1) dX6_laterThan_31 ?_
        refine r_iloadn dX6_laterThan_32 rfl ?_
        refine r_ishl dX6_laterThan_33 ?_
        refine r_goto 38 dX6_laterThan_34 ?_
        refine r_ior dX6_laterThan_38 ?_
        refine r_istore2 dX6_laterThan_39 ?_
        refine r_iinc3 (1) dX6_laterThan_40 ?_
        refine r_goto 4 dX6_laterThan_43 ?_
        rw [nI_1, show nI (g_lat M (M 50 1 + n0) i) ||| _ = nI (g_lat M (M 50 1 + n0) (i + 1)) from k_bn_or (by omega) (decide_eq_true (Int32.not_le.mp h28))]
        exact ih (i + 1) (by omega)

theorem ok_X6_laterThan {X : fp_X} {M : fp_M} {c : Nat} {n0 : Int32} (hw : g_wf M c): fp_Ev X mX6_laterThan [.ref 49, .int n0] fp_sh M (some (.int (nI (g_lat M (M 50 1 + n0) c)))) M := by
  refine fp_ok [some (.ref 49), some (.int n0), none, none] ?_
  refine r_ic (0) dX6_laterThan_0 ?_
  refine r_istore2 dX6_laterThan_1 ?_
  refine r_ic (0) dX6_laterThan_2 ?_
  refine r_istore3 dX6_laterThan_3 ?_
  exact lp_X6_laterThan hw c 0 (by omega)
