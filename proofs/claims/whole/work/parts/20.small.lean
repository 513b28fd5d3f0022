/-! ===== small methods: tests of numbers, letters, the JDK's ===== -/
abbrev bi (p : Prop) [Decidable p] : Int32 := if p then 1 else 0
theorem bi_t {p : Prop} [Decidable p] (h : p) : bi p = 1 := if_pos h
theorem bi_f {p : Prop} [Decidable p] (h : ¬ p) : bi p = 0 := if_neg h
theorem bi_0 {p : Prop} [Decidable p] : bi p = 0 ↔ ¬ p := by
  by_cases h : p
  · rw [bi_t h]; simp [h]
  · rw [bi_f h]; simp [h]
theorem bi_1 {p : Prop} [Decidable p] : ¬ bi p = 0 ↔ p := by rw [bi_0]; exact Decidable.not_not
theorem nar_bi {p : Prop} [Decidable p] : narrow .boolean (.int (bi p)) = .int (bi p) := by
  by_cases h : p
  · rw [bi_t h]; rfl
  · rw [bi_f h]; rfl
theorem bi_congr {p q : Prop} [Decidable p] [Decidable q] (h : p ↔ q) : bi p = bi q := by
  by_cases hp : p
  · rw [bi_t hp, bi_t (h.mp hp)]
  · rw [bi_f hp, bi_f (fun hq => hp (h.mpr hq))]
theorem ok_X5_within {X : fp_X} {M : fp_M} {a b c : Int32} : fp_Ev X mX5_within [.int a, .int b, .int c] fp_sh M (some (.int (bi (b ≤ a ∧ a ≤ c)))) M := by
  refine fp_ok [some (.int a), some (.int b), some (.int c)] ?_
  refine r_iloadn dX5_within_0 rfl ?_
  refine r_iloadn dX5_within_1 rfl ?_
  refine r_icmp_lt 14 dX5_within_2 (fun h2 => ?_) (fun h2 => ?_)
  · refine r_ic (0) dX5_within_14 ?_
    exact r_iret dX5_within_15 ⟨by first | rw [bi_f (by simp only [Int32.le_iff_toInt_le, Int32.lt_iff_toInt_lt, ← Int32.toInt_inj, Int32.reduceToInt] at *; omega)] | rw [bi_t (by simp only [Int32.le_iff_toInt_le, Int32.lt_iff_toInt_lt, ← Int32.toInt_inj, Int32.reduceToInt] at *; omega)], rfl, rfl⟩
  · refine r_iloadn dX5_within_5 rfl ?_
    refine r_iloadn dX5_within_6 rfl ?_
    refine r_icmp_gt 14 dX5_within_7 (fun h7 => ?_) (fun h7 => ?_)
    · refine r_ic (0) dX5_within_14 ?_
      exact r_iret dX5_within_15 ⟨by first | rw [bi_f (by simp only [Int32.le_iff_toInt_le, Int32.lt_iff_toInt_lt, ← Int32.toInt_inj, Int32.reduceToInt] at *; omega)] | rw [bi_t (by simp only [Int32.le_iff_toInt_le, Int32.lt_iff_toInt_lt, ← Int32.toInt_inj, Int32.reduceToInt] at *; omega)], rfl, rfl⟩
    · refine r_ic (1) dX5_within_10 ?_
      refine r_goto 15 dX5_within_11 ?_
      exact r_iret dX5_within_15 ⟨by first | rw [bi_f (by simp only [Int32.le_iff_toInt_le, Int32.lt_iff_toInt_lt, ← Int32.toInt_inj, Int32.reduceToInt] at *; omega)] | rw [bi_t (by simp only [Int32.le_iff_toInt_le, Int32.lt_iff_toInt_lt, ← Int32.toInt_inj, Int32.reduceToInt] at *; omega)], rfl, rfl⟩
theorem ok_X5_isKind {X : fp_X} {M : fp_M} {a : Int32} : fp_Ev X mX5_isKind [.int a] fp_sh M (some (.int (bi (0 ≤ a ∧ a ≤ 6)))) M := by
  refine fp_ok [some (.int a)] ?_
  refine r_iloadn dX5_isKind_0 rfl ?_
  refine r_ic (0) dX5_isKind_1 ?_
  refine r_bp (6) dX5_isKind_2 ?_
  refine c_S3 (μz := mX5_within) dX5_isKind_4 kl_RX5_69 ms_X5_within ok_X5_within ?_
  exact r_iret dX5_isKind_7 ⟨rfl, rfl, rfl⟩ rfl nar_bi
theorem ok_X5_isTown {X : fp_X} {M : fp_M} {a : Int32} : fp_Ev X mX5_isTown [.int a] fp_sh M (some (.int (bi (0 ≤ a ∧ a ≤ 7)))) M := by
  refine fp_ok [some (.int a)] ?_
  refine r_iloadn dX5_isTown_0 rfl ?_
  refine r_ic (0) dX5_isTown_1 ?_
  refine r_bp (7) dX5_isTown_2 ?_
  refine c_S3 (μz := mX5_within) dX5_isTown_4 kl_RX5_69 ms_X5_within ok_X5_within ?_
  exact r_iret dX5_isTown_7 ⟨rfl, rfl, rfl⟩ rfl nar_bi
theorem ok_X5_areDays {X : fp_X} {M : fp_M} {a : Int32} : fp_Ev X mX5_areDays [.int a] fp_sh M (some (.int (bi (-99 ≤ a ∧ a ≤ 99)))) M := by
  refine fp_ok [some (.int a)] ?_
  refine r_iloadn dX5_areDays_0 rfl ?_
  refine r_bp (-99) dX5_areDays_1 ?_
  refine r_bp (99) dX5_areDays_3 ?_
  refine c_S3 (μz := mX5_within) dX5_areDays_5 kl_RX5_69 ms_X5_within ok_X5_within ?_
  exact r_iret dX5_areDays_8 ⟨rfl, rfl, rfl⟩ rfl nar_bi
theorem ok_X5_isSheet {X : fp_X} {M : fp_M} {a : Int32} : fp_Ev X mX5_isSheet [.int a] fp_sh M (some (.int (bi (0 ≤ a ∧ a ≤ 3)))) M := by
  refine fp_ok [some (.int a)] ?_
  refine r_iloadn dX5_isSheet_0 rfl ?_
  refine r_ic (0) dX5_isSheet_1 ?_
  refine r_ic (3) dX5_isSheet_2 ?_
  refine c_S3 (μz := mX5_within) dX5_isSheet_3 kl_RX5_69 ms_X5_within ok_X5_within ?_
  exact r_iret dX5_isSheet_6 ⟨rfl, rfl, rfl⟩ rfl nar_bi
theorem ok_X5_arePair {X : fp_X} {M : fp_M} {a b : Int32} : fp_Ev X mX5_arePair [.int a, .int b] fp_sh M (some (.int (bi ((0 ≤ a ∧ a ≤ 7) ∧ (0 ≤ b ∧ b ≤ 7) ∧ ¬ a = b)))) M := by
  refine fp_ok [some (.int a), some (.int b)] ?_
  refine r_iloadn dX5_arePair_0 rfl ?_
  refine c_S1 (μz := mX5_isTown) dX5_arePair_1 kl_RX5_149 ms_X5_isTown ok_X5_isTown ?_
  refine r_if_eq 23 dX5_arePair_4 (fun h4 => ?_) (fun h4 => ?_)
  · refine r_ic (0) dX5_arePair_23 ?_
    exact r_iret dX5_arePair_24 ⟨by first | rw [bi_f (by simp only [bi_0, bi_1] at *; simp only [Int32.le_iff_toInt_le, Int32.lt_iff_toInt_lt, ← Int32.toInt_inj, Int32.reduceToInt] at *; omega)] | rw [bi_t (by simp only [bi_0, bi_1] at *; simp only [Int32.le_iff_toInt_le, Int32.lt_iff_toInt_lt, ← Int32.toInt_inj, Int32.reduceToInt] at *; omega)], rfl, rfl⟩
  · refine r_iloadn dX5_arePair_7 rfl ?_
    refine c_S1 (μz := mX5_isTown) dX5_arePair_8 kl_RX5_149 ms_X5_isTown ok_X5_isTown ?_
    refine r_if_eq 23 dX5_arePair_11 (fun h11 => ?_) (fun h11 => ?_)
    · refine r_ic (0) dX5_arePair_23 ?_
      exact r_iret dX5_arePair_24 ⟨by first | rw [bi_f (by simp only [bi_0, bi_1] at *; simp only [Int32.le_iff_toInt_le, Int32.lt_iff_toInt_lt, ← Int32.toInt_inj, Int32.reduceToInt] at *; omega)] | rw [bi_t (by simp only [bi_0, bi_1] at *; simp only [Int32.le_iff_toInt_le, Int32.lt_iff_toInt_lt, ← Int32.toInt_inj, Int32.reduceToInt] at *; omega)], rfl, rfl⟩
    · refine r_iloadn dX5_arePair_14 rfl ?_
      refine r_iloadn dX5_arePair_15 rfl ?_
      refine r_icmp_eq 23 dX5_arePair_16 (fun h16 => ?_) (fun h16 => ?_)
      · refine r_ic (0) dX5_arePair_23 ?_
        exact r_iret dX5_arePair_24 ⟨by first | rw [bi_f (by simp only [bi_0, bi_1] at *; simp only [Int32.le_iff_toInt_le, Int32.lt_iff_toInt_lt, ← Int32.toInt_inj, Int32.reduceToInt] at *; omega)] | rw [bi_t (by simp only [bi_0, bi_1] at *; simp only [Int32.le_iff_toInt_le, Int32.lt_iff_toInt_lt, ← Int32.toInt_inj, Int32.reduceToInt] at *; omega)], rfl, rfl⟩
      · refine r_ic (1) dX5_arePair_19 ?_
        refine r_goto 24 dX5_arePair_20 ?_
        exact r_iret dX5_arePair_24 ⟨by first | rw [bi_f (by simp only [bi_0, bi_1] at *; simp only [Int32.le_iff_toInt_le, Int32.lt_iff_toInt_lt, ← Int32.toInt_inj, Int32.reduceToInt] at *; omega)] | rw [bi_t (by simp only [bi_0, bi_1] at *; simp only [Int32.le_iff_toInt_le, Int32.lt_iff_toInt_lt, ← Int32.toInt_inj, Int32.reduceToInt] at *; omega)], rfl, rfl⟩
theorem ok_X5_isIn {X : fp_X} {M : fp_M} {a b : Int32} : fp_Ev X mX5_isIn [.int a, .int b] fp_sh M (some (.int (bi ((b >>> (a &&& 31)) &&& 1 = 1)))) M := by
  refine fp_ok [some (.int a), some (.int b)] ?_
  refine r_iloadn dX5_isIn_0 rfl ?_
  refine r_iloadn dX5_isIn_1 rfl ?_
  refine r_ishr dX5_isIn_2 ?_
  refine r_ic (1) dX5_isIn_3 ?_
  refine r_iand dX5_isIn_4 ?_
  refine r_ic (1) dX5_isIn_5 ?_
  refine r_icmp_ne 13 dX5_isIn_6 (fun h6 => ?_) (fun h6 => ?_)
  · refine r_ic (0) dX5_isIn_13 ?_
    exact r_iret dX5_isIn_14 ⟨by first | rw [bi_f (by assumption)] | rw [bi_t (by assumption)], rfl, rfl⟩
  · refine r_ic (1) dX5_isIn_9 ?_
    refine r_goto 14 dX5_isIn_10 ?_
    exact r_iret dX5_isIn_14 ⟨by first | rw [bi_f (by assumption)] | rw [bi_t (by assumption)], rfl, rfl⟩
theorem ok_X5_without {X : fp_X} {M : fp_M} {a b : Int32} : fp_Ev X mX5_without [.int a, .int b] fp_sh M (some (.int (b &&& ((1 <<< (a &&& 31)) ^^^ (-1))))) M := by
  refine fp_ok [some (.int a), some (.int b)] ?_
  refine r_iloadn dX5_without_0 rfl ?_
  refine r_ic (1) dX5_without_1 ?_
  refine r_iloadn dX5_without_2 rfl ?_
  refine r_ishl dX5_without_3 ?_
  refine r_ic (-1) dX5_without_4 ?_
  refine r_ixor dX5_without_5 ?_
  refine r_iand dX5_without_6 ?_
  exact r_iret dX5_without_7 ⟨rfl, rfl, rfl⟩
/-- Integer.bitCount, as the JDK writes it -/
def k_bc1 (x : Int32) : Int32 := x - ((x.toUInt32 >>> ((1 : Int32).toUInt32 &&& Int32.toUInt32 31)).toInt32 &&& 1431655765)
def k_bc2 (x : Int32) : Int32 := (x &&& 858993459) + ((x.toUInt32 >>> ((2 : Int32).toUInt32 &&& Int32.toUInt32 31)).toInt32 &&& 858993459)
def k_bc3 (x : Int32) : Int32 := (x + (x.toUInt32 >>> ((4 : Int32).toUInt32 &&& Int32.toUInt32 31)).toInt32) &&& 252645135
def k_bc4 (x : Int32) : Int32 := x + (x.toUInt32 >>> ((8 : Int32).toUInt32 &&& Int32.toUInt32 31)).toInt32
def k_bc5 (x : Int32) : Int32 := x + (x.toUInt32 >>> ((16 : Int32).toUInt32 &&& Int32.toUInt32 31)).toInt32
def k_bc (x : Int32) : Int32 := k_bc5 (k_bc4 (k_bc3 (k_bc2 (k_bc1 x)))) &&& 63
theorem ok_J6_bitCount_0f7a4 {X : fp_X} {M : fp_M} {a : Int32} : fp_Ev X mJ6_bitCount_0f7a4 [.int a] fp_sh M (some (.int (k_bc a))) M := by
  refine fp_okF [some (.int a)] ?_
  refine r_iloadn dJ6_bitCount_0f7a4_0 rfl ?_
  refine r_iloadn dJ6_bitCount_0f7a4_1 rfl ?_
  refine r_ic (1) dJ6_bitCount_0f7a4_2 ?_
  refine r_iushr dJ6_bitCount_0f7a4_3 ?_
  refine r_ldcw dJ6_bitCount_0f7a4_4 kc_RJ6_265 ?_
  refine r_iand dJ6_bitCount_0f7a4_7 ?_
  refine r_isub dJ6_bitCount_0f7a4_8 ?_
  refine r_istore0 dJ6_bitCount_0f7a4_9 ?_
  refine r_iloadn dJ6_bitCount_0f7a4_10 rfl ?_
  refine r_ldcw dJ6_bitCount_0f7a4_11 kc_RJ6_266 ?_
  refine r_iand dJ6_bitCount_0f7a4_14 ?_
  refine r_iloadn dJ6_bitCount_0f7a4_15 rfl ?_
  refine r_ic (2) dJ6_bitCount_0f7a4_16 ?_
  refine r_iushr dJ6_bitCount_0f7a4_17 ?_
  refine r_ldcw dJ6_bitCount_0f7a4_18 kc_RJ6_266 ?_
  refine r_iand dJ6_bitCount_0f7a4_21 ?_
  refine r_iadd dJ6_bitCount_0f7a4_22 ?_
  refine r_istore0 dJ6_bitCount_0f7a4_23 ?_
  refine r_iloadn dJ6_bitCount_0f7a4_24 rfl ?_
  refine r_iloadn dJ6_bitCount_0f7a4_25 rfl ?_
  refine r_ic (4) dJ6_bitCount_0f7a4_26 ?_
  refine r_iushr dJ6_bitCount_0f7a4_27 ?_
  refine r_iadd dJ6_bitCount_0f7a4_28 ?_
  refine r_ldcw dJ6_bitCount_0f7a4_29 kc_RJ6_267 ?_
  refine r_iand dJ6_bitCount_0f7a4_32 ?_
  refine r_istore0 dJ6_bitCount_0f7a4_33 ?_
  refine r_iloadn dJ6_bitCount_0f7a4_34 rfl ?_
  refine r_iloadn dJ6_bitCount_0f7a4_35 rfl ?_
  refine r_bp (8) dJ6_bitCount_0f7a4_36 ?_
  refine r_iushr dJ6_bitCount_0f7a4_38 ?_
  refine r_iadd dJ6_bitCount_0f7a4_39 ?_
  refine r_istore0 dJ6_bitCount_0f7a4_40 ?_
  refine r_iloadn dJ6_bitCount_0f7a4_41 rfl ?_
  refine r_iloadn dJ6_bitCount_0f7a4_42 rfl ?_
  refine r_bp (16) dJ6_bitCount_0f7a4_43 ?_
  refine r_iushr dJ6_bitCount_0f7a4_45 ?_
  refine r_iadd dJ6_bitCount_0f7a4_46 ?_
  refine r_istore0 dJ6_bitCount_0f7a4_47 ?_
  refine r_iloadn dJ6_bitCount_0f7a4_48 rfl ?_
  refine r_bp (63) dJ6_bitCount_0f7a4_49 ?_
  refine r_iand dJ6_bitCount_0f7a4_51 ?_
  exact r_iret dJ6_bitCount_0f7a4_52 ⟨rfl, rfl, rfl⟩
theorem ok_X5_isPick {X : fp_X} {M : fp_M} {a b c : Int32} : fp_Ev X mX5_isPick [.int a, .int b, .int c] fp_sh M (some (.int (bi (a &&& (b ^^^ (-1)) = 0 ∧ k_bc a = c)))) M := by
  refine fp_ok [some (.int a), some (.int b), some (.int c)] ?_
  refine r_iloadn dX5_isPick_0 rfl ?_
  refine r_iloadn dX5_isPick_1 rfl ?_
  refine r_ic (-1) dX5_isPick_2 ?_
  refine r_ixor dX5_isPick_3 ?_
  refine r_iand dX5_isPick_4 ?_
  refine r_if_ne 20 dX5_isPick_5 (fun h5 => ?_) (fun h5 => ?_)
  · refine r_ic (0) dX5_isPick_20 ?_
    exact r_iret dX5_isPick_21 ⟨by first | rw [bi_f (fun q => by first | exact absurd q.1 (by assumption) | exact absurd q.2 (by assumption))] | rw [bi_t ⟨by assumption, by assumption⟩], rfl, rfl⟩
  · refine r_iloadn dX5_isPick_8 rfl ?_
    refine c_S1 (μz := mJ6_bitCount_0f7a4) dX5_isPick_9 kl_RX5_171 ms_J6_bitCount_0f7a4 ok_J6_bitCount_0f7a4 ?_
    refine r_iloadn dX5_isPick_12 rfl ?_
    refine r_icmp_ne 20 dX5_isPick_13 (fun h13 => ?_) (fun h13 => ?_)
    · refine r_ic (0) dX5_isPick_20 ?_
      exact r_iret dX5_isPick_21 ⟨by first | rw [bi_f (fun q => by first | exact absurd q.1 (by assumption) | exact absurd q.2 (by assumption))] | rw [bi_t ⟨by assumption, by assumption⟩], rfl, rfl⟩
    · refine r_ic (1) dX5_isPick_16 ?_
      refine r_goto 21 dX5_isPick_17 ?_
      exact r_iret dX5_isPick_21 ⟨by first | rw [bi_f (fun q => by first | exact absurd q.1 (by assumption) | exact absurd q.2 (by assumption))] | rw [bi_t ⟨by assumption, by assumption⟩], rfl, rfl⟩
theorem ok_J9_abs_0f7a4 {X : fp_X} {M : fp_M} {a : Int32} : fp_Ev X mJ9_abs_0f7a4 [.int a] fp_sh M (some (.int (if 0 ≤ a then a else -a))) M := by
  refine fp_okF [some (.int a)] ?_
  refine r_iloadn dJ9_abs_0f7a4_0 rfl ?_
  refine r_if_ge 9 dJ9_abs_0f7a4_1 (fun h1 => ?_) (fun h1 => ?_)
  · refine r_iloadn dJ9_abs_0f7a4_9 rfl ?_
    exact r_iret dJ9_abs_0f7a4_10 ⟨by first | rw [if_pos (by assumption)] | rw [if_neg (by assumption)], rfl, rfl⟩
  · refine r_iloadn dJ9_abs_0f7a4_4 rfl ?_
    refine r_ineg dJ9_abs_0f7a4_5 ?_
    refine r_goto 10 dJ9_abs_0f7a4_6 ?_
    exact r_iret dJ9_abs_0f7a4_10 ⟨by first | rw [if_pos (by assumption)] | rw [if_neg (by assumption)], rfl, rfl⟩
theorem ok_X6_size {X : fp_X} {M : fp_M} {a : Int32} : fp_Ev X mX6_size [.int a] fp_sh M (some (.int (if 0 ≤ a then a else -a))) M := by
  refine fp_ok [some (.int a)] ?_
  refine r_iloadn dX6_size_0 rfl ?_
  refine r_if_ge 9 dX6_size_1 (fun h1 => ?_) (fun h1 => ?_)
  · refine r_iloadn dX6_size_9 rfl ?_
    exact r_iret dX6_size_10 ⟨by first | rw [if_pos (by assumption)] | rw [if_neg (by assumption)], rfl, rfl⟩
  · refine r_iloadn dX6_size_4 rfl ?_
    refine r_ineg dX6_size_5 ?_
    refine r_goto 10 dX6_size_6 ?_
    exact r_iret dX6_size_10 ⟨by first | rw [if_pos (by assumption)] | rw [if_neg (by assumption)], rfl, rfl⟩
