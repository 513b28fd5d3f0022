/-! ===== loops as folds; rows filled; sheets ===== -/
/-- n rounds of a loop from number i on -/
def k_it {α : Type} (f : Nat → α → α) : Nat → Nat → α → α
  | 0, _, s => s
  | n + 1, i, s => k_it f n (i + 1) (f i s)
theorem k_it_s {α : Type} (f : Nat → α → α) (n i : Nat) (s : α) : k_it f (n + 1) i s = k_it f n (i + 1) (f i s) := rfl
/-- a row filled up to n -/
def k_fill (M : fp_M) (k n : Nat) (v : Int32) : fp_M := fun k' j => if k' = k ∧ j < n then v else M k' j
theorem k_fill_0 (M : fp_M) (k : Nat) (v : Int32) : k_fill M k 0 v = M := by
  funext k' j
  unfold k_fill
  rw [if_neg (by omega)]
theorem k_fill_s (M : fp_M) (k i : Nat) (v : Int32) : fp_wr (k_fill M k i v) k i v = k_fill M k (i + 1) v := by
  funext k' j
  unfold fp_wr k_fill
  by_cases h1 : k' = k ∧ j = i
  · rw [if_pos h1, if_pos (by omega)]
  · rw [if_neg h1]
    by_cases h2 : k' = k ∧ j < i
    · rw [if_pos h2, if_pos (by omega)]
    · rw [if_neg h2, if_neg (by omega)]
theorem lp_J7_fill {X : fp_X} {M : fp_M} {sh : List fp_C} {k N : Nat} {v : Int32} (hs : sh[k]? = some (.inr (.inl N))) (hN : N < 1000) (hk : k < 100) : ∀ (n i : Nat), i + n = N → fp_W X mJ7_fill_53178 5 [some (.ref k), some (.int v), some (.int (nI i)), some (.int (nI N))] [] sh (k_fill M k i v) 0 0 (fun r s m => r = none ∧ s = sh ∧ m = k_fill M k N v) := by
  intro n
  induction n with
  | zero =>
    intro i hi
    have ti : (nI i).toInt = (i : Int) := nI_toInt (by omega)
    have tn : (nI N).toInt = (N : Int) := nI_toInt (by omega)
    refine r_iloadn dJ7_fill_53178_5 rfl ?_
    refine r_iloadn dJ7_fill_53178_6 rfl ?_
    refine r_icmp_ge 20 dJ7_fill_53178_7 (fun h7 => ?_) (fun h7 => ?_)
    · exact r_vret dJ7_fill_53178_20 ⟨rfl, rfl, by rw [show i = N by omega]⟩
    · exfalso; simp only [Int32.le_iff_toInt_le, Int32.lt_iff_toInt_lt, Int32.reduceToInt] at h7; omega
  | succ n ih =>
    intro i hi
    have ti : (nI i).toInt = (i : Int) := nI_toInt (by omega)
    have tn : (nI N).toInt = (N : Int) := nI_toInt (by omega)
    refine r_iloadn dJ7_fill_53178_5 rfl ?_
    refine r_iloadn dJ7_fill_53178_6 rfl ?_
    refine r_icmp_ge 20 dJ7_fill_53178_7 (fun h7 => ?_) (fun h7 => ?_)
    · exfalso; simp only [Int32.le_iff_toInt_le, Int32.lt_iff_toInt_lt, Int32.reduceToInt] at h7; omega
    · refine r_aloadn dJ7_fill_53178_10 rfl (Or.inl ⟨by omega, by omega⟩) ?_
      refine r_iloadn dJ7_fill_53178_11 rfl ?_
      refine r_iloadn dJ7_fill_53178_12 rfl ?_
      refine r_iastL (j := i) dJ7_fill_53178_13 hs rfl ⟨by omega, by omega⟩ ?_
      refine r_iinc2 (1) dJ7_fill_53178_14 ?_
      refine r_goto 5 dJ7_fill_53178_17 ?_
      rw [nI_1, k_fill_s]
      exact ih (i + 1) (by omega)
theorem ok_J7_fill_53178 {X : fp_X} {M : fp_M} {sh : List fp_C} {k N : Nat} {v : Int32} (hs : sh[k]? = some (.inr (.inl N))) (hN : N < 1000) (hk : k < 100): fp_Ev X mJ7_fill_53178 [.ref k, .int v] sh M none (k_fill M k N v) := by
  refine fp_okF [some (.ref k), some (.int v), none, none] ?_
  refine r_ic (0) dJ7_fill_53178_0 ?_
  refine r_istore2 dJ7_fill_53178_1 ?_
  refine r_aloadn dJ7_fill_53178_2 rfl (Or.inl ⟨by omega, by omega⟩) ?_
  refine r_alen (nI N) dJ7_fill_53178_3 hs rfl ?_
  refine r_istore3 dJ7_fill_53178_4 ?_
  have e := lp_J7_fill (X := X) (M := M) (v := v) hs hN hk N 0 (by omega)
  rw [k_fill_0] at e
  exact e
/-- the absolute value of a long -/
def k_labs (x : Int64) : Int64 := if 0 ≤ lg_cmp x 0 then x else -x
abbrev k_near (x y : Int32) : Prop := lg_cmp (k_labs (x.toInt64 - y.toInt64)) 999 ≤ 0
theorem ok_J9_abs_067f4 {X : fp_X} {M : fp_M} {a : Int64} : fp_Ev X mJ9_abs_067f4 [.long a] fp_sh M (some (.long (k_labs a))) M := by
  refine fp_okF [some (.long a), none] ?_
  refine r_lloadn dJ9_abs_067f4_0 rfl ?_
  refine r_lc 0 dJ9_abs_067f4_1 ?_
  refine r_lcmp dJ9_abs_067f4_2 ?_
  refine r_if_ge 11 dJ9_abs_067f4_3 (fun h3 => ?_) (fun h3 => ?_)
  · refine r_lloadn dJ9_abs_067f4_11 rfl ?_
    exact r_lret dJ9_abs_067f4_12 ⟨by unfold k_labs; first | rw [if_pos (by assumption)] | rw [if_neg (by assumption)], rfl, rfl⟩
  · refine r_lloadn dJ9_abs_067f4_6 rfl ?_
    refine r_lneg dJ9_abs_067f4_7 ?_
    refine r_goto 12 dJ9_abs_067f4_8 ?_
    exact r_lret dJ9_abs_067f4_12 ⟨by unfold k_labs; first | rw [if_pos (by assumption)] | rw [if_neg (by assumption)], rfl, rfl⟩
theorem ok_X5_isPart {X : fp_X} {M : fp_M} {L : Nat} {w v : Int32} (hL : fp_isL L): fp_Ev X mX5_isPart [.ref L, .int w, .int v] fp_sh M (some (.int (bi (k_ispart M L w v)))) M := by
  refine fp_ok [some (.ref L), some (.int w), some (.int v)] ?_
  refine r_iloadn dX5_isPart_0 rfl ?_
  refine r_tsw [(0, 40), (1, 45), (2, 54), (3, 63), (4, 68), (5, 77)] 84 dX5_isPart_1 (And.intro (fun h1 => ?_) (And.intro (fun h1 => ?_) (And.intro (fun h1 => ?_) (And.intro (fun h1 => ?_) (And.intro (fun h1 => ?_) (And.intro (fun h1 => ?_) (trivial))))))) (fun h1 => ?_)
  · refine r_iloadn dX5_isPart_40 rfl ?_
    refine c_S1 (μz := mX5_isKind) dX5_isPart_41 kl_RX5_58 ms_X5_isKind ok_X5_isKind ?_
    refine r_iret dX5_isPart_44 ⟨?_, rfl, rfl⟩ rfl nar_bi
    exact congrArg (fun z => some (Value.int z)) (bi_congr (by simp only [k_ispart, h1]; simp))
  · refine r_iloadn dX5_isPart_45 rfl ?_
    refine r_aloadn dX5_isPart_46 rfl (Or.inl ⟨Nat.lt_of_lt_of_le hL.lt (by decide), by have := hL.lt; omega⟩) ?_
    refine r_getfi dX5_isPart_47 kf_RX5_291 hL rfl ?_
    refine c_S2 (μz := mX5_arePair) dX5_isPart_50 kl_RX5_62 ms_X5_arePair ok_X5_arePair ?_
    refine r_iret dX5_isPart_53 ⟨?_, rfl, rfl⟩ rfl nar_bi
    exact congrArg (fun z => some (Value.int z)) (bi_congr (by simp only [k_ispart, h1]; simp))
  · refine r_aloadn dX5_isPart_54 rfl (Or.inl ⟨Nat.lt_of_lt_of_le hL.lt (by decide), by have := hL.lt; omega⟩) ?_
    refine r_getfi dX5_isPart_55 kf_RX5_288 hL rfl ?_
    refine r_iloadn dX5_isPart_58 rfl ?_
    refine c_S2 (μz := mX5_arePair) dX5_isPart_59 kl_RX5_62 ms_X5_arePair ok_X5_arePair ?_
    refine r_iret dX5_isPart_62 ⟨?_, rfl, rfl⟩ rfl nar_bi
    exact congrArg (fun z => some (Value.int z)) (bi_congr (by simp only [k_ispart, h1]; simp))
  · refine r_iloadn dX5_isPart_63 rfl ?_
    refine c_S1 (μz := mX5_areDays) dX5_isPart_64 kl_RX5_66 ms_X5_areDays ok_X5_areDays ?_
    refine r_iret dX5_isPart_67 ⟨?_, rfl, rfl⟩ rfl nar_bi
    exact congrArg (fun z => some (Value.int z)) (bi_congr (by simp only [k_ispart, h1]; simp))
  · refine r_iloadn dX5_isPart_68 rfl ?_
    refine r_ic (0) dX5_isPart_69 ?_
    refine r_sp (999) dX5_isPart_70 ?_
    refine c_S3 (μz := mX5_within) dX5_isPart_73 kl_RX5_69 ms_X5_within ok_X5_within ?_
    refine r_iret dX5_isPart_76 ⟨?_, rfl, rfl⟩ rfl nar_bi
    exact congrArg (fun z => some (Value.int z)) (bi_congr (by simp only [k_ispart, h1]; simp))
  · refine r_iloadn dX5_isPart_77 rfl ?_
    refine r_ic (0) dX5_isPart_78 ?_
    refine r_ic (1) dX5_isPart_79 ?_
    refine c_S3 (μz := mX5_within) dX5_isPart_80 kl_RX5_69 ms_X5_within ok_X5_within ?_
    refine r_iret dX5_isPart_83 ⟨?_, rfl, rfl⟩ rfl nar_bi
    exact congrArg (fun z => some (Value.int z)) (bi_congr (by simp only [k_ispart, h1]; simp))
  · refine r_ic (0) dX5_isPart_84 ?_
    exact r_iret dX5_isPart_85 ⟨by rw [bi_f (by simp only [fp_tn] at h1; simp only [k_ispart]; simp [h1])], rfl, rfl⟩
/-- is a kind another one, or under it -/
def k_und : Nat → Int32 → Int32 → Int32
  | 0, _, _ => 0
  | n + 1, a, t => if a = -1 then 0 else if a = t then 1 else k_und n (k_above a) t
theorem lp_X5_isUnder {X : fp_X} {M : fp_M} {k t : Int32} : ∀ (n i : Nat), i + n = 7 → ∀ (a : Int32), fp_W X mX5_isUnder 4 [some (.int k), some (.int t), some (.int a), some (.int (nI i))] [] fp_sh M 0 0 (fun r s m => r = some (.int (k_und n a t)) ∧ s = fp_sh ∧ m = M) := by
  intro n
  induction n with
  | zero =>
    intro i hi a 
    have ti : (nI i).toInt = (i : Int) := nI_toInt (by omega)
    refine r_iloadn dX5_isUnder_4 rfl ?_
    refine r_bp (7) dX5_isUnder_5 ?_
    refine r_icmp_ge 33 dX5_isUnder_7 (fun h7 => ?_) (fun h7 => ?_)
    · refine r_ic (0) dX5_isUnder_33 ?_
      exact r_iret dX5_isUnder_34 ⟨rfl, rfl, rfl⟩
    · exfalso; simp only [Int32.le_iff_toInt_le, Int32.lt_iff_toInt_lt, Int32.reduceToInt] at h7; omega
  | succ n ih =>
    intro i hi a 
    have ti : (nI i).toInt = (i : Int) := nI_toInt (by omega)
    refine r_iloadn dX5_isUnder_4 rfl ?_
    refine r_bp (7) dX5_isUnder_5 ?_
    refine r_icmp_ge 33 dX5_isUnder_7 (fun h7 => ?_) (fun h7 => ?_)
    · exfalso; simp only [Int32.le_iff_toInt_le, Int32.lt_iff_toInt_lt, Int32.reduceToInt] at h7; omega
    · refine r_iloadn dX5_isUnder_10 rfl ?_
      refine r_ic (-1) dX5_isUnder_11 ?_
      refine r_icmp_eq 33 dX5_isUnder_12 (fun h12 => ?_) (fun h12 => ?_)
      · refine r_ic (0) dX5_isUnder_33 ?_
        exact r_iret dX5_isUnder_34 ⟨by unfold k_und; rw [if_pos h12], rfl, rfl⟩
      · refine r_iloadn dX5_isUnder_15 rfl ?_
        refine r_iloadn dX5_isUnder_16 rfl ?_
        refine r_icmp_ne 22 dX5_isUnder_17 (fun h17 => ?_) (fun h17 => ?_)
        · refine r_iloadn dX5_isUnder_22 rfl ?_
          refine c_S1 (μz := mX1_kindAbove) dX5_isUnder_23 kl_RX5_297 ms_X1_kindAbove ok_X1_kindAbove ?_
          refine r_istore2 dX5_isUnder_26 ?_
          refine r_iinc3 (1) dX5_isUnder_27 ?_
          refine r_goto 4 dX5_isUnder_30 ?_
          rw [nI_1]
          have e := ih (i + 1) (by omega) (k_above a)
          unfold k_und
          rw [if_neg h12, if_neg h17]
          exact e
        · refine r_ic (1) dX5_isUnder_20 ?_
          exact r_iret dX5_isUnder_21 ⟨by unfold k_und; rw [if_neg h12, if_pos h17], rfl, rfl⟩

theorem ok_X5_isUnder {X : fp_X} {M : fp_M} {k t : Int32} : fp_Ev X mX5_isUnder [.int k, .int t] fp_sh M (some (.int (k_und 7 k t))) M := by
  refine fp_ok [some (.int k), some (.int t), none, none] ?_
  refine r_iloadn dX5_isUnder_0 rfl ?_
  refine r_istore2 dX5_isUnder_1 ?_
  refine r_ic (0) dX5_isUnder_2 ?_
  refine r_istore3 dX5_isUnder_3 ?_
  exact lp_X5_isUnder 7 0 (by omega) k
theorem ok_X3_isMissing {X : fp_X} {M : fp_M} {k : Nat} (hk : k < 4): fp_Ev X mX3_isMissing [.ref (41 + 2 * k)] fp_sh M (some (.int (bi (M (41 + 2 * k) 0 = 0)))) M := by
  refine fp_ok [some (.ref (41 + 2 * k))] ?_
  refine r_aloadn dX3_isMissing_0 rfl (Or.inl ⟨by omega, by omega⟩) ?_
  refine r_getfi dX3_isMissing_1 kf_RX3_9 (sh_s hk) rfl ?_
  refine r_if_ne 11 dX3_isMissing_4 (fun h4 => ?_) (fun h4 => ?_)
  · refine r_ic (0) dX3_isMissing_11 ?_
    exact r_iret dX3_isMissing_12 ⟨by first | rw [bi_f (by assumption)] | rw [bi_t (by assumption)], rfl, rfl⟩
  · refine r_ic (1) dX3_isMissing_7 ?_
    refine r_goto 12 dX3_isMissing_8 ?_
    exact r_iret dX3_isMissing_12 ⟨by first | rw [bi_f (by assumption)] | rw [bi_t (by assumption)], rfl, rfl⟩
theorem ok_X3_renew {X : fp_X} {M : fp_M} {k : Nat} {b n : Int32} (hk : k < 4): fp_Ev X mX3_renew [.ref (41 + 2 * k), .int b, .int n] fp_sh M none (k_fill (fp_wr (fp_wr M (41 + 2 * k) 0 b) (41 + 2 * k) 1 n) (42 + 2 * k) 40 0) := by
  refine fp_ok [some (.ref (41 + 2 * k)), some (.int b), some (.int n)] ?_
  refine r_aloadn dX3_renew_0 rfl (Or.inl ⟨by omega, by omega⟩) ?_
  refine r_iloadn dX3_renew_1 rfl ?_
  refine r_putfi dX3_renew_2 kf_RX3_9 (sh_s hk) rfl ?_
  refine r_aloadn dX3_renew_5 rfl (Or.inl ⟨by omega, by omega⟩) ?_
  refine r_iloadn dX3_renew_6 rfl ?_
  refine r_putfi dX3_renew_7 kf_RX3_15 (sh_s hk) rfl ?_
  refine r_aloadn dX3_renew_10 rfl (Or.inl ⟨by omega, by omega⟩) ?_
  refine r_getfr dX3_renew_11 kf_RX3_18 (sh_s hk) rfl ?_ (by omega)
  refine r_ic (0) dX3_renew_14 ?_
  refine c_S2v (μz := mJ7_fill_53178) dX3_renew_15 kl_RX3_22 ms_J7_fill_53178 (ok_J7_fill_53178 (sh_n hk) (by decide) (by omega)) ?_
  exact r_vret dX3_renew_18 ⟨rfl, rfl, rfl⟩
/-- a number as a sheet of so many bits keeps it -/
def k_bits (b v : Int32) : Int32 := if b = 8 then v.toInt8.toInt32 else if b = 16 then v.toInt16.toInt32 else v
theorem ok_X3_put {X : fp_X} {M : fp_M} {k j : Nat} {v : Int32} (hk : k < 4) (hj : j < 40): fp_Ev X mX3_put [.ref (41 + 2 * k), .int (nI j), .int v] fp_sh M none (fp_wr M (42 + 2 * k) j (k_bits (M (41 + 2 * k) 0) v)) := by
  refine fp_ok [some (.ref (41 + 2 * k)), some (.int (nI j)), some (.int v)] ?_
  refine r_aloadn dX3_put_0 rfl (Or.inl ⟨by omega, by omega⟩) ?_
  refine r_getfi dX3_put_1 kf_RX3_9 (sh_s hk) rfl ?_
  refine r_bp (8) dX3_put_4 ?_
  refine r_icmp_ne 20 dX3_put_6 (fun h6 => ?_) (fun h6 => ?_)
  · refine r_aloadn dX3_put_20 rfl (Or.inl ⟨by omega, by omega⟩) ?_
    refine r_getfi dX3_put_21 kf_RX3_9 (sh_s hk) rfl ?_
    refine r_bp (16) dX3_put_24 ?_
    refine r_icmp_ne 40 dX3_put_26 (fun h26 => ?_) (fun h26 => ?_)
    · refine r_aloadn dX3_put_40 rfl (Or.inl ⟨by omega, by omega⟩) ?_
      refine r_getfr dX3_put_41 kf_RX3_18 (sh_s hk) rfl ?_ (by omega)
      refine r_iloadn dX3_put_44 rfl ?_
      refine r_iloadn dX3_put_45 rfl ?_
      refine r_iastL (j := j) dX3_put_46 (sh_n hk) rfl ⟨hj, by decide⟩ ?_
      exact r_vret dX3_put_47 ⟨rfl, rfl, by unfold k_bits; first | rw [if_pos (by assumption)] | rw [if_neg (by assumption), if_pos (by assumption)] | rw [if_neg (by assumption), if_neg (by assumption)]⟩
    · refine r_aloadn dX3_put_29 rfl (Or.inl ⟨by omega, by omega⟩) ?_
      refine r_getfr dX3_put_30 kf_RX3_18 (sh_s hk) rfl ?_ (by omega)
      refine r_iloadn dX3_put_33 rfl ?_
      refine r_iloadn dX3_put_34 rfl ?_
      refine r_i2s dX3_put_35 ?_
      refine r_iastL (j := j) dX3_put_36 (sh_n hk) rfl ⟨hj, by decide⟩ ?_
      refine r_goto 47 dX3_put_37 ?_
      exact r_vret dX3_put_47 ⟨rfl, rfl, by unfold k_bits; first | rw [if_pos (by assumption)] | rw [if_neg (by assumption), if_pos (by assumption)] | rw [if_neg (by assumption), if_neg (by assumption)]⟩
  · refine r_aloadn dX3_put_9 rfl (Or.inl ⟨by omega, by omega⟩) ?_
    refine r_getfr dX3_put_10 kf_RX3_18 (sh_s hk) rfl ?_ (by omega)
    refine r_iloadn dX3_put_13 rfl ?_
    refine r_iloadn dX3_put_14 rfl ?_
    refine r_i2b dX3_put_15 ?_
    refine r_iastL (j := j) dX3_put_16 (sh_n hk) rfl ⟨hj, by decide⟩ ?_
    refine r_goto 47 dX3_put_17 ?_
    exact r_vret dX3_put_47 ⟨rfl, rfl, by unfold k_bits; first | rw [if_pos (by assumption)] | rw [if_neg (by assumption), if_pos (by assumption)] | rw [if_neg (by assumption), if_neg (by assumption)]⟩
theorem ok_X3_hasRun {X : fp_X} {M : fp_M} {k : Nat} {f n : Int32} (hk : k < 4): fp_Ev X mX3_hasRun [.ref (41 + 2 * k), .int f, .int n] fp_sh M (some (.int (bi (0 ≤ f ∧ 0 ≤ n ∧ n ≤ M (41 + 2 * k) 1 ∧ f ≤ M (41 + 2 * k) 1 - n)))) M := by
  refine fp_ok [some (.ref (41 + 2 * k)), some (.int f), some (.int n)] ?_
  refine r_iloadn dX3_hasRun_0 rfl ?_
  refine r_if_lt 30 dX3_hasRun_1 (fun h1 => ?_) (fun h1 => ?_)
  · refine r_ic (0) dX3_hasRun_30 ?_
    exact r_iret dX3_hasRun_31 ⟨by first | rw [bi_f (fun q => by first | exact absurd q.1 (Int32.not_le.mpr (by assumption)) | exact absurd q.2.1 (Int32.not_le.mpr (by assumption)) | exact absurd q.2.2.1 (Int32.not_le.mpr (by assumption)) | exact absurd q.2.2.2 (Int32.not_le.mpr (by assumption)))] | rw [bi_t ⟨Int32.not_lt.mp (by assumption), Int32.not_lt.mp (by assumption), Int32.not_lt.mp (by assumption), Int32.not_lt.mp (by assumption)⟩], rfl, rfl⟩
  · refine r_iloadn dX3_hasRun_4 rfl ?_
    refine r_if_lt 30 dX3_hasRun_5 (fun h5 => ?_) (fun h5 => ?_)
    · refine r_ic (0) dX3_hasRun_30 ?_
      exact r_iret dX3_hasRun_31 ⟨by first | rw [bi_f (fun q => by first | exact absurd q.1 (Int32.not_le.mpr (by assumption)) | exact absurd q.2.1 (Int32.not_le.mpr (by assumption)) | exact absurd q.2.2.1 (Int32.not_le.mpr (by assumption)) | exact absurd q.2.2.2 (Int32.not_le.mpr (by assumption)))] | rw [bi_t ⟨Int32.not_lt.mp (by assumption), Int32.not_lt.mp (by assumption), Int32.not_lt.mp (by assumption), Int32.not_lt.mp (by assumption)⟩], rfl, rfl⟩
    · refine r_iloadn dX3_hasRun_8 rfl ?_
      refine r_aloadn dX3_hasRun_9 rfl (Or.inl ⟨by omega, by omega⟩) ?_
      refine r_getfi dX3_hasRun_10 kf_RX3_15 (sh_s hk) rfl ?_
      refine r_icmp_gt 30 dX3_hasRun_13 (fun h13 => ?_) (fun h13 => ?_)
      · refine r_ic (0) dX3_hasRun_30 ?_
        exact r_iret dX3_hasRun_31 ⟨by first | rw [bi_f (fun q => by first | exact absurd q.1 (Int32.not_le.mpr (by assumption)) | exact absurd q.2.1 (Int32.not_le.mpr (by assumption)) | exact absurd q.2.2.1 (Int32.not_le.mpr (by assumption)) | exact absurd q.2.2.2 (Int32.not_le.mpr (by assumption)))] | rw [bi_t ⟨Int32.not_lt.mp (by assumption), Int32.not_lt.mp (by assumption), Int32.not_lt.mp (by assumption), Int32.not_lt.mp (by assumption)⟩], rfl, rfl⟩
      · refine r_iloadn dX3_hasRun_16 rfl ?_
        refine r_aloadn dX3_hasRun_17 rfl (Or.inl ⟨by omega, by omega⟩) ?_
        refine r_getfi dX3_hasRun_18 kf_RX3_15 (sh_s hk) rfl ?_
        refine r_iloadn dX3_hasRun_21 rfl ?_
        refine r_isub dX3_hasRun_22 ?_
        refine r_icmp_gt 30 dX3_hasRun_23 (fun h23 => ?_) (fun h23 => ?_)
        · refine r_ic (0) dX3_hasRun_30 ?_
          exact r_iret dX3_hasRun_31 ⟨by first | rw [bi_f (fun q => by first | exact absurd q.1 (Int32.not_le.mpr (by assumption)) | exact absurd q.2.1 (Int32.not_le.mpr (by assumption)) | exact absurd q.2.2.1 (Int32.not_le.mpr (by assumption)) | exact absurd q.2.2.2 (Int32.not_le.mpr (by assumption)))] | rw [bi_t ⟨Int32.not_lt.mp (by assumption), Int32.not_lt.mp (by assumption), Int32.not_lt.mp (by assumption), Int32.not_lt.mp (by assumption)⟩], rfl, rfl⟩
        · refine r_ic (1) dX3_hasRun_26 ?_
          refine r_goto 31 dX3_hasRun_27 ?_
          exact r_iret dX3_hasRun_31 ⟨by first | rw [bi_f (fun q => by first | exact absurd q.1 (Int32.not_le.mpr (by assumption)) | exact absurd q.2.1 (Int32.not_le.mpr (by assumption)) | exact absurd q.2.2.1 (Int32.not_le.mpr (by assumption)) | exact absurd q.2.2.2 (Int32.not_le.mpr (by assumption)))] | rw [bi_t ⟨Int32.not_lt.mp (by assumption), Int32.not_lt.mp (by assumption), Int32.not_lt.mp (by assumption), Int32.not_lt.mp (by assumption)⟩], rfl, rfl⟩
theorem lp_X3_arePlaces_in {X : fp_X} {M : fp_M} {k z : Nat} (hk : k < 4) (hz : M (41 + 2 * k) 1 = nI z) (h8 : z ≤ 8) (i : Nat) (hi : i < z) (hall : ∀ a, a < i → ∀ b, b < a → k_near (M (42 + 2 * k) a) (M (42 + 2 * k) b)) (out : (∀ b, b < i → k_near (M (42 + 2 * k) i) (M (42 + 2 * k) b)) → fp_W X mX3_arePlaces 61 [some (.ref (41 + 2 * k)), some (.int (nI i)), some (.int (nI i))] [] fp_sh M 0 0 (fun r s m => r = some (.int (bi (∀ a, a < z → ∀ b, b < a → k_near (M (42 + 2 * k) a) (M (42 + 2 * k) b)))) ∧ s = fp_sh ∧ m = M)) : ∀ (n j : Nat), j + n = i → (∀ b, b < j → k_near (M (42 + 2 * k) i) (M (42 + 2 * k) b)) → fp_W X mX3_arePlaces 23 [some (.ref (41 + 2 * k)), some (.int (nI i)), some (.int (nI j))] [] fp_sh M 0 0 (fun r s m => r = some (.int (bi (∀ a, a < z → ∀ b, b < a → k_near (M (42 + 2 * k) a) (M (42 + 2 * k) b)))) ∧ s = fp_sh ∧ m = M) := by
  have ti : (nI i).toInt = (i : Int) := nI_toInt (by omega)
  intro n
  induction n with
  | zero =>
    intro j hj hb
    have tj : (nI j).toInt = (j : Int) := nI_toInt (by omega)
    obtain rfl : j = i := by omega
    refine r_iloadn dX3_arePlaces_23 rfl ?_
    refine r_iloadn dX3_arePlaces_24 rfl ?_
    refine r_icmp_ge 61 dX3_arePlaces_25 (fun h25 => ?_) (fun h25 => ?_)
    · exact out hb
    · exfalso; simp only [Int32.le_iff_toInt_le, Int32.lt_iff_toInt_lt, Int32.reduceToInt] at h25; omega
  | succ n ih =>
    intro j hj hb
    have tj : (nI j).toInt = (j : Int) := nI_toInt (by omega)
    refine r_iloadn dX3_arePlaces_23 rfl ?_
    refine r_iloadn dX3_arePlaces_24 rfl ?_
    refine r_icmp_ge 61 dX3_arePlaces_25 (fun h25 => ?_) (fun h25 => ?_)
    · exfalso; simp only [Int32.le_iff_toInt_le, Int32.lt_iff_toInt_lt, Int32.reduceToInt] at h25; omega
    · refine r_aloadn dX3_arePlaces_28 rfl (Or.inl ⟨by omega, by omega⟩) ?_
      refine r_getfr dX3_arePlaces_29 kf_RX3_18 (sh_s hk) rfl ?_ (by omega)
      refine r_iloadn dX3_arePlaces_32 rfl ?_
      refine r_ialdL (j := i) dX3_arePlaces_33 (sh_n hk) rfl ⟨by omega, by decide⟩ ?_
      refine r_i2l dX3_arePlaces_34 ?_
      refine r_aloadn dX3_arePlaces_35 rfl (Or.inl ⟨by omega, by omega⟩) ?_
      refine r_getfr dX3_arePlaces_36 kf_RX3_18 (sh_s hk) rfl ?_ (by omega)
      refine r_iloadn dX3_arePlaces_39 rfl ?_
      refine r_ialdL (j := j) dX3_arePlaces_40 (sh_n hk) rfl ⟨by omega, by decide⟩ ?_
      refine r_i2l dX3_arePlaces_41 ?_
      refine r_lsub dX3_arePlaces_42 ?_
      refine c_S1 (μz := mJ9_abs_067f4) dX3_arePlaces_43 kl_RX3_28 ms_J9_abs_067f4 ok_J9_abs_067f4 ?_
      refine r_ldc2 dX3_arePlaces_46 kc_RX3_34 ?_
      refine r_lcmp dX3_arePlaces_49 ?_
      refine r_if_le 55 dX3_arePlaces_50 (fun h50 => ?_) (fun h50 => ?_)
      · refine r_iinc2 (1) dX3_arePlaces_55 ?_
        refine r_goto 23 dX3_arePlaces_58 ?_
        rw [nI_1]
        refine ih (j + 1) (by omega) (fun b hb1 => ?_)
        rcases Nat.lt_or_ge b j with h | h
        · exact hb b h
        · rw [show b = j by omega]; exact h50
      · refine r_ic (0) dX3_arePlaces_53 ?_
        exact r_iret dX3_arePlaces_54 ⟨by rw [bi_f (fun q => h50 (q i hi j (by omega)))], rfl, rfl⟩
theorem lp_X3_arePlaces {X : fp_X} {M : fp_M} {k z : Nat} (hk : k < 4) (hz : M (41 + 2 * k) 1 = nI z) (h8 : z ≤ 8) : ∀ (n i : Nat), i + n = z → ∀ (w : Option Value), (∀ a, a < i → ∀ b, b < a → k_near (M (42 + 2 * k) a) (M (42 + 2 * k) b)) → fp_W X mX3_arePlaces 13 [some (.ref (41 + 2 * k)), some (.int (nI i)), w] [] fp_sh M 0 0 (fun r s m => r = some (.int (bi (∀ a, a < z → ∀ b, b < a → k_near (M (42 + 2 * k) a) (M (42 + 2 * k) b)))) ∧ s = fp_sh ∧ m = M) := by
  intro n
  induction n with
  | zero =>
    intro i hi w  hinv
    have ti : (nI i).toInt = (i : Int) := nI_toInt (by omega)
    have tz : (M (41 + 2 * k) 1).toInt = (z : Int) := by rw [hz]; exact nI_toInt (by omega)
    refine r_iloadn dX3_arePlaces_13 rfl ?_
    refine r_aloadn dX3_arePlaces_14 rfl (Or.inl ⟨by omega, by omega⟩) ?_
    refine r_getfi dX3_arePlaces_15 kf_RX3_15 (sh_s hk) rfl ?_
    refine r_icmp_ge 67 dX3_arePlaces_18 (fun h18 => ?_) (fun h18 => ?_)
    · refine r_ic (1) dX3_arePlaces_67 ?_
      exact r_iret dX3_arePlaces_68 ⟨by rw [bi_t (fun a ha => hinv a (by omega))], rfl, rfl⟩
    · exfalso; simp only [Int32.le_iff_toInt_le, Int32.lt_iff_toInt_lt, Int32.reduceToInt] at h18; omega
  | succ n ih =>
    intro i hi w  hinv
    have ti : (nI i).toInt = (i : Int) := nI_toInt (by omega)
    have tz : (M (41 + 2 * k) 1).toInt = (z : Int) := by rw [hz]; exact nI_toInt (by omega)
    refine r_iloadn dX3_arePlaces_13 rfl ?_
    refine r_aloadn dX3_arePlaces_14 rfl (Or.inl ⟨by omega, by omega⟩) ?_
    refine r_getfi dX3_arePlaces_15 kf_RX3_15 (sh_s hk) rfl ?_
    refine r_icmp_ge 67 dX3_arePlaces_18 (fun h18 => ?_) (fun h18 => ?_)
    · exfalso; simp only [Int32.le_iff_toInt_le, Int32.lt_iff_toInt_lt, Int32.reduceToInt] at h18; omega
    · refine r_ic (0) dX3_arePlaces_21 ?_
      refine r_istore2 dX3_arePlaces_22 ?_
      refine lp_X3_arePlaces_in hk hz h8 i (by omega) hinv (fun hb => ?_) i 0 (by omega) (fun b hb => absurd hb (by omega))
      refine r_iinc1 (1) dX3_arePlaces_61 ?_
      refine r_goto 13 dX3_arePlaces_64 ?_
      rw [nI_1]
      refine ih (i + 1) (by omega) _ (fun a ha => ?_)
      rcases Nat.lt_or_ge a i with h | h
      · exact hinv a h
      · rw [show a = i by omega]; exact hb

theorem ok_X3_arePlaces {X : fp_X} {M : fp_M} {k z : Nat} (hk : k < 4) (hz : M (41 + 2 * k) 1 = nI z) (hz40 : z ≤ 40): fp_Ev X mX3_arePlaces [.ref (41 + 2 * k)] fp_sh M (some (.int (bi (z ≤ 8 ∧ (∀ a, a < z → ∀ b, b < a → k_near (M (42 + 2 * k) a) (M (42 + 2 * k) b)))))) M := by
  have tz : (M (41 + 2 * k) 1).toInt = (z : Int) := by rw [hz]; exact nI_toInt (by omega)
  refine fp_ok [some (.ref (41 + 2 * k)), none, none] ?_
  refine r_aloadn dX3_arePlaces_0 rfl (Or.inl ⟨by omega, by omega⟩) ?_
  refine r_getfi dX3_arePlaces_1 kf_RX3_15 (sh_s hk) rfl ?_
  refine r_bp (8) dX3_arePlaces_4 ?_
  refine r_icmp_le 11 dX3_arePlaces_6 (fun h6 => ?_) (fun h6 => ?_)
  · refine r_ic (0) dX3_arePlaces_11 ?_
    refine r_istore1 dX3_arePlaces_12 ?_
    have h8 : z ≤ 8 := by simp only [Int32.le_iff_toInt_le, Int32.reduceToInt] at h6; omega
    have e := lp_X3_arePlaces (X := X) hk hz h8 z 0 (by omega) none (fun a ha => absurd ha (by omega))
    rw [show bi (z ≤ 8 ∧ (∀ a, a < z → ∀ b, b < a → k_near (M (42 + 2 * k) a) (M (42 + 2 * k) b))) = bi (∀ a, a < z → ∀ b, b < a → k_near (M (42 + 2 * k) a) (M (42 + 2 * k) b)) from bi_congr ⟨fun q => q.2, fun q => ⟨h8, q⟩⟩]
    exact e
  · refine r_ic (0) dX3_arePlaces_9 ?_
    exact r_iret dX3_arePlaces_10 ⟨by rw [bi_f (fun q => by have h8 := q.1; simp only [Int32.le_iff_toInt_le, Int32.reduceToInt] at h6; omega)], rfl, rfl⟩
theorem ok_X3_denies {X : fp_X} {M : fp_M} {k z L f t : Nat} {s : Int32} (hk : k < 4) (hL : fp_isL L) (hz : M (41 + 2 * k) 1 = nI z) (hz40 : z ≤ 40) (hf : M L 1 = nI f) (ht : M L 2 = nI t) (hf8 : f < 8) (ht8 : t < 8): fp_Ev X mX3_denies [.ref (41 + 2 * k), .ref L, .int s] fp_sh M (some (.int (bi ((f < z ∧ t < z) ∧ ((M (42 + 2 * k) t - M (42 + 2 * k) f) < k_least (M L 0) (M L 3) s ∨ k_most (M L 0) (M L 3) s < (M (42 + 2 * k) t - M (42 + 2 * k) f)))))) M := by
  have tz : (M (41 + 2 * k) 1).toInt = (z : Int) := by rw [hz]; exact nI_toInt (by omega)
  have tf : (M L 1).toInt = (f : Int) := by rw [hf]; exact nI_toInt (by omega)
  have tt : (M L 2).toInt = (t : Int) := by rw [ht]; exact nI_toInt (by omega)
  refine fp_ok [some (.ref (41 + 2 * k)), some (.ref L), some (.int s), none] ?_
  refine r_aloadn dX3_denies_0 rfl (by first | exact Or.inl ⟨by omega, by omega⟩ | exact Or.inl ⟨Nat.lt_of_lt_of_le hL.lt (by decide), by have := hL.lt; omega⟩) ?_
  refine r_getfi dX3_denies_1 kf_RX3_36 hL rfl ?_
  refine r_aloadn dX3_denies_4 rfl (by first | exact Or.inl ⟨by omega, by omega⟩ | exact Or.inl ⟨Nat.lt_of_lt_of_le hL.lt (by decide), by have := hL.lt; omega⟩) ?_
  refine r_getfi dX3_denies_5 kf_RX3_15 (sh_s hk) rfl ?_
  refine r_icmp_ge 22 dX3_denies_8 (fun h8 => ?_) (fun h8 => ?_)
  · refine r_ic (0) dX3_denies_22 ?_
    exact r_iret dX3_denies_23 ⟨by rw [bi_f (fun q => by have q1 := q.1; first | (simp only [Int32.le_iff_toInt_le] at h8; omega) | (simp only [Int32.lt_iff_toInt_lt] at h19; omega))], rfl, rfl⟩
  · refine r_aloadn dX3_denies_11 rfl (by first | exact Or.inl ⟨by omega, by omega⟩ | exact Or.inl ⟨Nat.lt_of_lt_of_le hL.lt (by decide), by have := hL.lt; omega⟩) ?_
    refine r_getfi dX3_denies_12 kf_RX3_41 hL rfl ?_
    refine r_aloadn dX3_denies_15 rfl (by first | exact Or.inl ⟨by omega, by omega⟩ | exact Or.inl ⟨Nat.lt_of_lt_of_le hL.lt (by decide), by have := hL.lt; omega⟩) ?_
    refine r_getfi dX3_denies_16 kf_RX3_15 (sh_s hk) rfl ?_
    refine r_icmp_lt 24 dX3_denies_19 (fun h19 => ?_) (fun h19 => ?_)
    · refine r_aloadn dX3_denies_24 rfl (by first | exact Or.inl ⟨by omega, by omega⟩ | exact Or.inl ⟨Nat.lt_of_lt_of_le hL.lt (by decide), by have := hL.lt; omega⟩) ?_
      refine r_getfr dX3_denies_25 kf_RX3_18 (sh_s hk) rfl ?_ (by omega)
      refine r_aloadn dX3_denies_28 rfl (by first | exact Or.inl ⟨by omega, by omega⟩ | exact Or.inl ⟨Nat.lt_of_lt_of_le hL.lt (by decide), by have := hL.lt; omega⟩) ?_
      refine r_getfi dX3_denies_29 kf_RX3_41 hL rfl ?_
      refine r_ialdL (j := t) dX3_denies_32 (sh_n hk) ht ⟨by omega, by decide⟩ ?_
      refine r_aloadn dX3_denies_33 rfl (by first | exact Or.inl ⟨by omega, by omega⟩ | exact Or.inl ⟨Nat.lt_of_lt_of_le hL.lt (by decide), by have := hL.lt; omega⟩) ?_
      refine r_getfr dX3_denies_34 kf_RX3_18 (sh_s hk) rfl ?_ (by omega)
      refine r_aloadn dX3_denies_37 rfl (by first | exact Or.inl ⟨by omega, by omega⟩ | exact Or.inl ⟨Nat.lt_of_lt_of_le hL.lt (by decide), by have := hL.lt; omega⟩) ?_
      refine r_getfi dX3_denies_38 kf_RX3_36 hL rfl ?_
      refine r_ialdL (j := f) dX3_denies_41 (sh_n hk) hf ⟨by omega, by decide⟩ ?_
      refine r_isub dX3_denies_42 ?_
      refine r_istore3 dX3_denies_43 ?_
      refine r_iloadn dX3_denies_44 rfl ?_
      refine r_aloadn dX3_denies_45 rfl (by first | exact Or.inl ⟨by omega, by omega⟩ | exact Or.inl ⟨Nat.lt_of_lt_of_le hL.lt (by decide), by have := hL.lt; omega⟩) ?_
      refine r_iloadn dX3_denies_46 rfl ?_
      refine c_V1 (μz := mX1_least) dX3_denies_47 kl_RX3_44 mv_X1_least hL (ok_X1_least hL) ?_
      refine r_icmp_lt 62 dX3_denies_50 (fun h50 => ?_) (fun h50 => ?_)
      · refine r_ic (1) dX3_denies_62 ?_
        refine r_goto 67 dX3_denies_63 ?_
        exact r_iret dX3_denies_67 ⟨by rw [bi_t ⟨by simp only [Int32.le_iff_toInt_le, Int32.lt_iff_toInt_lt] at h8 h19; omega, Or.inl h50⟩], rfl, rfl⟩
      · refine r_iloadn dX3_denies_53 rfl ?_
        refine r_aloadn dX3_denies_54 rfl (by first | exact Or.inl ⟨by omega, by omega⟩ | exact Or.inl ⟨Nat.lt_of_lt_of_le hL.lt (by decide), by have := hL.lt; omega⟩) ?_
        refine r_iloadn dX3_denies_55 rfl ?_
        refine c_V1 (μz := mX1_most) dX3_denies_56 kl_RX3_48 mv_X1_most hL (ok_X1_most hL) ?_
        refine r_icmp_le 66 dX3_denies_59 (fun h59 => ?_) (fun h59 => ?_)
        · refine r_ic (0) dX3_denies_66 ?_
          exact r_iret dX3_denies_67 ⟨by rw [bi_f (fun q => q.2.elim h50 (fun q2 => absurd h59 (Int32.not_le.mpr q2)))], rfl, rfl⟩
        · refine r_ic (1) dX3_denies_62 ?_
          refine r_goto 67 dX3_denies_63 ?_
          exact r_iret dX3_denies_67 ⟨by rw [bi_t ⟨by simp only [Int32.le_iff_toInt_le, Int32.lt_iff_toInt_lt] at h8 h19; omega, Or.inr (Int32.not_le.mp h59)⟩], rfl, rfl⟩
    · refine r_ic (0) dX3_denies_22 ?_
      exact r_iret dX3_denies_23 ⟨by rw [bi_f (fun q => by have q1 := q.1; first | (simp only [Int32.le_iff_toInt_le] at h8; omega) | (simp only [Int32.lt_iff_toInt_lt] at h19; omega))], rfl, rfl⟩
