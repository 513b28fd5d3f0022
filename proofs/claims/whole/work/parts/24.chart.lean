/-! ===== the chart ===== -/
theorem k_ix (a b : Nat) : nI a * 8 + nI b = nI (8 * a + b) := by
  show nI a * nI 8 + nI b = _
  rw [pk_mul, nI_add, Nat.mul_comm]
theorem k_ix2 (a b : Nat) : 8 * nI a + nI b = nI (8 * a + b) := by
  show nI 8 * nI a + nI b = _
  rw [pk_mul, nI_add]
abbrev k_T (M : fp_M) (a b : Nat) : Int32 := M 35 (8 * a + b)
abbrev k_wid (M : fp_M) (a b : Nat) : Int32 := M 35 (8 * a + b) - -(M 35 (8 * b + a)) + 1
def k_clr (M : fp_M) : fp_M := k_it (fun i M => fp_wr M 35 (8 * i + i) 0) 8 0 (k_fill (fp_wr M 34 0 1) 35 64 999)
/-- one limit's row, and the whole limit -/
def k_limj (i b : Nat) (tb : Int32) (j : Nat) (M : fp_M) : fp_M := if tb + k_T M b j < k_T M i j then fp_wr M 35 (8 * i + j) (tb + k_T M b j) else M
def k_limi (a b : Nat) (m : Int32) (i : Nat) (M : fp_M) : fp_M := k_it (k_limj i b (k_T M i a + m)) 8 0 M
def k_lim (M : fp_M) (a b : Nat) (m : Int32) : fp_M := if M 34 0 = 0 ∨ k_T M a b ≤ m then M else if m < -(k_T M b a) then fp_wr M 34 0 0 else k_it (k_limi a b m) 8 0 M
def k_nar (M : fp_M) (a b : Nat) (l m : Int32) : fp_M := k_lim (k_lim M a b m) b a (-l)
def k_allw (w : Nat → Nat → Int32) : Int32 := k_it (fun a s => k_it (fun b s => s + w a b) (7 - a) (a + 1) s) 8 0 0
def k_wpj (w : Nat → Nat → Int32) (a b : Nat) (s : Int32 × Int32) : Int32 × Int32 := if s.2 < w a b then (nI (8 * a + b), w a b) else s
def k_wp (w : Nat → Nat → Int32) : Int32 × Int32 := k_it (fun a s => k_it (k_wpj w a) (7 - a) (a + 1) s) 8 0 (1, 0)
theorem ok_X0_mostBelow {X : fp_X} {M : fp_M} {a b : Nat} (ha : a < 8) (hb : b < 8): fp_Ev X mX0_mostBelow [.ref 34, .int (nI a), .int (nI b)] fp_sh M (some (.int (k_T M a b))) M := by
  refine fp_ok [some (.ref 34), some (.int (nI a)), some (.int (nI b))] ?_
  refine r_aloadn dX0_mostBelow_0 rfl (by decide) ?_
  refine r_getfr dX0_mostBelow_1 kf_RX0_15 rfl rfl ?_
  refine r_iloadn dX0_mostBelow_4 rfl ?_
  refine r_bp (8) dX0_mostBelow_5 ?_
  refine r_imul dX0_mostBelow_7 ?_
  refine r_iloadn dX0_mostBelow_8 rfl ?_
  refine r_iadd dX0_mostBelow_9 ?_
  refine r_ialdL (j := 8 * a + b) dX0_mostBelow_10 rfl (k_ix a b) ⟨by omega, by decide⟩ ?_
  exact r_iret dX0_mostBelow_11 ⟨rfl, rfl, rfl⟩
theorem ok_X0_leastBelow {X : fp_X} {M : fp_M} {a b : Nat} (ha : a < 8) (hb : b < 8): fp_Ev X mX0_leastBelow [.ref 34, .int (nI a), .int (nI b)] fp_sh M (some (.int (-(k_T M b a)))) M := by
  refine fp_ok [some (.ref 34), some (.int (nI a)), some (.int (nI b))] ?_
  refine r_aloadn dX0_leastBelow_0 rfl (by decide) ?_
  refine r_getfr dX0_leastBelow_1 kf_RX0_15 rfl rfl ?_
  refine r_iloadn dX0_leastBelow_4 rfl ?_
  refine r_bp (8) dX0_leastBelow_5 ?_
  refine r_imul dX0_leastBelow_7 ?_
  refine r_iloadn dX0_leastBelow_8 rfl ?_
  refine r_iadd dX0_leastBelow_9 ?_
  refine r_ialdL (j := 8 * b + a) dX0_leastBelow_10 rfl (k_ix b a) ⟨by omega, by decide⟩ ?_
  refine r_ineg dX0_leastBelow_11 ?_
  exact r_iret dX0_leastBelow_12 ⟨rfl, rfl, rfl⟩
theorem ok_X0_width {X : fp_X} {M : fp_M} {a b : Nat} (ha : a < 8) (hb : b < 8): fp_Ev X mX0_width [.ref 34, .int (nI a), .int (nI b)] fp_sh M (some (.int (k_wid M a b))) M := by
  refine fp_ok [some (.ref 34), some (.int (nI a)), some (.int (nI b))] ?_
  refine r_aloadn dX0_width_0 rfl (by decide) ?_
  refine r_iloadn dX0_width_1 rfl ?_
  refine r_iloadn dX0_width_2 rfl ?_
  refine c_V2 (μz := mX0_mostBelow) dX0_width_3 kl_RX0_29 mv_X0_mostBelow rfl (ok_X0_mostBelow (by omega) (by omega)) ?_
  refine r_aloadn dX0_width_6 rfl (by decide) ?_
  refine r_iloadn dX0_width_7 rfl ?_
  refine r_iloadn dX0_width_8 rfl ?_
  refine c_V2 (μz := mX0_leastBelow) dX0_width_9 kl_RX0_33 mv_X0_leastBelow rfl (ok_X0_leastBelow (by omega) (by omega)) ?_
  refine r_isub dX0_width_12 ?_
  refine r_ic (1) dX0_width_13 ?_
  refine r_iadd dX0_width_14 ?_
  exact r_iret dX0_width_15 ⟨rfl, rfl, rfl⟩
theorem ok_X0_allows {X : fp_X} {M : fp_M} {a b : Nat} {l m : Int32} (ha : a < 8) (hb : b < 8): fp_Ev X mX0_allows [.ref 34, .int (nI a), .int (nI b), .int l, .int m] fp_sh M (some (.int (bi (l ≤ k_T M a b ∧ -(k_T M b a) ≤ m)))) M := by
  refine fp_ok [some (.ref 34), some (.int (nI a)), some (.int (nI b)), some (.int l), some (.int m)] ?_
  refine r_iloadn dX0_allows_0 rfl ?_
  refine r_aloadn dX0_allows_1 rfl (by decide) ?_
  refine r_iloadn dX0_allows_2 rfl ?_
  refine r_iloadn dX0_allows_3 rfl ?_
  refine c_V2 (μz := mX0_mostBelow) dX0_allows_4 kl_RX0_29 mv_X0_mostBelow rfl (ok_X0_mostBelow (by omega) (by omega)) ?_
  refine r_icmp_gt 25 dX0_allows_7 (fun h7 => ?_) (fun h7 => ?_)
  · refine r_ic (0) dX0_allows_25 ?_
    exact r_iret dX0_allows_26 ⟨by rw [bi_f (fun q => absurd q.1 (Int32.not_le.mpr h7))], rfl, rfl⟩
  · refine r_iload dX0_allows_10 rfl ?_
    refine r_aloadn dX0_allows_12 rfl (by decide) ?_
    refine r_iloadn dX0_allows_13 rfl ?_
    refine r_iloadn dX0_allows_14 rfl ?_
    refine c_V2 (μz := mX0_leastBelow) dX0_allows_15 kl_RX0_33 mv_X0_leastBelow rfl (ok_X0_leastBelow (by omega) (by omega)) ?_
    refine r_icmp_lt 25 dX0_allows_18 (fun h18 => ?_) (fun h18 => ?_)
    · refine r_ic (0) dX0_allows_25 ?_
      exact r_iret dX0_allows_26 ⟨by rw [bi_f (fun q => absurd q.2 (Int32.not_le.mpr h18))], rfl, rfl⟩
    · refine r_ic (1) dX0_allows_21 ?_
      refine r_goto 26 dX0_allows_22 ?_
      exact r_iret dX0_allows_26 ⟨by rw [bi_t ⟨Int32.not_lt.mp h7, Int32.not_lt.mp h18⟩], rfl, rfl⟩
theorem ok_X0_implies {X : fp_X} {M : fp_M} {L f t : Nat} {s : Int32} (hL : fp_isL L) (hf : M L 1 = nI f) (ht : M L 2 = nI t) (hf8 : f < 8) (ht8 : t < 8): fp_Ev X mX0_implies [.ref 34, .ref L, .int s] fp_sh M (some (.int (bi (k_least (M L 0) (M L 3) s ≤ -(k_T M t f) ∧ k_T M f t ≤ k_most (M L 0) (M L 3) s)))) M := by
  refine fp_ok [some (.ref 34), some (.ref L), some (.int s)] ?_
  refine r_aloadn dX0_implies_0 rfl (by decide) ?_
  refine r_aloadn dX0_implies_1 rfl (Or.inl ⟨Nat.lt_of_lt_of_le hL.lt (by decide), by have := hL.lt; omega⟩) ?_
  refine r_getfi dX0_implies_2 kf_RX0_39 hL rfl ?_
  refine r_aloadn dX0_implies_5 rfl (Or.inl ⟨Nat.lt_of_lt_of_le hL.lt (by decide), by have := hL.lt; omega⟩) ?_
  refine r_getfi dX0_implies_6 kf_RX0_45 hL rfl ?_
  rw [hf, ht]
  refine c_V2 (μz := mX0_leastBelow) dX0_implies_9 kl_RX0_33 mv_X0_leastBelow rfl (ok_X0_leastBelow hf8 ht8) ?_
  refine r_aloadn dX0_implies_12 rfl (Or.inl ⟨Nat.lt_of_lt_of_le hL.lt (by decide), by have := hL.lt; omega⟩) ?_
  refine r_iloadn dX0_implies_13 rfl ?_
  refine c_V1 (μz := mX1_least) dX0_implies_14 kl_RX0_48 mv_X1_least hL (ok_X1_least hL) ?_
  refine r_icmp_lt 44 dX0_implies_17 (fun h17 => ?_) (fun h17 => ?_)
  · refine r_ic (0) dX0_implies_44 ?_
    exact r_iret dX0_implies_45 ⟨by rw [bi_f (fun q => absurd q.1 (Int32.not_le.mpr h17))], rfl, rfl⟩
  · refine r_aloadn dX0_implies_20 rfl (by decide) ?_
    refine r_aloadn dX0_implies_21 rfl (Or.inl ⟨Nat.lt_of_lt_of_le hL.lt (by decide), by have := hL.lt; omega⟩) ?_
    refine r_getfi dX0_implies_22 kf_RX0_39 hL rfl ?_
    refine r_aloadn dX0_implies_25 rfl (Or.inl ⟨Nat.lt_of_lt_of_le hL.lt (by decide), by have := hL.lt; omega⟩) ?_
    refine r_getfi dX0_implies_26 kf_RX0_45 hL rfl ?_
    rw [hf, ht]
    refine c_V2 (μz := mX0_mostBelow) dX0_implies_29 kl_RX0_29 mv_X0_mostBelow rfl (ok_X0_mostBelow hf8 ht8) ?_
    refine r_aloadn dX0_implies_32 rfl (Or.inl ⟨Nat.lt_of_lt_of_le hL.lt (by decide), by have := hL.lt; omega⟩) ?_
    refine r_iloadn dX0_implies_33 rfl ?_
    refine c_V1 (μz := mX1_most) dX0_implies_34 kl_RX0_52 mv_X1_most hL (ok_X1_most hL) ?_
    refine r_icmp_gt 44 dX0_implies_37 (fun h37 => ?_) (fun h37 => ?_)
    · refine r_ic (0) dX0_implies_44 ?_
      exact r_iret dX0_implies_45 ⟨by rw [bi_f (fun q => absurd q.2 (Int32.not_le.mpr h37))], rfl, rfl⟩
    · refine r_ic (1) dX0_implies_40 ?_
      refine r_goto 45 dX0_implies_41 ?_
      exact r_iret dX0_implies_45 ⟨by rw [bi_t ⟨Int32.not_lt.mp h17, Int32.not_lt.mp h37⟩], rfl, rfl⟩
theorem lp_X0_clear {X : fp_X}  : ∀ (n i : Nat), i + n = 8 → ∀ (M : fp_M), fp_W X mX0_clear 17 [some (.ref 34), some (.int (nI i))] [] fp_sh M 0 0 (fun r s m => r = none ∧ s = fp_sh ∧ m = k_it (fun i M => fp_wr M 35 (8 * i + i) 0) n i M) := by
  intro n
  induction n with
  | zero =>
    intro i hi M 
    have ti : (nI i).toInt = (i : Int) := nI_toInt (by omega)
    refine r_iloadn dX0_clear_17 rfl ?_
    refine r_bp (8) dX0_clear_18 ?_
    refine r_icmp_ge 41 dX0_clear_20 (fun h20 => ?_) (fun h20 => ?_)
    · exact r_vret dX0_clear_41 ⟨rfl, rfl, rfl⟩
    · exfalso; simp only [Int32.le_iff_toInt_le, Int32.lt_iff_toInt_lt, Int32.reduceToInt] at h20; omega
  | succ n ih =>
    intro i hi M 
    have ti : (nI i).toInt = (i : Int) := nI_toInt (by omega)
    refine r_iloadn dX0_clear_17 rfl ?_
    refine r_bp (8) dX0_clear_18 ?_
    refine r_icmp_ge 41 dX0_clear_20 (fun h20 => ?_) (fun h20 => ?_)
    · exfalso; simp only [Int32.le_iff_toInt_le, Int32.lt_iff_toInt_lt, Int32.reduceToInt] at h20; omega
    · refine r_aloadn dX0_clear_23 rfl (by decide) ?_
      refine r_getfr dX0_clear_24 kf_RX0_15 rfl rfl ?_
      refine r_iloadn dX0_clear_27 rfl ?_
      refine r_bp (8) dX0_clear_28 ?_
      refine r_imul dX0_clear_30 ?_
      refine r_iloadn dX0_clear_31 rfl ?_
      refine r_iadd dX0_clear_32 ?_
      refine r_ic (0) dX0_clear_33 ?_
      refine r_iastL (j := 8 * i + i) dX0_clear_34 rfl (k_ix i i) ⟨by omega, by decide⟩ ?_
      refine r_iinc1 (1) dX0_clear_35 ?_
      refine r_goto 17 dX0_clear_38 ?_
      rw [nI_1]
      exact ih (i + 1) (by omega) _

theorem ok_X0_clear {X : fp_X} {M : fp_M}  : fp_Ev X mX0_clear [.ref 34] fp_sh M none (k_clr M) := by
  refine fp_ok [some (.ref 34), none] ?_
  refine r_aloadn dX0_clear_0 rfl (by decide) ?_
  refine r_ic (1) dX0_clear_1 ?_
  refine r_putfi dX0_clear_2 kf_RX0_9 rfl rfl ?_
  refine r_aloadn dX0_clear_5 rfl (by decide) ?_
  refine r_getfr dX0_clear_6 kf_RX0_15 rfl rfl ?_
  refine r_sp (999) dX0_clear_9 ?_
  refine c_S2v (μz := mJ7_fill_53178) dX0_clear_12 kl_RX0_19 ms_J7_fill_53178 (ok_J7_fill_53178 rfl (by decide) (by decide)) ?_
  refine r_ic (0) dX0_clear_15 ?_
  refine r_istore1 dX0_clear_16 ?_
  exact lp_X0_clear 8 0 (by omega) _
theorem lp_X0_limit_in {X : fp_X} {a b i : Nat} {m tb : Int32} {Post : fp_Q} (ha : a < 8) (hb : b < 8) (hi : i < 8) : ∀ (n j : Nat), j + n = 8 → ∀ (M : fp_M) (w7 : Option Value), fp_nl w7 = true → (∀ w6 w7 : Option Value, fp_nl w6 = true → fp_nl w7 = true → fp_W X mX0_limit 111 [some (.ref 34), some (.int (nI a)), some (.int (nI b)), some (.int m), some (.int (nI i)), some (.int tb), w6, w7] [] fp_sh (k_it (k_limj i b tb) n j M) 0 0 Post) → fp_W X mX0_limit 58 [some (.ref 34), some (.int (nI a)), some (.int (nI b)), some (.int m), some (.int (nI i)), some (.int tb), some (.int (nI j)), w7] [] fp_sh M 0 0 Post := by
  intro n
  induction n with
  | zero =>
    intro j hj M w7 hw out
    have tj : (nI j).toInt = (j : Int) := nI_toInt (by omega)
    refine r_iload dX0_limit_58 rfl ?_
    refine r_bp (8) dX0_limit_60 ?_
    refine r_icmp_ge 111 dX0_limit_62 (fun h62 => ?_) (fun h62 => ?_)
    · exact out _ _ rfl hw
    · exfalso; simp only [Int32.le_iff_toInt_le, Int32.lt_iff_toInt_lt, Int32.reduceToInt] at h62; omega
  | succ n ih =>
    intro j hj M w7 hw out
    have tj : (nI j).toInt = (j : Int) := nI_toInt (by omega)
    refine r_iload dX0_limit_58 rfl ?_
    refine r_bp (8) dX0_limit_60 ?_
    refine r_icmp_ge 111 dX0_limit_62 (fun h62 => ?_) (fun h62 => ?_)
    · exfalso; simp only [Int32.le_iff_toInt_le, Int32.lt_iff_toInt_lt, Int32.reduceToInt] at h62; omega
    · refine r_iload dX0_limit_65 rfl ?_
      refine r_aloadn dX0_limit_67 rfl (by decide) ?_
      refine r_iloadn dX0_limit_68 rfl ?_
      refine r_iload dX0_limit_69 rfl ?_
      refine c_V2 (μz := mX0_mostBelow) dX0_limit_71 kl_RX0_29 mv_X0_mostBelow rfl (ok_X0_mostBelow (by omega) (by omega)) ?_
      refine r_iadd dX0_limit_74 ?_
      refine r_istore7 dX0_limit_75 ?_
      refine r_iload dX0_limit_77 rfl ?_
      refine r_aloadn dX0_limit_79 rfl (by decide) ?_
      refine r_iload dX0_limit_80 rfl ?_
      refine r_iload dX0_limit_82 rfl ?_
      refine c_V2 (μz := mX0_mostBelow) dX0_limit_84 kl_RX0_29 mv_X0_mostBelow rfl (ok_X0_mostBelow (by omega) (by omega)) ?_
      refine r_icmp_ge 105 dX0_limit_87 (fun h87 => ?_) (fun h87 => ?_)
      · refine r_iinc6 (1) dX0_limit_105 ?_
        refine r_goto 58 dX0_limit_108 ?_
        rw [nI_1]
        refine ih (j + 1) (by omega) _ _ rfl ?_
        rw [k_it_s] at out
        unfold k_limj at out
        rw [if_neg (Int32.not_lt.mpr h87)] at out
        exact out
      · refine r_aloadn dX0_limit_90 rfl (by decide) ?_
        refine r_getfr dX0_limit_91 kf_RX0_15 rfl rfl ?_
        refine r_iload dX0_limit_94 rfl ?_
        refine r_bp (8) dX0_limit_96 ?_
        refine r_imul dX0_limit_98 ?_
        refine r_iload dX0_limit_99 rfl ?_
        refine r_iadd dX0_limit_101 ?_
        refine r_iload dX0_limit_102 rfl ?_
        refine r_iastL (j := 8 * i + j) dX0_limit_104 rfl (k_ix i j) ⟨by omega, by decide⟩ ?_
        refine r_iinc6 (1) dX0_limit_105 ?_
        refine r_goto 58 dX0_limit_108 ?_
        rw [nI_1]
        refine ih (j + 1) (by omega) _ _ rfl ?_
        rw [k_it_s] at out
        unfold k_limj at out
        rw [if_pos (Int32.not_le.mp h87)] at out
        exact out
theorem lp_X0_limit {X : fp_X} {a b : Nat} {m : Int32} (ha : a < 8) (hb : b < 8) : ∀ (n i : Nat), i + n = 8 → ∀ (M : fp_M) (w5 w6 w7 : Option Value), fp_nl w5 = true → fp_nl w6 = true → fp_nl w7 = true → fp_W X mX0_limit 37 [some (.ref 34), some (.int (nI a)), some (.int (nI b)), some (.int m), some (.int (nI i)), w5, w6, w7] [] fp_sh M 0 0 (fun r s m' => r = none ∧ s = fp_sh ∧ m' = k_it (k_limi a b m) n i M) := by
  intro n
  induction n with
  | zero =>
    intro i hi M w5 w6 w7 h5 h6 h7
    have ti : (nI i).toInt = (i : Int) := nI_toInt (by omega)
    refine r_iload dX0_limit_37 rfl ?_
    refine r_bp (8) dX0_limit_39 ?_
    refine r_icmp_ge 117 dX0_limit_41 (fun h41 => ?_) (fun h41 => ?_)
    · exact r_vret dX0_limit_117 ⟨rfl, rfl, rfl⟩
    · exfalso; simp only [Int32.le_iff_toInt_le, Int32.lt_iff_toInt_lt, Int32.reduceToInt] at h41; omega
  | succ n ih =>
    intro i hi M w5 w6 w7 h5 h6 h7
    have ti : (nI i).toInt = (i : Int) := nI_toInt (by omega)
    refine r_iload dX0_limit_37 rfl ?_
    refine r_bp (8) dX0_limit_39 ?_
    refine r_icmp_ge 117 dX0_limit_41 (fun h41 => ?_) (fun h41 => ?_)
    · exfalso; simp only [Int32.le_iff_toInt_le, Int32.lt_iff_toInt_lt, Int32.reduceToInt] at h41; omega
    · refine r_aloadn dX0_limit_44 rfl (by decide) ?_
      refine r_iload dX0_limit_45 rfl ?_
      refine r_iloadn dX0_limit_47 rfl ?_
      refine c_V2 (μz := mX0_mostBelow) dX0_limit_48 kl_RX0_29 mv_X0_mostBelow rfl (ok_X0_mostBelow (by omega) (by omega)) ?_
      refine r_iloadn dX0_limit_51 rfl ?_
      refine r_iadd dX0_limit_52 ?_
      refine r_istore5 dX0_limit_53 ?_
      refine r_ic (0) dX0_limit_55 ?_
      refine r_istore6 dX0_limit_56 ?_
      refine lp_X0_limit_in ha hb (by omega) 8 0 (by omega) M _ h7 (fun w6' w7' h6' h7' => ?_)
      refine r_iinc4 (1) dX0_limit_111 ?_
      refine r_goto 37 dX0_limit_114 ?_
      rw [nI_1]
      exact ih (i + 1) (by omega) _ _ _ _ rfl h6' h7'
theorem ok_X0_limit {X : fp_X} {M : fp_M} {a b : Nat} {m : Int32} (ha : a < 8) (hb : b < 8): fp_Ev X mX0_limit [.ref 34, .int (nI a), .int (nI b), .int m] fp_sh M none (k_lim M a b m) := by
  refine fp_ok [some (.ref 34), some (.int (nI a)), some (.int (nI b)), some (.int m), none, none, none, none] ?_
  refine r_aloadn dX0_limit_0 rfl (by decide) ?_
  refine r_getfi dX0_limit_1 kf_RX0_9 rfl rfl ?_
  refine r_if_eq 17 dX0_limit_4 (fun h4 => ?_) (fun h4 => ?_)
  · exact r_vret dX0_limit_17 ⟨rfl, rfl, by unfold k_lim; rw [if_pos (Or.inl h4)]⟩
  · refine r_iloadn dX0_limit_7 rfl ?_
    refine r_aloadn dX0_limit_8 rfl (by decide) ?_
    refine r_iloadn dX0_limit_9 rfl ?_
    refine r_iloadn dX0_limit_10 rfl ?_
    refine c_V2 (μz := mX0_mostBelow) dX0_limit_11 kl_RX0_29 mv_X0_mostBelow rfl (ok_X0_mostBelow (by omega) (by omega)) ?_
    refine r_icmp_lt 18 dX0_limit_14 (fun h14 => ?_) (fun h14 => ?_)
    · refine r_iloadn dX0_limit_18 rfl ?_
      refine r_aloadn dX0_limit_19 rfl (by decide) ?_
      refine r_iloadn dX0_limit_20 rfl ?_
      refine r_iloadn dX0_limit_21 rfl ?_
      refine c_V2 (μz := mX0_leastBelow) dX0_limit_22 kl_RX0_33 mv_X0_leastBelow rfl (ok_X0_leastBelow (by omega) (by omega)) ?_
      refine r_icmp_ge 34 dX0_limit_25 (fun h25 => ?_) (fun h25 => ?_)
      · refine r_ic (0) dX0_limit_34 ?_
        refine r_istore4 dX0_limit_35 ?_
        unfold k_lim
        rw [if_neg (fun q => q.elim h4 (fun q => absurd h14 (Int32.not_lt.mpr q))), if_neg (Int32.not_lt.mpr h25)]
        exact lp_X0_limit ha hb 8 0 (by omega) M _ _ _ rfl rfl rfl
      · refine r_aloadn dX0_limit_28 rfl (by decide) ?_
        refine r_ic (0) dX0_limit_29 ?_
        refine r_putfi dX0_limit_30 kf_RX0_9 rfl rfl ?_
        exact r_vret dX0_limit_33 ⟨rfl, rfl, by unfold k_lim; rw [if_neg (fun q => q.elim h4 (fun q => absurd h14 (Int32.not_lt.mpr q))), if_pos (Int32.not_le.mp h25)]⟩
    · exact r_vret dX0_limit_17 ⟨rfl, rfl, by unfold k_lim; rw [if_pos (Or.inr (Int32.not_lt.mp h14))]⟩
theorem ok_X0_narrow {X : fp_X} {M : fp_M} {a b : Nat} {l m : Int32} (ha : a < 8) (hb : b < 8): fp_Ev X mX0_narrow [.ref 34, .int (nI a), .int (nI b), .int l, .int m] fp_sh M none (k_nar M a b l m) := by
  refine fp_ok [some (.ref 34), some (.int (nI a)), some (.int (nI b)), some (.int l), some (.int m)] ?_
  refine r_aloadn dX0_narrow_0 rfl (by decide) ?_
  refine r_iloadn dX0_narrow_1 rfl ?_
  refine r_iloadn dX0_narrow_2 rfl ?_
  refine r_iload dX0_narrow_3 rfl ?_
  refine c_V3v (μz := mX0_limit) dX0_narrow_5 kl_RX0_25 mv_X0_limit rfl (ok_X0_limit ha hb) ?_
  refine r_aloadn dX0_narrow_8 rfl (by decide) ?_
  refine r_iloadn dX0_narrow_9 rfl ?_
  refine r_iloadn dX0_narrow_10 rfl ?_
  refine r_iloadn dX0_narrow_11 rfl ?_
  refine r_ineg dX0_narrow_12 ?_
  refine c_V3v (μz := mX0_limit) dX0_narrow_13 kl_RX0_25 mv_X0_limit rfl (ok_X0_limit hb ha) ?_
  exact r_vret dX0_narrow_16 ⟨rfl, rfl, rfl⟩
theorem lp_X0_allWidths_in {X : fp_X} {M : fp_M} {a : Nat} {Post : fp_Q} (ha : a < 8) : ∀ (n b : Nat), b + n = 8 → ∀ (s : Int32), fp_W X mX0_allWidths 35 [some (.ref 34), some (.int (k_it (fun b s => s + k_wid M a b) n b s)), some (.int (nI a)), some (.int (nI 8))] [] fp_sh M 0 0 Post → fp_W X mX0_allWidths 14 [some (.ref 34), some (.int s), some (.int (nI a)), some (.int (nI b))] [] fp_sh M 0 0 Post := by
  intro n
  induction n with
  | zero =>
    intro b hb s out
    have tb : (nI b).toInt = (b : Int) := nI_toInt (by omega)
    refine r_iloadn dX0_allWidths_14 rfl ?_
    refine r_bp (8) dX0_allWidths_15 ?_
    refine r_icmp_ge 35 dX0_allWidths_17 (fun h17 => ?_) (fun h17 => ?_)
    · rw [show b = 8 by omega]
      exact out
    · exfalso; simp only [Int32.le_iff_toInt_le, Int32.lt_iff_toInt_lt, Int32.reduceToInt] at h17; omega
  | succ n ih =>
    intro b hb s out
    have tb : (nI b).toInt = (b : Int) := nI_toInt (by omega)
    refine r_iloadn dX0_allWidths_14 rfl ?_
    refine r_bp (8) dX0_allWidths_15 ?_
    refine r_icmp_ge 35 dX0_allWidths_17 (fun h17 => ?_) (fun h17 => ?_)
    · exfalso; simp only [Int32.le_iff_toInt_le, Int32.lt_iff_toInt_lt, Int32.reduceToInt] at h17; omega
    · refine r_iloadn dX0_allWidths_20 rfl ?_
      refine r_aloadn dX0_allWidths_21 rfl (by decide) ?_
      refine r_iloadn dX0_allWidths_22 rfl ?_
      refine r_iloadn dX0_allWidths_23 rfl ?_
      refine c_V2 (μz := mX0_width) dX0_allWidths_24 kl_RX0_36 mv_X0_width rfl (ok_X0_width (by omega) (by omega)) ?_
      refine r_iadd dX0_allWidths_27 ?_
      refine r_istore1 dX0_allWidths_28 ?_
      refine r_iinc3 (1) dX0_allWidths_29 ?_
      refine r_goto 14 dX0_allWidths_32 ?_
      rw [nI_1]
      exact ih (b + 1) (by omega) _ out
theorem lp_X0_allWidths {X : fp_X} {M : fp_M} : ∀ (n i : Nat), i + n = 8 → ∀ (s : Int32) (w3 : Option Value), fp_W X mX0_allWidths 4 [some (.ref 34), some (.int s), some (.int (nI i)), w3] [] fp_sh M 0 0 (fun r sh m => r = some (.int (k_it (fun a s => k_it (fun b s => s + k_wid M a b) (7 - a) (a + 1) s) n i s)) ∧ sh = fp_sh ∧ m = M) := by
  intro n
  induction n with
  | zero =>
    intro i hi s  w3 
    have ti : (nI i).toInt = (i : Int) := nI_toInt (by omega)
    refine r_iloadn dX0_allWidths_4 rfl ?_
    refine r_bp (8) dX0_allWidths_5 ?_
    refine r_icmp_ge 41 dX0_allWidths_7 (fun h7 => ?_) (fun h7 => ?_)
    · refine r_iloadn dX0_allWidths_41 rfl ?_
      exact r_iret dX0_allWidths_42 ⟨rfl, rfl, rfl⟩
    · exfalso; simp only [Int32.le_iff_toInt_le, Int32.lt_iff_toInt_lt, Int32.reduceToInt] at h7; omega
  | succ n ih =>
    intro i hi s  w3 
    have ti : (nI i).toInt = (i : Int) := nI_toInt (by omega)
    refine r_iloadn dX0_allWidths_4 rfl ?_
    refine r_bp (8) dX0_allWidths_5 ?_
    refine r_icmp_ge 41 dX0_allWidths_7 (fun h7 => ?_) (fun h7 => ?_)
    · exfalso; simp only [Int32.le_iff_toInt_le, Int32.lt_iff_toInt_lt, Int32.reduceToInt] at h7; omega
    · refine r_iloadn dX0_allWidths_10 rfl ?_
      refine r_ic (1) dX0_allWidths_11 ?_
      refine r_iadd dX0_allWidths_12 ?_
      refine r_istore3 dX0_allWidths_13 ?_
      rw [nI_1]
      refine lp_X0_allWidths_in (by omega) (7 - i) (i + 1) (by omega) s ?_
      refine r_iinc2 (1) dX0_allWidths_35 ?_
      refine r_goto 4 dX0_allWidths_38 ?_
      rw [nI_1]
      exact ih (i + 1) (by omega) _ _

theorem ok_X0_allWidths {X : fp_X} {M : fp_M}  : fp_Ev X mX0_allWidths [.ref 34] fp_sh M (some (.int (k_allw (k_wid M)))) M := by
  refine fp_ok [some (.ref 34), none, none, none] ?_
  refine r_ic (0) dX0_allWidths_0 ?_
  refine r_istore1 dX0_allWidths_1 ?_
  refine r_ic (0) dX0_allWidths_2 ?_
  refine r_istore2 dX0_allWidths_3 ?_
  exact lp_X0_allWidths 8 0 (by omega) 0 none
theorem lp_X0_widestPair_in {X : fp_X} {M : fp_M} {a : Nat} {Post : fp_Q} (ha : a < 8) : ∀ (n b : Nat), b + n = 8 → ∀ (s : Int32 × Int32), fp_W X mX0_widestPair 57 [some (.ref 34), some (.int (k_it (k_wpj (k_wid M) a) n b s).1), some (.int (k_it (k_wpj (k_wid M) a) n b s).2), some (.int (nI a)), some (.int (nI 8))] [] fp_sh M 0 0 Post → fp_W X mX0_widestPair 17 [some (.ref 34), some (.int s.1), some (.int s.2), some (.int (nI a)), some (.int (nI b))] [] fp_sh M 0 0 Post := by
  intro n
  induction n with
  | zero =>
    intro b hb s out
    have tb : (nI b).toInt = (b : Int) := nI_toInt (by omega)
    refine r_iload dX0_widestPair_17 rfl ?_
    refine r_bp (8) dX0_widestPair_19 ?_
    refine r_icmp_ge 57 dX0_widestPair_21 (fun h21 => ?_) (fun h21 => ?_)
    · rw [show b = 8 by omega]
      exact out
    · exfalso; simp only [Int32.le_iff_toInt_le, Int32.lt_iff_toInt_lt, Int32.reduceToInt] at h21; omega
  | succ n ih =>
    intro b hb s out
    have tb : (nI b).toInt = (b : Int) := nI_toInt (by omega)
    rw [k_it_s] at out
    unfold k_wpj at out
    refine r_iload dX0_widestPair_17 rfl ?_
    refine r_bp (8) dX0_widestPair_19 ?_
    refine r_icmp_ge 57 dX0_widestPair_21 (fun h21 => ?_) (fun h21 => ?_)
    · exfalso; simp only [Int32.le_iff_toInt_le, Int32.lt_iff_toInt_lt, Int32.reduceToInt] at h21; omega
    · refine r_aloadn dX0_widestPair_24 rfl (by decide) ?_
      refine r_iloadn dX0_widestPair_25 rfl ?_
      refine r_iload dX0_widestPair_26 rfl ?_
      refine c_V2 (μz := mX0_width) dX0_widestPair_28 kl_RX0_36 mv_X0_width rfl (ok_X0_width (by omega) (by omega)) ?_
      refine r_iloadn dX0_widestPair_31 rfl ?_
      refine r_icmp_le 51 dX0_widestPair_32 (fun h32 => ?_) (fun h32 => ?_)
      · refine r_iinc4 (1) dX0_widestPair_51 ?_
        refine r_goto 17 dX0_widestPair_54 ?_
        rw [nI_1]
        rw [if_neg (Int32.not_lt.mpr h32)] at out
        exact ih (b + 1) (by omega) s out
      · refine r_aloadn dX0_widestPair_35 rfl (by decide) ?_
        refine r_iloadn dX0_widestPair_36 rfl ?_
        refine r_iload dX0_widestPair_37 rfl ?_
        refine c_V2 (μz := mX0_width) dX0_widestPair_39 kl_RX0_36 mv_X0_width rfl (ok_X0_width (by omega) (by omega)) ?_
        refine r_istore2 dX0_widestPair_42 ?_
        refine r_iloadn dX0_widestPair_43 rfl ?_
        refine r_bp (8) dX0_widestPair_44 ?_
        refine r_imul dX0_widestPair_46 ?_
        refine r_iload dX0_widestPair_47 rfl ?_
        refine r_iadd dX0_widestPair_49 ?_
        refine r_istore1 dX0_widestPair_50 ?_
        refine r_iinc4 (1) dX0_widestPair_51 ?_
        refine r_goto 17 dX0_widestPair_54 ?_
        rw [nI_1]
        rw [if_pos (Int32.not_le.mp h32)] at out
        rw [k_ix]
        exact ih (b + 1) (by omega) (nI (8 * a + b), k_wid M a b) out
theorem lp_X0_widestPair {X : fp_X} {M : fp_M} : ∀ (n i : Nat), i + n = 8 → ∀ (s : Int32 × Int32) (w4 : Option Value), fp_W X mX0_widestPair 6 [some (.ref 34), some (.int s.1), some (.int s.2), some (.int (nI i)), w4] [] fp_sh M 0 0 (fun r sh m => r = some (.int (k_it (fun a s => k_it (k_wpj (k_wid M) a) (7 - a) (a + 1) s) n i s).1) ∧ sh = fp_sh ∧ m = M) := by
  intro n
  induction n with
  | zero =>
    intro i hi s  w4 
    have ti : (nI i).toInt = (i : Int) := nI_toInt (by omega)
    refine r_iloadn dX0_widestPair_6 rfl ?_
    refine r_bp (8) dX0_widestPair_7 ?_
    refine r_icmp_ge 63 dX0_widestPair_9 (fun h9 => ?_) (fun h9 => ?_)
    · refine r_iloadn dX0_widestPair_63 rfl ?_
      exact r_iret dX0_widestPair_64 ⟨rfl, rfl, rfl⟩
    · exfalso; simp only [Int32.le_iff_toInt_le, Int32.lt_iff_toInt_lt, Int32.reduceToInt] at h9; omega
  | succ n ih =>
    intro i hi s  w4 
    have ti : (nI i).toInt = (i : Int) := nI_toInt (by omega)
    refine r_iloadn dX0_widestPair_6 rfl ?_
    refine r_bp (8) dX0_widestPair_7 ?_
    refine r_icmp_ge 63 dX0_widestPair_9 (fun h9 => ?_) (fun h9 => ?_)
    · exfalso; simp only [Int32.le_iff_toInt_le, Int32.lt_iff_toInt_lt, Int32.reduceToInt] at h9; omega
    · refine r_iloadn dX0_widestPair_12 rfl ?_
      refine r_ic (1) dX0_widestPair_13 ?_
      refine r_iadd dX0_widestPair_14 ?_
      refine r_istore4 dX0_widestPair_15 ?_
      rw [nI_1]
      refine lp_X0_widestPair_in (by omega) (7 - i) (i + 1) (by omega) s ?_
      refine r_iinc3 (1) dX0_widestPair_57 ?_
      refine r_goto 6 dX0_widestPair_60 ?_
      rw [nI_1]
      exact ih (i + 1) (by omega) _ _

theorem ok_X0_widestPair {X : fp_X} {M : fp_M}  : fp_Ev X mX0_widestPair [.ref 34] fp_sh M (some (.int (k_wp (k_wid M)).1)) M := by
  refine fp_ok [some (.ref 34), none, none, none, none] ?_
  refine r_ic (1) dX0_widestPair_0 ?_
  refine r_istore1 dX0_widestPair_1 ?_
  refine r_ic (0) dX0_widestPair_2 ?_
  refine r_istore2 dX0_widestPair_3 ?_
  refine r_ic (0) dX0_widestPair_4 ?_
  refine r_istore3 dX0_widestPair_5 ?_
  exact lp_X0_widestPair 8 0 (by omega) (1, 0) none
