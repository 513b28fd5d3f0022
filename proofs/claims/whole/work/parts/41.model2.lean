/-! ===== the other one's sets and maps ===== -/
theorem k_bn_bit (p : Nat → Bool) : ∀ n i, (k_bn p n).testBit i = (decide (i < n) && p i)
  | 0, i => by simp [k_bn]
  | n + 1, i => by
    have hl := k_bn_lt p n
    have ih := k_bn_bit p n i
    show (k_bn p n + (if p n = true then 2 ^ n else 0)).testBit i = _
    by_cases hp : p n = true
    · rw [if_pos hp, Nat.add_comm]
      rcases Nat.lt_trichotomy i n with h | h | h
      · rw [Nat.testBit_two_pow_add_gt h, ih, decide_eq_true h, decide_eq_true (show i < n + 1 by omega)]
      · subst h
        rw [Nat.testBit_two_pow_add_eq, Nat.testBit_lt_two_pow hl, decide_eq_true (show i < i + 1 by omega), hp]
        rfl
      · have h2 : 2 ^ (n + 1) ≤ 2 ^ i := Nat.pow_le_pow_right (by decide) h
        rw [Nat.pow_succ] at h2
        rw [Nat.testBit_lt_two_pow (by omega), decide_eq_false (show ¬ i < n + 1 by omega)]
        rfl
    · have hq : p n = false := by simpa using hp
      rw [if_neg hp, Nat.add_zero, ih]
      by_cases h : i = n
      · subst h
        rw [hq, Bool.and_false, Bool.and_false]
      · by_cases h2 : i < n
        · rw [decide_eq_true h2, decide_eq_true (show i < n + 1 by omega)]
        · rw [decide_eq_false h2, decide_eq_false (show ¬ i < n + 1 by omega)]
theorem g_pow : ∀ c, c ≤ 8 → (1 : Int32) <<< (nI c &&& 31) - 1 = nI (2 ^ c - 1) := by decide +kernel
theorem g_bn_and {p q r : Nat → Bool} {c : Nat} (hc : c ≤ 8) (h : ∀ i, i < c → r i = (!p i && !q i)) : ((1 : Int32) <<< (nI c &&& 31) - 1) &&& (nI (k_bn p c) ^^^ -1) &&& (nI (k_bn q c) ^^^ -1) = nI (k_bn r c) := by
  rw [g_pow c hc]
  refine Int32.toBitVec_inj.mp (BitVec.eq_of_getLsbD_eq (fun i hi => ?_))
  have m1 : (-1 : Int32).toBitVec = BitVec.allOnes 32 := by decide
  simp only [Int32.toBitVec_and, Int32.toBitVec_xor, m1, nI, Int32.toBitVec_ofNat', BitVec.getLsbD_and, BitVec.getLsbD_xor, BitVec.getLsbD_allOnes, BitVec.getLsbD_ofNat, Nat.testBit_two_pow_sub_one, k_bn_bit, decide_eq_true hi, Bool.true_and]
  by_cases h2 : i < c
  · rw [h i h2]
    simp [h2]
  · simp [h2]
theorem g_w0 {N : fp_M} {j : Nat} {v : Int32} (hj : 0 < j) : fp_wr N 50 j v 50 0 = N 50 0 := fp_wr_ne2 (fun q => absurd q (Nat.ne_of_lt hj))
def g_recv (M : fp_M) (c : Nat) (v0 v1 v2 v3 v4 : Int32) : fp_M := fp_wr (fp_wr (fp_wr (fp_wr (fp_wr (fp_wr (fp_wr M 50 (5 + 6 * c) v0) 50 (5 + 6 * c + 1) v1) 50 (5 + 6 * c + 2) v2) 50 (5 + 6 * c + 3) v3) 50 (5 + 6 * c + 4) v4) 50 (5 + 6 * c + 5) 0) 50 0 (nI (c + 1))
def g_bind (M : fp_M) (a b : Nat) (v : Int32) : fp_M := fp_wr M 58 (8 * a + b) (if v < M 58 (8 * a + b) then v else M 58 (8 * a + b))
def g_many : Nat → Int32 → Int32 → Option Int32
  | 0, _, _ => none
  | n + 1, a, s => if a = 0 then some s else g_many n (a &&& (a - 1)) (s + 1)
theorem g_many_bc : ∀ a, a < 256 → g_many 9 (nI a) 0 = some (k_bc (nI a)) := by decide +kernel
def g_wid (M : fp_M) (a b : Nat) : Int32 := M 58 (8 * a + b) + M 58 (8 * b + a) + 1
def g_c1 (k : Nat) (M : fp_M) : fp_M := fp_wr M 58 k (if nI k / 8 = nI k - nI k / 8 * 8 then 0 else 999)
def g_dr (set : Int32) (l : Nat) (M : fp_M) : fp_M := if (set >>> (nI l &&& 31)) &&& 1 = 1 then g_bind (g_bind M (k_v (M 50 (5 + 6 * l + 1))) (k_v (M 50 (5 + 6 * l + 2))) (g_most M l)) (k_v (M 50 (5 + 6 * l + 2))) (k_v (M 50 (5 + 6 * l + 1))) (-(g_least M l)) else M
def g_lay (M : fp_M) (c : Nat) (set : Int32) : fp_M := k_it (g_dr set) c 0 (k_it g_c1 64 0 M)
def g_fw (b k : Nat) (M : fp_M) : fp_M := fp_wr M 58 k (if M 58 (8 * (k / 8) + b) + M 58 (8 * b + k % 8) < M 58 k then M 58 (8 * (k / 8) + b) + M 58 (8 * b + k % 8) else M 58 k)
def g_fol (M : fp_M) : fp_M := k_it (fun b M => k_it (g_fw b) 64 0 M) 8 0 M
def g_ok (M : fp_M) : Int32 := k_it (fun t s => s &&& bi (0 ≤ M 58 (8 * t + t))) 8 0 1
theorem g_ok_01 (M : fp_M) : ∀ n i (s : Int32), s = 0 ∨ s = 1 → k_it (fun t s => s &&& bi (0 ≤ M 58 (8 * t + t))) n i s = 0 ∨ k_it (fun t s => s &&& bi (0 ≤ M 58 (8 * t + t))) n i s = 1
  | 0, _, _, h => h
  | n + 1, i, s, h => by
    rw [k_it_s]
    refine g_ok_01 M n (i + 1) _ ?_
    by_cases hb : 0 ≤ M 58 (8 * i + i)
    · rw [bi_t hb]
      rcases h with rfl | rfl
      · exact Or.inl rfl
      · exact Or.inr rfl
    · rw [bi_f hb]
      rcases h with rfl | rfl
      · exact Or.inl rfl
      · exact Or.inl rfl
theorem g_f1 : ∀ k, k < 64 → ∀ b, b < 8 → (8 : Int32) * (nI k / 8) + nI b = nI (8 * (k / 8) + b) := by decide +kernel
theorem g_f2 : ∀ k, k < 64 → ∀ b, b < 8 → (8 : Int32) * nI b + (nI k - nI k / 8 * 8) = nI (8 * b + k % 8) := by decide +kernel
theorem g_wf.w58 {M : fp_M} {c k j : Nat} {v : Int32} (h : g_wf M c) (hk : ¬ k = 50) : g_wf (fp_wr M k j v) c := by
  have e : ∀ i, fp_wr M k j v 50 i = M 50 i := fun i => fp_wr_ne (fun q => hk q.symm)
  obtain ⟨h1, h2, h3⟩ := h
  refine ⟨h1, (e 0).trans h2, fun i hi => ?_⟩
  obtain ⟨f, t, a1, a2, a3, a4, a5⟩ := h3 i hi
  exact ⟨f, t, a1, a2, (e _).trans a3, (e _).trans a4, by rw [e]; exact a5⟩
theorem g_bind_50 {M : fp_M} {a b j : Nat} {v : Int32} : g_bind M a b v 50 j = M 50 j := fp_wr_ne (by decide)
theorem g_dr_wf {M : fp_M} {c l : Nat} {set : Int32} (h : g_wf M c) : g_wf (g_dr set l M) c := by
  unfold g_dr
  split
  · exact (h.w58 (by decide)).w58 (by decide)
  · exact h
theorem ok_X6_countIn {X : fp_X} {M : fp_M} {c : Nat} {n0 : Int32} (hw : g_wf M c): fp_Ev X mX6_countIn [.ref 49, .int n0] fp_sh M (some (.int (nI (g_con M (M 50 1 + n0) c)))) M := by
  have e := g_bn_and (p := fun i => decide (M 50 (5 + 6 * i + 5) = 1)) (q := fun i => decide ((M 50 1 + n0) < g_come M i)) (r := fun i => decide (M 50 (5 + 6 * i + 5) = 0 ∧ g_come M i ≤ (M 50 1 + n0))) hw.1 (fun i hi => by
    obtain ⟨f, t, _, _, _, _, h5⟩ := hw.2.2 i hi
    by_cases h6 : (M 50 1 + n0) < g_come M i
    · rw [decide_eq_true h6, decide_eq_false (fun q => absurd h6 (Int32.not_lt.mpr q.2))]
      simp
    · rcases h5 with h5 | h5
      · rw [decide_eq_false h6, decide_eq_true ⟨h5, Int32.not_lt.mp h6⟩, h5]
        rfl
      · rw [decide_eq_false h6, decide_eq_false (fun q => absurd (h5.symm.trans q.1) (by decide)), h5]
        rfl)
  rw [← hw.2.1] at e
  refine fp_ok [some (.ref 49), some (.int n0)] ?_
  refine r_ic (1) dX6_countIn_0 ?_
  refine r_aloadn dX6_countIn_1 rfl (by decide) ?_
  refine r_getfr dX6_countIn_2 kf_RX6_7 rfl rfl ?_
  refine r_ic (0) dX6_countIn_5 ?_
  refine r_ialdL dX6_countIn_6 rfl rfl (by decide) ?_
  refine r_ishl dX6_countIn_7 ?_
  refine r_ic (1) dX6_countIn_8 ?_
  refine r_isub dX6_countIn_9 ?_
  refine r_aloadn dX6_countIn_10 rfl (by decide) ?_
  refine c_V0 (μz := mX6_strucks) dX6_countIn_11 kl_RX6_61 mv_X6_strucks rfl (ok_X6_strucks hw) ?_
  refine r_ic (-1) dX6_countIn_14 ?_
  refine r_ixor dX6_countIn_15 ?_
  refine r_iand dX6_countIn_16 ?_
  refine r_aloadn dX6_countIn_17 rfl (by decide) ?_
  refine r_iloadn dX6_countIn_18 rfl ?_
  refine c_V1 (μz := mX6_laterThan) dX6_countIn_19 kl_RX6_65 mv_X6_laterThan rfl (ok_X6_laterThan hw) ?_
  refine r_ic (-1) dX6_countIn_22 ?_
  refine r_ixor dX6_countIn_23 ?_
  refine r_iand dX6_countIn_24 ?_
  exact r_iret dX6_countIn_25 ⟨congrArg (fun x => some (Value.int x)) e, rfl, rfl⟩
theorem ok_X6_comes {X : fp_X} {M : fp_M} {c : Nat} {v0 v1 v2 v3 v4 : Int32} (hc : M 50 0 = nI c) (hc8 : c < 8): fp_Ev X mX6_comes [.ref 49, .int v0, .int v1, .int v2, .int v3, .int v4] fp_sh M none (g_recv M c v0 v1 v2 v3 v4) := by
  refine fp_ok [some (.ref 49), some (.int v0), some (.int v1), some (.int v2), some (.int v3), some (.int v4), none] ?_
  refine r_ic (5) dX6_comes_0 ?_
  refine r_bp (6) dX6_comes_1 ?_
  refine r_aloadn dX6_comes_3 rfl (by decide) ?_
  refine r_getfr dX6_comes_4 kf_RX6_7 rfl rfl ?_
  refine r_ic (0) dX6_comes_7 ?_
  refine r_ialdL dX6_comes_8 rfl rfl (by decide) ?_
  refine r_imul dX6_comes_9 ?_
  refine r_iadd dX6_comes_10 ?_
  refine r_istore6 dX6_comes_11 ?_
  refine r_aloadn dX6_comes_13 rfl (by decide) ?_
  refine r_getfr dX6_comes_14 kf_RX6_7 rfl rfl ?_
  refine r_iload dX6_comes_17 rfl ?_
  refine r_iloadn dX6_comes_19 rfl ?_
  refine r_iastL (j := 5 + 6 * c) dX6_comes_20 rfl (by rw [hc]; exact g_i0 c hc8) ⟨by omega, by decide⟩ ?_
  refine r_aloadn dX6_comes_21 rfl (by decide) ?_
  refine r_getfr dX6_comes_22 kf_RX6_7 rfl rfl ?_
  refine r_iload dX6_comes_25 rfl ?_
  refine r_ic (1) dX6_comes_27 ?_
  refine r_iadd dX6_comes_28 ?_
  refine r_iloadn dX6_comes_29 rfl ?_
  refine r_iastL (j := 5 + 6 * c + 1) dX6_comes_30 rfl (by rw [hc]; exact g_i c hc8 1 (by decide)) ⟨by omega, by decide⟩ ?_
  refine r_aloadn dX6_comes_31 rfl (by decide) ?_
  refine r_getfr dX6_comes_32 kf_RX6_7 rfl rfl ?_
  refine r_iload dX6_comes_35 rfl ?_
  refine r_ic (2) dX6_comes_37 ?_
  refine r_iadd dX6_comes_38 ?_
  refine r_iloadn dX6_comes_39 rfl ?_
  refine r_iastL (j := 5 + 6 * c + 2) dX6_comes_40 rfl (by rw [hc]; exact g_i c hc8 2 (by decide)) ⟨by omega, by decide⟩ ?_
  refine r_aloadn dX6_comes_41 rfl (by decide) ?_
  refine r_getfr dX6_comes_42 kf_RX6_7 rfl rfl ?_
  refine r_iload dX6_comes_45 rfl ?_
  refine r_ic (3) dX6_comes_47 ?_
  refine r_iadd dX6_comes_48 ?_
  refine r_iload dX6_comes_49 rfl ?_
  refine r_iastL (j := 5 + 6 * c + 3) dX6_comes_51 rfl (by rw [hc]; exact g_i c hc8 3 (by decide)) ⟨by omega, by decide⟩ ?_
  refine r_aloadn dX6_comes_52 rfl (by decide) ?_
  refine r_getfr dX6_comes_53 kf_RX6_7 rfl rfl ?_
  refine r_iload dX6_comes_56 rfl ?_
  refine r_ic (4) dX6_comes_58 ?_
  refine r_iadd dX6_comes_59 ?_
  refine r_iload dX6_comes_60 rfl ?_
  refine r_iastL (j := 5 + 6 * c + 4) dX6_comes_62 rfl (by rw [hc]; exact g_i c hc8 4 (by decide)) ⟨by omega, by decide⟩ ?_
  refine r_aloadn dX6_comes_63 rfl (by decide) ?_
  refine r_getfr dX6_comes_64 kf_RX6_7 rfl rfl ?_
  refine r_iload dX6_comes_67 rfl ?_
  refine r_ic (5) dX6_comes_69 ?_
  refine r_iadd dX6_comes_70 ?_
  refine r_ic (0) dX6_comes_71 ?_
  refine r_iastL (j := 5 + 6 * c + 5) dX6_comes_72 rfl (by rw [hc]; exact g_i c hc8 5 (by decide)) ⟨by omega, by decide⟩ ?_
  refine r_aloadn dX6_comes_73 rfl (by decide) ?_
  refine r_getfr dX6_comes_74 kf_RX6_7 rfl rfl ?_
  refine r_ic (0) dX6_comes_77 ?_
  refine r_dup2 dX6_comes_78 ?_
  refine r_ialdL dX6_comes_79 rfl rfl (by decide) ?_
  refine r_ic (1) dX6_comes_80 ?_
  refine r_iadd dX6_comes_81 ?_
  refine r_iastL dX6_comes_82 rfl rfl (by decide) ?_
  exact r_vret dX6_comes_83 ⟨rfl, rfl, by unfold g_recv; rw [g_w0 (j := 5 + 6 * c + 5) (by omega), g_w0 (j := 5 + 6 * c + 4) (by omega), g_w0 (j := 5 + 6 * c + 3) (by omega), g_w0 (j := 5 + 6 * c + 2) (by omega), g_w0 (j := 5 + 6 * c + 1) (by omega), g_w0 (j := 5 + 6 * c) (by omega), hc, nI_1]⟩
theorem ok_X6_binds {X : fp_X} {M : fp_M} {x y v : Int32} {a b : Nat} (ha : x = nI a) (hb : y = nI b) (ha8 : a < 8) (hb8 : b < 8): fp_Ev X mX6_binds [.ref 49, .int x, .int y, .int v] fp_sh M none (g_bind M a b v) := by
  refine fp_ok [some (.ref 49), some (.int x), some (.int y), some (.int v)] ?_
  refine r_aloadn dX6_binds_0 rfl (by decide) ?_
  refine r_getfr dX6_binds_1 kf_RX6_34 rfl rfl ?_
  refine r_bp (8) dX6_binds_4 ?_
  refine r_iloadn dX6_binds_6 rfl ?_
  refine r_imul dX6_binds_7 ?_
  refine r_iloadn dX6_binds_8 rfl ?_
  refine r_iadd dX6_binds_9 ?_
  refine r_iloadn dX6_binds_10 rfl ?_
  refine r_aloadn dX6_binds_11 rfl (by decide) ?_
  refine r_getfr dX6_binds_12 kf_RX6_34 rfl rfl ?_
  refine r_bp (8) dX6_binds_15 ?_
  refine r_iloadn dX6_binds_17 rfl ?_
  refine r_imul dX6_binds_18 ?_
  refine r_iloadn dX6_binds_19 rfl ?_
  refine r_iadd dX6_binds_20 ?_
  refine r_ialdL (j := 8 * a + b) dX6_binds_21 rfl (by rw [ha, hb]; exact g_8 a ha8 b hb8) ⟨by omega, by decide⟩ ?_
  refine r_icmp_ge 29 dX6_binds_22 (fun h22 => ?_) (fun h22 => ?_)
  · refine r_aloadn dX6_binds_29 rfl (by decide) ?_
    refine r_getfr dX6_binds_30 kf_RX6_34 rfl rfl ?_
    refine r_bp (8) dX6_binds_33 ?_
    refine r_iloadn dX6_binds_35 rfl ?_
    refine r_imul dX6_binds_36 ?_
    refine r_iloadn dX6_binds_37 rfl ?_
    refine r_iadd dX6_binds_38 ?_
    refine r_ialdL (j := 8 * a + b) dX6_binds_39 rfl (by rw [ha, hb]; exact g_8 a ha8 b hb8) ⟨by omega, by decide⟩ ?_
    refine r_iastL (j := 8 * a + b) dX6_binds_40 rfl (by rw [ha, hb]; exact g_8 a ha8 b hb8) ⟨by omega, by decide⟩ ?_
    exact r_vret dX6_binds_41 ⟨rfl, rfl, by unfold g_bind; rw [if_neg (Int32.not_lt.mpr h22)]⟩
  · refine r_iloadn dX6_binds_25 rfl ?_
    refine r_goto 40 dX6_binds_26 ?_
    refine r_iastL (j := 8 * a + b) dX6_binds_40 rfl (by rw [ha, hb]; exact g_8 a ha8 b hb8) ⟨by omega, by decide⟩ ?_
    exact r_vret dX6_binds_41 ⟨rfl, rfl, by unfold g_bind; rw [if_pos (Int32.not_le.mp h22)]⟩
theorem lp_X6_many {X : fp_X} {M : fp_M} {a : Int32} : ∀ (f : Nat) (l s v : Int32), g_many f l s = some v → fp_W X mX6_many 4 [some (.int a), some (.int s), some (.int l)] [] fp_sh M 0 0 (fun r s m => r = some (.int v) ∧ s = fp_sh ∧ m = M) := by
  intro f
  induction f with
  | zero =>
    intro l s v h
    exact absurd h (by simp [g_many])
  | succ f ih =>
    intro l s v h
    have h2 : (if l = 0 then some s else g_many f (l &&& (l - 1)) (s + 1)) = some v := h
    refine r_iloadn dX6_many_4 rfl ?_
    refine r_if_eq 20 dX6_many_5 (fun h5 => ?_) (fun h5 => ?_)
    · refine r_iloadn dX6_many_20 rfl ?_
      exact r_iret dX6_many_21 ⟨by rw [if_pos h5] at h2; exact congrArg (Option.map Value.int) h2, rfl, rfl⟩
    · refine r_iinc1 (1) dX6_many_8 ?_
      refine r_iloadn dX6_many_11 rfl ?_
      refine r_iloadn dX6_many_12 rfl ?_
      refine r_ic (1) dX6_many_13 ?_
      refine r_isub dX6_many_14 ?_
      refine r_iand dX6_many_15 ?_
      refine r_istore2 dX6_many_16 ?_
      refine r_goto 4 dX6_many_17 ?_
      rw [if_neg h5] at h2
      exact ih _ _ _ h2
theorem ok_X6_many {X : fp_X} {M : fp_M} {a : Nat} (ha : a < 256): fp_Ev X mX6_many [.int (nI a)] fp_sh M (some (.int (k_bc (nI a)))) M := by
  refine fp_ok [some (.int (nI a)), none, none] ?_
  refine r_ic (0) dX6_many_0 ?_
  refine r_istore1 dX6_many_1 ?_
  refine r_iloadn dX6_many_2 rfl ?_
  refine r_istore2 dX6_many_3 ?_
  exact lp_X6_many 9 _ _ _ (g_many_bc a ha)
theorem ok_X6_spanOf {X : fp_X} {M : fp_M} {x y : Int32} {a b : Nat} (ha : x = nI a) (hb : y = nI b) (ha8 : a < 8) (hb8 : b < 8): fp_Ev X mX6_spanOf [.ref 49, .int x, .int y] fp_sh M (some (.int (g_wid M a b))) M := by
  refine fp_ok [some (.ref 49), some (.int x), some (.int y)] ?_
  refine r_aloadn dX6_spanOf_0 rfl (by decide) ?_
  refine r_getfr dX6_spanOf_1 kf_RX6_34 rfl rfl ?_
  refine r_bp (8) dX6_spanOf_4 ?_
  refine r_iloadn dX6_spanOf_6 rfl ?_
  refine r_imul dX6_spanOf_7 ?_
  refine r_iloadn dX6_spanOf_8 rfl ?_
  refine r_iadd dX6_spanOf_9 ?_
  refine r_ialdL (j := 8 * a + b) dX6_spanOf_10 rfl (by rw [ha, hb]; exact g_8 a ha8 b hb8) ⟨by omega, by decide⟩ ?_
  refine r_aloadn dX6_spanOf_11 rfl (by decide) ?_
  refine r_getfr dX6_spanOf_12 kf_RX6_34 rfl rfl ?_
  refine r_bp (8) dX6_spanOf_15 ?_
  refine r_iloadn dX6_spanOf_17 rfl ?_
  refine r_imul dX6_spanOf_18 ?_
  refine r_iloadn dX6_spanOf_19 rfl ?_
  refine r_iadd dX6_spanOf_20 ?_
  refine r_ialdL (j := 8 * b + a) dX6_spanOf_21 rfl (by rw [ha, hb]; exact g_8 b hb8 a ha8) ⟨by omega, by decide⟩ ?_
  refine r_iadd dX6_spanOf_22 ?_
  refine r_ic (1) dX6_spanOf_23 ?_
  refine r_iadd dX6_spanOf_24 ?_
  exact r_iret dX6_spanOf_25 ⟨rfl, rfl, rfl⟩
theorem lp_X6_spans_in {X : fp_X} {M : fp_M} {a : Nat} {Post : fp_Q} (ha : a < 8) : ∀ (n b : Nat), b + n = 8 → ∀ (s : Int32), fp_W X mX6_spans 35 [some (.ref 49), some (.int (k_it (fun b s => s + g_wid M a b) n b s)), some (.int (nI a)), some (.int (nI 8))] [] fp_sh M 0 0 Post → fp_W X mX6_spans 14 [some (.ref 49), some (.int s), some (.int (nI a)), some (.int (nI b))] [] fp_sh M 0 0 Post := by
  intro n
  induction n with
  | zero =>
    intro b hb s out
    have tb : (nI b).toInt = (b : Int) := nI_toInt (by omega)
    refine r_iloadn dX6_spans_14 rfl ?_
    refine r_bp (8) dX6_spans_15 ?_
    refine r_icmp_ge 35 dX6_spans_17 (fun h17 => ?_) (fun h17 => ?_)
    · rw [show b = 8 by omega]
      exact out
    · exfalso; simp only [Int32.le_iff_toInt_le, Int32.lt_iff_toInt_lt, Int32.reduceToInt] at h17; omega
  | succ n ih =>
    intro b hb s out
    have tb : (nI b).toInt = (b : Int) := nI_toInt (by omega)
    refine r_iloadn dX6_spans_14 rfl ?_
    refine r_bp (8) dX6_spans_15 ?_
    refine r_icmp_ge 35 dX6_spans_17 (fun h17 => ?_) (fun h17 => ?_)
    · exfalso; simp only [Int32.le_iff_toInt_le, Int32.lt_iff_toInt_lt, Int32.reduceToInt] at h17; omega
    · refine r_iloadn dX6_spans_20 rfl ?_
      refine r_aloadn dX6_spans_21 rfl (by decide) ?_
      refine r_iloadn dX6_spans_22 rfl ?_
      refine r_iloadn dX6_spans_23 rfl ?_
      refine c_V2 (μz := mX6_spanOf) dX6_spans_24 kl_RX6_125 mv_X6_spanOf rfl (ok_X6_spanOf (a := a) (b := b) rfl rfl (by omega) (by omega)) ?_
      refine r_iadd dX6_spans_27 ?_
      refine r_istore1 dX6_spans_28 ?_
      refine r_iinc3 (1) dX6_spans_29 ?_
      refine r_goto 14 dX6_spans_32 ?_
      rw [nI_1]
      exact ih (b + 1) (by omega) _ out
theorem lp_X6_spans {X : fp_X} {M : fp_M} : ∀ (n i : Nat), i + n = 8 → ∀ (s : Int32) (w3 : Option Value), fp_W X mX6_spans 4 [some (.ref 49), some (.int s), some (.int (nI i)), w3] [] fp_sh M 0 0 (fun r sh m => r = some (.int (k_it (fun a s => k_it (fun b s => s + g_wid M a b) (7 - a) (a + 1) s) n i s)) ∧ sh = fp_sh ∧ m = M) := by
  intro n
  induction n with
  | zero =>
    intro i hi s  w3 
    have ti : (nI i).toInt = (i : Int) := nI_toInt (by omega)
    refine r_iloadn dX6_spans_4 rfl ?_
    refine r_bp (8) dX6_spans_5 ?_
    refine r_icmp_ge 41 dX6_spans_7 (fun h7 => ?_) (fun h7 => ?_)
    · refine r_iloadn dX6_spans_41 rfl ?_
      exact r_iret dX6_spans_42 ⟨rfl, rfl, rfl⟩
    · exfalso; simp only [Int32.le_iff_toInt_le, Int32.lt_iff_toInt_lt, Int32.reduceToInt] at h7; omega
  | succ n ih =>
    intro i hi s  w3 
    have ti : (nI i).toInt = (i : Int) := nI_toInt (by omega)
    refine r_iloadn dX6_spans_4 rfl ?_
    refine r_bp (8) dX6_spans_5 ?_
    refine r_icmp_ge 41 dX6_spans_7 (fun h7 => ?_) (fun h7 => ?_)
    · exfalso; simp only [Int32.le_iff_toInt_le, Int32.lt_iff_toInt_lt, Int32.reduceToInt] at h7; omega
    · refine r_iloadn dX6_spans_10 rfl ?_
      refine r_ic (1) dX6_spans_11 ?_
      refine r_iadd dX6_spans_12 ?_
      refine r_istore3 dX6_spans_13 ?_
      rw [nI_1]
      refine lp_X6_spans_in (by omega) (7 - i) (i + 1) (by omega) s ?_
      refine r_iinc2 (1) dX6_spans_35 ?_
      refine r_goto 4 dX6_spans_38 ?_
      rw [nI_1]
      exact ih (i + 1) (by omega) _ _

theorem ok_X6_spans {X : fp_X} {M : fp_M}  : fp_Ev X mX6_spans [.ref 49] fp_sh M (some (.int (k_allw (g_wid M)))) M := by
  refine fp_ok [some (.ref 49), none, none, none] ?_
  refine r_ic (0) dX6_spans_0 ?_
  refine r_istore1 dX6_spans_1 ?_
  refine r_ic (0) dX6_spans_2 ?_
  refine r_istore2 dX6_spans_3 ?_
  exact lp_X6_spans 8 0 (by omega) 0 none
