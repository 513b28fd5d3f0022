/-! ===== calls told alike 7: the readers ===== -/
theorem w_O.cg' {A A' B B' : fp_M} {o r c : Nat} (h : w_O A B o r c) (ha : ∀ k j, o ≤ k → k < o + 11 → A' k j = A k j) (hb : ∀ j, j < 63 → B' r j = B r j) : w_O A' B' o r c := by
  obtain ⟨h1, h2, h3, h4, h5, h6, h7, h8, h9⟩ := h
  refine ⟨h1, (ha _ _ (by omega) (by omega)).trans h2, (hb _ (by omega)).trans h3, ?_, ?_, ?_, ?_, fun i hi f hf => ?_, fun k hk => ?_⟩
  · rw [ha _ _ (by omega) (by omega), hb _ (by omega)]; exact h4
  · rw [ha _ _ (by omega) (by omega), hb _ (by omega)]; exact h5
  · rw [ha _ _ (by omega) (by omega), hb _ (by omega)]; exact h6
  · rw [ha _ _ (by omega) (by omega), hb _ (by omega)]; exact h7
  · rw [ha _ _ (by omega) (by omega), hb _ (by omega)]; exact h8 i hi f hf
  · rw [ha _ _ (by omega) (by omega), hb _ (by omega)]; exact h9 k hk
/-- both tapes -/
def y_B (K G : fp_M) (z : Nat) : Prop := z ≤ 120 ∧ K 37 0 = nI z ∧ G 49 6 = nI z ∧ ∀ i, i < z → K 38 i = G 54 i ∧ 0 ≤ G 54 i
/-- both readers stand at one token, from place p on -/
def y_T (K G : fp_M) (z p0 : Nat) : Prop := y_B K G z ∧ ∃ p b : Nat, p0 ≤ p ∧ p ≤ b ∧ b ≤ z ∧ K 37 3 = nI p ∧ G 49 13 = nI p ∧ K 37 4 = nI b ∧ G 49 14 = nI b ∧ G 49 12 = g_sw (K 37 2) ∧ (¬ K 37 2 = 0 → p < b) ∧ (K 37 2 = 2 → b = t_te (K 38) 2 (z - p) p ∧ G 49 15 = g_val (G 54) (z - p) p 0)
theorem t_sp_cg {B C : Nat → Int32} : ∀ n i, (∀ j, i ≤ j → j < i + n → B j = C j) → t_sp B n i = t_sp C n i
  | 0, _, _ => rfl
  | n + 1, i, h => by
    unfold t_sp
    rw [h i (Nat.le_refl i) (by omega), t_sp_cg n (i + 1) (fun j a b => h j (by omega) (by omega))]
theorem t_te_cg {B C : Nat → Int32} {t : Int32} : ∀ n i, (∀ j, i ≤ j → j < i + n → B j = C j) → t_te B t n i = t_te C t n i
  | 0, _, _ => rfl
  | n + 1, i, h => by
    unfold t_te
    rw [h i (Nat.le_refl i) (by omega), t_te_cg n (i + 1) (fun j a b => h j (by omega) (by omega))]
theorem t_nx_cg {B C : Nat → Int32} {z b : Nat} (h : ∀ j, j < z → B j = C j) (hb : b ≤ z) : t_nx B z b = t_nx C z b := by
  have e1 := t_sp_cg (B := B) (C := C) (z - b) b (fun j _ q => h j (by omega))
  unfold t_nx
  rw [e1]
  by_cases q : t_sp C (z - b) b < z
  · rw [if_pos q, if_pos q, h _ q, t_te_cg (z - (t_sp C (z - b) b + 1)) (t_sp C (z - b) b + 1) (fun j _ w => h j (by omega))]
  · rw [if_neg q, if_neg q]
theorem g_sw_1 {t : Int32} : g_sw t = 1 ↔ t = 1 := by
  unfold g_sw
  split
  · rename_i q; rw [q]; decide
  · split
    · rename_i q; rw [q]; decide
    · exact Iff.rfl
theorem g_sw_2 {t : Int32} : g_sw t = 2 ↔ t = 2 := by
  unfold g_sw
  split
  · rename_i q; rw [q]; decide
  · split
    · rename_i q; rw [q]; decide
    · exact Iff.rfl
theorem g_sw_3 {t : Int32} : g_sw t = 3 ↔ t = 3 := by
  unfold g_sw
  split
  · rename_i q; rw [q]; decide
  · split
    · rename_i q; rw [q]; decide
    · exact Iff.rfl
theorem g_sw_0 {t : Int32} : g_sw t = 0 ↔ t = 0 := by
  unfold g_sw
  split
  · rename_i q; rw [q]; decide
  · split
    · rename_i q; rw [q]; decide
    · exact Iff.rfl
theorem g_sw_5 {t : Int32} : g_sw t = 5 ↔ t = 4 := by
  unfold g_sw
  split
  · rename_i q; rw [q]; decide
  · split
    · rename_i q; rw [q]; decide
    · rename_i q r
      exact ⟨fun z => absurd z r, fun z => absurd z q⟩
/-- the next token on both sides -/
theorem y_step0 {K G : fp_M} {z b : Nat} (h : y_B K G z) (hk : K 37 4 = nI b) (hg : G 49 14 = nI b) (hb : b ≤ z) : y_T (k_step K) (g_nx G) z b := by
  obtain ⟨h1, h2, h3, h4⟩ := h
  have kz : k_v (K 37 0) = z := by rw [h2]; exact nI_clamp (by omega)
  have kb : k_v (K 37 4) = b := by rw [hk]; exact nI_clamp (by omega)
  have gz : k_v (G 49 6) = z := by rw [h3]; exact nI_clamp (by omega)
  have gb : k_v (G 49 14) = b := by rw [hg]; exact nI_clamp (by omega)
  have e := t_nx_cg (B := K 38) (C := G 54) (fun j hj => (h4 j hj).1) hb
  have hl := t_nx_le (K 38) hb
  have r := k_tk_r (M := K) (t := (t_nx (K 38) z b).1) (p := nI (t_nx (K 38) z b).2.1) (b := nI (t_nx (K 38) z b).2.2)
  have s2 : k_step K 37 2 = (t_nx (K 38) z b).1 := by unfold k_step; rw [kz, kb]; exact r.1
  have s3 : k_step K 37 3 = nI (t_nx (K 38) z b).2.1 := by unfold k_step; rw [kz, kb]; exact r.2.1
  have s4 : k_step K 37 4 = nI (t_nx (K 38) z b).2.2 := by unfold k_step; rw [kz, kb]; exact r.2.2.1
  have s0 : k_step K 37 0 = nI z := by unfold k_step; rw [kz, kb]; exact r.2.2.2.trans h2
  have g2 : g_nx G 49 12 = g_sw (t_nx (K 38) z b).1 := by unfold g_nx; rw [g_tk_12, gz, gb, e]
  have g3 : g_nx G 49 13 = nI (t_nx (K 38) z b).2.1 := by unfold g_nx; rw [g_tk_13, gz, gb, e]
  have g4 : g_nx G 49 14 = nI (t_nx (K 38) z b).2.2 := by unfold g_nx; rw [g_tk_14, gz, gb, e]
  have g5 : (t_nx (K 38) z b).1 = 2 → g_nx G 49 15 = g_val (G 54) (z - (t_nx (K 38) z b).2.1) (t_nx (K 38) z b).2.1 0 := fun q => by
    unfold g_nx
    rw [g_tk_15, gz, gb, ← e, if_pos q]
  have g6 : g_nx G 49 6 = nI z := (g_nx_oj (by decide)).trans h3
  have k38 : k_step K 38 = K 38 := funext fun i => k_step_o (by decide)
  have g54 : g_nx G 54 = G 54 := funext fun i => g_nx_o (by decide)
  refine ⟨⟨h1, s0, g6, by rw [k38, g54]; exact h4⟩, (t_nx (K 38) z b).2.1, (t_nx (K 38) z b).2.2, hl.1, hl.2.1, hl.2.2.1, s3, g3, s4, g4, by rw [g2, s2], by rw [s2]; exact hl.2.2.2, fun q => ?_⟩
  rw [s2] at q
  rw [k38, g54]
  refine ⟨?_, g5 q⟩
  have q' := q
  unfold t_nx at q' ⊢
  by_cases w : t_sp (K 38) (z - b) b < z
  · rw [if_pos w] at q' ⊢
    have c2 : t_cls (K 38 (t_sp (K 38) (z - b) b)) = 2 := q'
    show (if t_cls (K 38 (t_sp (K 38) (z - b) b)) = 1 ∨ t_cls (K 38 (t_sp (K 38) (z - b) b)) = 2 then t_te (K 38) (t_cls (K 38 (t_sp (K 38) (z - b) b))) (z - (t_sp (K 38) (z - b) b + 1)) (t_sp (K 38) (z - b) b + 1) else t_sp (K 38) (z - b) b + 1) = _
    rw [if_pos (Or.inr c2), c2, t_te_s w c2]
  · rw [if_neg w] at q'
    exact absurd (show (0 : Int32) = 2 from q') (by decide)
theorem y_T.nx {K G : fp_M} {z p0 : Nat} (h : y_T K G z p0) : y_T (k_step K) (g_nx G) z p0 := by
  obtain ⟨hB, p, b, a0, a1, a2, a3, a4, a5, a6, -⟩ := h
  obtain ⟨r1, p', b', r2, r3⟩ := y_step0 hB a5 a6 a2
  exact ⟨r1, p', b', by omega, r3⟩
theorem y_T.cg {K K' G G' : fp_M} {z p0 : Nat} (h : y_T K G z p0) (hk : ∀ k j, (k = 37 ∨ k = 38) → K' k j = K k j) (hg : ∀ k j, ((k = 49 ∧ (j = 6 ∨ (12 ≤ j ∧ j ≤ 15))) ∨ k = 54) → G' k j = G k j) : y_T K' G' z p0 := by
  obtain ⟨⟨b1, b2, b3, b4⟩, p, b, a0, a1, a2, a3, a4, a5, a6, a7, a8, a9⟩ := h
  have k38 : K' 38 = K 38 := funext fun i => hk 38 i (Or.inr rfl)
  have g54 : G' 54 = G 54 := funext fun i => hg 54 i (Or.inr rfl)
  refine ⟨⟨b1, (hk 37 0 (Or.inl rfl)).trans b2, (hg 49 6 (by omega)).trans b3, by rw [k38, g54]; exact b4⟩, p, b, a0, a1, a2, (hk 37 3 (Or.inl rfl)).trans a3, (hg 49 13 (by omega)).trans a4, (hk 37 4 (Or.inl rfl)).trans a5, (hg 49 14 (by omega)).trans a6, ?_, ?_, ?_⟩
  · rw [hg 49 12 (by omega), hk 37 2 (Or.inl rfl)]; exact a7
  · rw [hk 37 2 (Or.inl rfl)]; exact a8
  · rw [hk 37 2 (Or.inl rfl), k38, g54, hg 49 15 (by omega)]; exact a9
/-- one word on both sides -/
theorem y_T.word {K G : fp_M} {z p0 : Nat} (h : y_T K G z p0) {i : Nat} (hi : i < 12) : k_word K i ↔ g_word G i := by
  obtain ⟨⟨b1, b2, b3, b4⟩, p, b, a0, a1, a2, a3, a4, a5, a6, a7, -⟩ := h
  have kp : k_v (K 37 3) = p := by rw [a3]; exact nI_clamp (by omega)
  have gp : k_v (G 49 13) = p := by rw [a4]; exact nI_clamp (by omega)
  have h6 := k_sl6 i hi
  show (K 37 2 = 1 ∧ K 37 4 - K 37 3 = nI (fp_sl.getD i 0) ∧ ∀ j, j < fp_sl.getD i 0 → (fp_sb.getD i []).getD j 0 = K 38 (k_v (K 37 3) + j)) ↔ (G 49 12 = 1 ∧ G 49 14 - G 49 13 = nI (fp_sl.getD i 0) ∧ ∀ j, j < fp_sl.getD i 0 → (fp_sb.getD i []).getD j 0 = G 54 (k_v (G 49 13) + j))
  rw [kp, gp, a3, a4, a5, a6, a7, g_sw_1]
  refine and_congr_right fun _ => and_congr_right fun e => ?_
  rw [pk_sub a1] at e
  have e' := (nI_eq (by omega) (by omega)).mp e
  constructor
  · intro w j hj
    rw [w j hj]; exact (b4 (p + j) (by omega)).1
  · intro w j hj
    rw [w j hj]; exact (b4 (p + j) (by omega)).1.symm
/-- numbers told: digit by digit -/
theorem y_dig {b : Int32} (h : t_cls b = 2) : ∃ d : Nat, d ≤ 9 ∧ b.toInt = 48 + d := by
  have q := t_c2.mp h
  have h1 := Int32.le_iff_toInt_le.mp q.1
  have h2 := Int32.le_iff_toInt_le.mp q.2
  rw [show (48 : Int32).toInt = 48 from by decide] at h1
  rw [show (57 : Int32).toInt = 57 from by decide] at h2
  exact ⟨(b.toInt - 48).toNat, by omega, by omega⟩
theorem y_next {v b : Int32} {d : Nat} (hd : d ≤ 9) (hb : b.toInt = 48 + d) (h0 : 0 ≤ v.toInt) (h1 : v.toInt ≤ 999) : (10 * v + b - 48).toInt = 10 * v.toInt + d ∧ (v * 10 + b - 48).toInt = 10 * v.toInt + d := by
  have e10 : (10 : Int32).toInt = 10 := by decide
  have m1 : (10 * v).toInt = 10 * v.toInt := by
    rw [Int32.toInt_mul, e10]
    exact Int.bmod_eq_of_le (by omega) (by omega)
  have m2 : (v * 10).toInt = 10 * v.toInt := by
    rw [Int32.toInt_mul, e10]
    rw [Int.mul_comm v.toInt 10]
    exact Int.bmod_eq_of_le (by omega) (by omega)
  have a1 : (10 * v + b).toInt = 10 * v.toInt + (48 + d) := q_add m1 hb (by omega)
  have a2 : (v * 10 + b).toInt = 10 * v.toInt + (48 + d) := q_add m2 hb (by omega)
  have e48 : (48 : Int32).toInt = 48 := by decide
  have s1 := q_sub a1 e48 (by omega)
  have s2 := q_sub a2 e48 (by omega)
  constructor
  · rw [s1]; omega
  · rw [s2]; omega
theorem y_big {C : Nat → Int32} : ∀ n i (v : Int32), 0 ≤ v.toInt → v.toInt ≤ 9999 → v.toInt ≤ (g_val C n i v).toInt ∧ (g_val C n i v).toInt ≤ 9999 := by
  intro n
  induction n with
  | zero => intro i v h0 h1; exact ⟨Int.le_refl _, h1⟩
  | succ n ih =>
    intro i v h0 h1
    unfold g_val
    by_cases q : t_cls (C i) = 2
    · rw [if_pos q]
      by_cases w : 999 < v
      · rw [if_pos w]; exact ih (i + 1) v h0 h1
      · rw [if_neg w]
        obtain ⟨d, d9, hd⟩ := y_dig q
        have w' : ¬ (999 : Int32).toInt < v.toInt := fun z => w (Int32.lt_iff_toInt_lt.mpr z)
        rw [show (999 : Int32).toInt = 999 from by decide] at w'
        obtain ⟨e, -⟩ := y_next d9 hd h0 (by omega)
        obtain ⟨r1, r2⟩ := ih (i + 1) (10 * v + C i - 48) (by rw [e]; omega) (by rw [e]; omega)
        rw [e] at r1
        exact ⟨by omega, r2⟩
    · rw [if_neg q]
      exact ⟨Int.le_refl _, h1⟩
theorem y_numl {B C : Nat → Int32} {most : Int32} (hm0 : 0 ≤ most.toInt) (hm : most.toInt ≤ 999) : ∀ n i (v : Int32), (∀ j, i ≤ j → j < i + n → B j = C j) → 0 ≤ v.toInt → v.toInt ≤ most.toInt → k_numl B most (t_te B 2 n i - i) i v = if g_val C n i v ≤ most then g_val C n i v else -1 := by
  intro n
  induction n with
  | zero =>
    intro i v _ h0 h1
    show k_numl B most (i - i) i v = if v ≤ most then v else -1
    rw [Nat.sub_self, if_pos (Int32.le_iff_toInt_le.mpr h1)]
    rfl
  | succ n ih =>
    intro i v hBC h0 h1
    have ec := hBC i (Nat.le_refl i) (by omega)
    unfold t_te g_val
    rw [ec]
    by_cases q : t_cls (C i) = 2
    · have tl := t_te_le B 2 n (i + 1)
      rw [if_pos q, if_pos q, show t_te B 2 n (i + 1) - i = (t_te B 2 n (i + 1) - (i + 1)) + 1 by omega]
      obtain ⟨d, d9, hd⟩ := y_dig q
      obtain ⟨e1, e2⟩ := y_next d9 hd h0 (by omega)
      have w : ¬ 999 < v := fun z => by
        have := Int32.lt_iff_toInt_lt.mp z
        rw [show (999 : Int32).toInt = 999 from by decide] at this
        omega
      have ev : v * 10 + C i - 48 = 10 * v + C i - 48 := Int32.toInt_inj.mp (e2.trans e1.symm)
      rw [if_neg w]
      show (if v * 10 + B i - 48 ≤ most then k_numl B most (t_te B 2 n (i + 1) - (i + 1)) (i + 1) (v * 10 + B i - 48) else -1) = _
      rw [ec, ev]
      by_cases l : 10 * v + C i - 48 ≤ most
      · have l' := Int32.le_iff_toInt_le.mp l
        rw [if_pos l]
        exact ih (i + 1) _ (fun j a b => hBC j (by omega) (by omega)) (by rw [e1]; omega) l'
      · have l' : ¬ (10 * v + C i - 48).toInt ≤ most.toInt := fun z => l (Int32.le_iff_toInt_le.mpr z)
        have hb := y_big (C := C) n (i + 1) (10 * v + C i - 48) (by rw [e1]; omega) (by rw [e1]; omega)
        rw [if_neg l, if_neg (fun z => by
          have := Int32.le_iff_toInt_le.mp z
          omega)]
    · rw [if_neg q, if_neg q, Nat.sub_self, if_pos (Int32.le_iff_toInt_le.mpr h1)]
      rfl
/-- a number told on both sides, or told as none -/
theorem y_T.num {K G : fp_M} {z p0 : Nat} (h : y_T K G z p0) {most : Int32} (hm0 : 0 ≤ most.toInt) (hm : most.toInt ≤ 999) : (k_num K most = -1 ∧ ¬ g_num G 0 most) ∨ (∃ n : Nat, (n : Int) ≤ most.toInt ∧ k_num K most = nI n ∧ g_num G 0 most ∧ G 49 15 = nI n) := by
  obtain ⟨⟨b1, b2, b3, b4⟩, p, b, a0, a1, a2, a3, a4, a5, a6, a7, a8, a9⟩ := h
  have kp : k_v (K 37 3) = p := by rw [a3]; exact nI_clamp (by omega)
  have kb : k_v (K 37 4) = b := by rw [a5]; exact nI_clamp (by omega)
  unfold k_num
  by_cases q : K 37 2 = 2
  · rw [if_pos q, kp, kb]
    obtain ⟨c1, c2⟩ := a9 q
    have e := y_numl (B := K 38) (C := G 54) hm0 hm (z - p) p 0 (fun j _ w => (b4 j (by omega)).1) (by decide) hm0
    rw [← c1, ← c2] at e
    rw [e]
    have hv := y_big (C := G 54) (z - p) p 0 (by decide) (by decide)
    rw [← c2, show (0 : Int32).toInt = 0 from by decide] at hv
    have t2 : G 49 12 = 2 := by rw [a7]; exact g_sw_2.mpr q
    by_cases l : G 49 15 ≤ most
    · rw [if_pos l]
      have l' := Int32.le_iff_toInt_le.mp l
      have en : G 49 15 = nI (G 49 15).toInt.toNat := Int32.toInt_inj.mp (by rw [nI_toInt (by omega)]; omega)
      exact Or.inr ⟨(G 49 15).toInt.toNat, by omega, en, ⟨t2, by rw [Int32.le_iff_toInt_le, show (0 : Int32).toInt = 0 from by decide]; exact hv.1, l⟩, en⟩
    · rw [if_neg l]
      exact Or.inl ⟨rfl, fun w => l w.2.2⟩
  · rw [if_neg q]
    refine Or.inl ⟨rfl, fun w => q ?_⟩
    have := w.1
    rw [a7] at this
    exact g_sw_2.mp this
theorem y_T.tok {K G : fp_M} {z p0 : Nat} (h : y_T K G z p0) : G 49 12 = g_sw (K 37 2) := by
  obtain ⟨-, p, b, -, -, -, -, -, -, -, a7, -⟩ := h
  exact a7
theorem y_T.at {K G : fp_M} {z p0 : Nat} (h : y_T K G z p0) : K 37 3 = G 49 13 := by
  obtain ⟨-, p, b, -, -, -, a3, a4, -⟩ := h
  rw [a3, a4]
/-- as which kind a word is told -/
theorem y_T.kt {K G : fp_M} {z p0 : Nat} (h : y_T K G z p0) : k_kt K = g_kt G := by
  have e : k_first (fun k => decide (k_word K k)) 7 0 = k_first (fun k => decide (g_word G k)) 7 0 := k_first_cg' 7 0 fun j _ hj => decide_eq_decide.mpr (h.word (by omega))
  unfold k_kt
  rw [e]
  unfold g_kt
  simp only [k_first, decide_eq_true_eq]
  by_cases w0 : g_word G 0
  · simp only [if_pos w0]; rfl
  · by_cases w1 : g_word G 1
    · simp only [if_neg w0, if_pos w1]; rfl
    · by_cases w2 : g_word G 2
      · simp only [if_neg w0, if_neg w1, if_pos w2]; rfl
      · by_cases w3 : g_word G 3
        · simp only [if_neg w0, if_neg w1, if_neg w2, if_pos w3]; rfl
        · by_cases w4 : g_word G 4
          · simp only [if_neg w0, if_neg w1, if_neg w2, if_neg w3, if_pos w4]; rfl
          · by_cases w5 : g_word G 5
            · simp only [if_neg w0, if_neg w1, if_neg w2, if_neg w3, if_neg w4, if_pos w5]; rfl
            · by_cases w6 : g_word G 6
              · simp only [if_neg w0, if_neg w1, if_neg w2, if_neg w3, if_neg w4, if_neg w5, if_pos w6]; rfl
              · simp only [if_neg w0, if_neg w1, if_neg w2, if_neg w3, if_neg w4, if_neg w5, if_neg w6]
/-- two words at once: only one spelling -/
theorem y_two {G : fp_M} {i j : Nat} (hi : g_word G i) (hj : g_word G j) (hd : ¬ (fp_sl.getD i 0 = fp_sl.getD j 0 ∧ (fp_sb.getD i []).getD 0 0 = (fp_sb.getD j []).getD 0 0)) (h6 : fp_sl.getD i 0 < 100 ∧ fp_sl.getD j 0 < 100 ∧ 0 < fp_sl.getD i 0) : False := by
  have e := (nI_eq (by omega) (by omega)).mp (hi.2.1.symm.trans hj.2.1)
  exact hd ⟨e, (hi.2.2 0 h6.2.2).trans (hj.2.2 0 (by omega)).symm⟩
theorem y_law {G : fp_M} (h : g_word G 7 ∨ g_word G 8) : g_kt G = -1 := by
  unfold g_kt
  have no : ∀ i, i < 7 → ¬ g_word G i := by
    intro i hi w
    rcases h with q | q
    · match i, hi with
      | 0, _ => exact y_two w q (by decide) (by decide)
      | 1, _ => exact y_two w q (by decide) (by decide)
      | 2, _ => exact y_two w q (by decide) (by decide)
      | 3, _ => exact y_two w q (by decide) (by decide)
      | 4, _ => exact y_two w q (by decide) (by decide)
      | 5, _ => exact y_two w q (by decide) (by decide)
      | 6, _ => exact y_two w q (by decide) (by decide)
    · match i, hi with
      | 0, _ => exact y_two w q (by decide) (by decide)
      | 1, _ => exact y_two w q (by decide) (by decide)
      | 2, _ => exact y_two w q (by decide) (by decide)
      | 3, _ => exact y_two w q (by decide) (by decide)
      | 4, _ => exact y_two w q (by decide) (by decide)
      | 5, _ => exact y_two w q (by decide) (by decide)
      | 6, _ => exact y_two w q (by decide) (by decide)
  rw [if_neg (no 0 (by decide)), if_neg (no 1 (by decide)), if_neg (no 2 (by decide)), if_neg (no 3 (by decide)), if_neg (no 4 (by decide)), if_neg (no 5 (by decide)), if_neg (no 6 (by decide))]
