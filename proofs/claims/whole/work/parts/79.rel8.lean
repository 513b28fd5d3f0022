/-! ===== calls told alike 6: sheets ===== -/
section WJ2
variable {A B : fp_M} {c : Nat}
/-- one sheet alone is new -/
theorem w_updH {A' B' : fp_M} {k : Nat} (hk : k < 4) (R : w_Rc A B c) (S' : w_s A' B' k) (ha : ∀ k' j, ¬ k' = 41 + 2 * k → ¬ k' = 42 + 2 * k → A' k' j = A k' j) (hb : ∀ k' j, ¬ (k' = 55 ∧ j = k) → ¬ (k' = 56 ∧ j = k) → ¬ (k' = 57 ∧ 40 * k ≤ j ∧ j < 40 * k + 40) → B' k' j = B k' j) : w_Rc A' B' c := by
  obtain ⟨h1, h2, h3, h4, h5, h6⟩ := R
  refine ⟨h1.cg (fun k j _ q => ha k j (by omega) (by omega)) (fun j => hb _ j (by omega) (by omega) (by omega)), h2.cg h1.1 (fun k j _ q => ha k j (by omega) (by omega)), h3.cg (fun k j _ q => ha k j (by omega) (by omega)) (ha 0 3 (by omega) (by omega)) (fun j => hb _ j (by omega) (by omega) (by omega)) (hb 49 3 (by omega) (by omega) (by omega)), h4.cg (ha 37 0 (by omega) (by omega)) (fun i => ha 38 i (by omega) (by omega)) (hb 49 6 (by omega) (by omega) (by omega)) (fun i => hb 54 i (by omega) (by omega) (by omega)), fun k' hk' => ?_, h6.cg (fun w => ha 40 w (by omega) (by omega)) (fun j => hb 53 j (by omega) (by omega) (by omega))⟩
  by_cases e : k' = k
  · subst e; exact S'
  · exact (h5 k' hk').cg (fun j => ha _ j (by omega) (by omega)) (fun j => ha _ j (by omega) (by omega)) (hb 55 k' (by omega) (by omega) (by omega)) (hb 56 k' (by omega) (by omega) (by omega)) (fun i hi => hb 57 _ (by omega) (by omega) (by omega))
theorem w_mk {α : Type} {A' B' : fp_M} {u v : α} (e : u = v) (h : w_R A' B') (hc : w_c A A') (hg : w_g B B') : w_St A B (u, A') (v, B') := ⟨e, h, hc, hg⟩
theorem w_vs {s : Int32} (h : v_sh s) : ∃ k, k < 4 ∧ k_v s = k := ⟨k_v s, (g_v3 h).2, rfl⟩
theorem g_z57 (t : Nat) : ∀ (n i : Nat) (M : fp_M) (j : Nat), k_it (fun k N => fp_wr N 57 (40 * t + k) 0) n i M 57 j = if 40 * t + i ≤ j ∧ j < 40 * t + i + n then 0 else M 57 j := by
  intro n
  induction n with
  | zero =>
    intro i M j
    rw [if_neg (by omega)]
    rfl
  | succ n ih =>
    intro i M j
    rw [k_it_s, ih (i + 1)]
    by_cases q : 40 * t + (i + 1) ≤ j ∧ j < 40 * t + (i + 1) + n
    · rw [if_pos q, if_pos (by omega)]
    · rw [if_neg q]
      by_cases q2 : j = 40 * t + i
      · subst q2
        rw [fp_wr_eq, if_pos (by omega)]
      · rw [fp_wr_ne2 q2, if_neg (by omega)]
theorem w_sheet (R : w_Rc A B c) {s b n : Int32} : w_St A B (sp_sheet A s b n) (sg_sheet B s b n) := by
  unfold sp_sheet sg_sheet
  by_cases h : v_sh s ∧ (b = 0 ∨ b = 8 ∨ b = 16 ∨ b = 32)
  · rw [if_pos h, if_pos h]
    have hk := (g_v3 h.1).2
    by_cases h0 : n < 0
    · rw [if_pos h0, if_neg (Int32.not_le.mpr h0)]
      exact w_fd0 R.r (by decide) (by decide)
    · rw [if_neg h0, if_pos (Int32.not_lt.mp h0)]
      by_cases h4 : n ≤ 40
      · rw [if_pos h4, if_pos h4]
        obtain ⟨m, m1, m2⟩ := k_rng (N := 40) (K := 40) (by decide) ⟨Int32.not_lt.mp h0, h4⟩
        obtain ⟨k, ek⟩ : ∃ k, k = k_v s := ⟨_, rfl⟩
        rw [← ek] at hk ⊢
        obtain ⟨z, z1, z2⟩ : ∃ z : Nat, z ≤ 40 ∧ (if b = 0 then 0 else n) = nI z := by
          by_cases q : b = 0
          · exact ⟨0, by decide, by rw [if_pos q]; rfl⟩
          · exact ⟨m, m1, by rw [if_neg q]; exact m2⟩
        have a41 : ∀ j, k_renew A k b (if b = 0 then 0 else n) (41 + 2 * k) j = if j = 1 then (if b = 0 then 0 else n) else if j = 0 then b else A (41 + 2 * k) j := by
          intro j
          unfold k_renew k_fill
          rw [if_neg (by omega)]
          unfold fp_wr
          by_cases q1 : j = 1
          · rw [if_pos ⟨rfl, q1⟩, if_pos q1]
          · rw [if_neg (fun w => q1 w.2), if_neg q1]
            by_cases q0 : j = 0
            · rw [if_pos ⟨rfl, q0⟩, if_pos q0]
            · rw [if_neg (fun w => q0 w.2), if_neg q0]
        have a410 : k_renew A k b (if b = 0 then 0 else n) (41 + 2 * k) 0 = b := by
          rw [a41, if_neg (show ¬ 0 = 1 by decide), if_pos rfl]
        have a42 : ∀ i, i < 40 → k_renew A k b (if b = 0 then 0 else n) (42 + 2 * k) i = 0 := fun i hi => if_pos ⟨rfl, hi⟩
        have ao : ∀ k' j, ¬ k' = 41 + 2 * k → ¬ k' = 42 + 2 * k → k_renew A k b (if b = 0 then 0 else n) k' j = A k' j := by
          intro k' j q1 q2
          unfold k_renew k_fill
          rw [if_neg (fun w => q2 w.1), fp_wr_ne q1, fp_wr_ne q1]
        have b57 : ∀ i, i < 40 → g_shw B k b n 57 (40 * k + i) = 0 := by
          intro i hi
          unfold g_shw
          rw [g_z57, if_pos (by omega)]
        have bo : ∀ k' j, ¬ k' = 57 → g_shw B k b n k' j = fp_wr (fp_wr B 55 k (if b = 0 then -1 else b)) 56 k (if b = 0 then 0 else n) k' j := fun k' j q => g_57_ne q k j 40 0 _
        have b55 : g_shw B k b n 55 k = if b = 0 then -1 else b := by
          rw [bo 55 k (by decide), fp_wr_ne (by decide), fp_wr_eq]
        have b56 : g_shw B k b n 56 k = if b = 0 then 0 else n := by
          rw [bo 56 k (by decide), fp_wr_eq]
        refine w_mk rfl (w_updH hk R ⟨z, z1, ?_, ?_, ?_, ?_, fun i hi => ?_⟩ ao (fun k' j q1 q2 q3 => ?_)).r (fun k' j q => ao k' j (by omega) (by omega)) (fun k' j q => ?_)
        · rw [a41, if_pos rfl]; exact z2
        · rw [b56]; exact z2
        · rw [a410]; exact h.2
        · rw [b55, a410]
        · rw [a42 i hi, b57 i hi]
        · by_cases q : k' = 57
          · subst q
            unfold g_shw
            rw [g_z57, if_neg (by omega), fp_wr_ne (by decide), fp_wr_ne (by decide)]
          · rw [bo k' j q]
            unfold fp_wr
            rw [if_neg q2, if_neg q1]
        · rw [bo k' j (by omega), fp_wr_ne (by omega), fp_wr_ne (by omega)]
      · rw [if_neg h4, if_neg h4]
        exact w_fd0 R.r (by decide) (by decide)
  · rw [if_neg h, if_neg h]
    exact w_fd0 R.r (by decide) (by decide)
/-- is the sheet there -/
theorem w_miss (R : w_Rc A B c) {k : Nat} (hk : k < 4) : A (41 + 2 * k) 0 = 0 ↔ ¬ 0 ≤ B 55 k := by
  obtain ⟨s, -, -, -, h4, h5, -⟩ := R.2.2.2.2.1 k hk
  rw [h5]
  by_cases q : A (41 + 2 * k) 0 = 0
  · rw [if_pos q]
    exact ⟨fun _ => by decide, fun _ => q⟩
  · rw [if_neg q]
    refine ⟨fun z => absurd z q, fun z => ?_⟩
    exfalso
    rcases h4 with w | w | w | w
    · exact q w
    · rw [w] at z; exact z (by decide)
    · rw [w] at z; exact z (by decide)
    · rw [w] at z; exact z (by decide)
theorem w_want (R : w_Rc A B c) {s : Int32} : (k_st A s = -1 ∧ g_want B s = 0 ∧ v_sh s ∧ ¬ A (k_so s) 0 = 0) ∨ (∃ w, w < 7 ∧ k_st A s = nI w ∧ g_want B s = -1000001 - nI w) := by
  unfold k_st g_want
  by_cases h : v_sh s
  · rw [if_pos h, if_pos h]
    have hk := (g_v3 h).2
    have e := w_miss R hk
    by_cases q : A (k_so s) 0 = 0
    · rw [if_pos q, if_neg (e.mp q)]
      exact Or.inr ⟨5, by decide, by decide, by decide⟩
    · rw [if_neg q, if_pos (Classical.byContradiction fun z => q (e.mpr z))]
      exact Or.inl ⟨rfl, rfl, h, q⟩
  · rw [if_neg h, if_neg h]
    exact Or.inr ⟨0, by decide, by decide, by decide⟩
theorem w_nIne {w : Nat} (hw : w < 7) : ¬ nI w = -1 ∧ ¬ (-1000001 : Int32) - nI w = 0 ∧ k_v (nI w) = w ∧ k_v (-1000001 - ((-1000001 : Int32) - nI w)) = w ∧ k_lo (nI w) = -1000001 - nI w := by
  match w, hw with
  | 0, _ => decide
  | 1, _ => decide
  | 2, _ => decide
  | 3, _ => decide
  | 4, _ => decide
  | 5, _ => decide
  | 6, _ => decide
theorem w_write (R : w_Rc A B c) {s i x : Int32} : w_St A B (sp_write A s i x) (sg_write B s i x) := by
  unfold sp_write
  have eg : sg_write B s i x = if g_want B s = 0 then (if 0 ≤ i ∧ i ≤ B 56 (k_v s) - 1 then (1, fp_wr B 57 (40 * k_v s + k_v i) (k_bits (B 55 (k_v s)) x)) else (-1000001, g_fd B 0)) else (g_want B s, g_fd B (k_v (-1000001 - g_want B s))) := by
    unfold sg_write g_want
    by_cases h : 0 ≤ s ∧ s ≤ 3
    · rw [if_pos h, if_pos h]
      by_cases q : 0 ≤ B 55 (k_v s)
      · rw [if_pos q, if_pos q, if_pos rfl]
      · rw [if_neg q, if_neg q, if_neg (by decide)]
        rfl
    · rw [if_neg h, if_neg h, if_neg (by decide)]
      rfl
  rw [eg]
  rcases w_want R (s := s) with ⟨h1, h2, h3, h4⟩ | ⟨w, w1, w2, w3⟩
  · rw [if_pos h1, if_pos h2]
    have hk := (g_v3 h3).2
    obtain ⟨z, z1, z2, z3, z4, z5, z6⟩ := R.2.2.2.2.1 (k_v s) hk
    rw [show A (k_so s) 1 = B 56 (k_v s) from z2.trans z3.symm]
    by_cases q : 0 ≤ i ∧ i ≤ B 56 (k_v s) - 1
    · rw [if_pos q, if_pos q]
      obtain ⟨ei, li⟩ := g_ix z1 z3 q
      have e5 : B 55 (k_v s) = A (k_so s) 0 := by rw [z5]; exact if_neg h4
      rw [e5]
      have hk4 := hk
      refine w_mk rfl (w_updH hk R ⟨z, z1, ?_, ?_, ?_, ?_, fun j hj => ?_⟩ (fun k' j q1 q2 => fp_wr_ne q2) (fun k' j q1 q2 q3 => ?_)).r ((w_c.rf A).wr (by show 42 + 2 * k_v s < 49; omega)) ((w_g.rf B).wr (by decide))
      · rw [fp_wr_ne (by show ¬ 41 + 2 * k_v s = 42 + 2 * k_v s; omega)]; exact z2
      · rw [fp_wr_ne (by decide)]; exact z3
      · rw [fp_wr_ne (by show ¬ 41 + 2 * k_v s = 42 + 2 * k_v s; omega)]; exact z4
      · rw [fp_wr_ne (by decide), fp_wr_ne (by show ¬ 41 + 2 * k_v s = 42 + 2 * k_v s; omega)]; exact z5
      · by_cases e : j = k_v i
        · subst e
          rw [fp_wr_eq]
          exact fp_wr_eq.symm
        · rw [fp_wr_ne2 (show ¬ 40 * k_v s + j = 40 * k_v s + k_v i by omega), ← z6 j hj]
          exact fp_wr_ne2 e
      · unfold fp_wr
        exact if_neg (by omega)
    · rw [if_neg q, if_neg q]
      exact w_fd0 R.r (by decide) (by decide)
  · obtain ⟨a1, a2, a3, a4, a5⟩ := w_nIne w1
    rw [w2, w3, if_neg a1, if_neg a2, a3, a4]
    exact w_fd0 R.r w1 a5
/-- numbers come to another place, in the order that spares them -/
theorem w_cpsU {P Q n : Nat} (q : P < Q) : ∀ (m k : Nat), k + m = n → ∀ N M : fp_M, (∀ j, N 57 j = if Q + (n - k) ≤ j ∧ j < Q + n then M 57 (j - Q + P) else M 57 j) → ∀ j, k_it (g_cps P Q n) m k N 57 j = if Q ≤ j ∧ j < Q + n then M 57 (j - Q + P) else M 57 j := by
  intro m
  induction m with
  | zero =>
    intro k hk N M h j
    show N 57 j = _
    rw [h j]
    by_cases w : Q + (n - k) ≤ j ∧ j < Q + n
    · rw [if_pos w, if_pos (by omega)]
    · rw [if_neg w, if_neg (by omega)]
  | succ m ih =>
    intro k hk N M h
    have eg : g_cps P Q n k N = fp_wr N 57 (Q + (n - 1 - k)) (N 57 (P + (n - 1 - k))) := by
      unfold g_cps
      rw [if_pos q]
    rw [k_it_s, eg]
    refine ih (k + 1) (by omega) _ M fun j => ?_
    by_cases e : j = Q + (n - 1 - k)
    · rw [if_pos (by omega), e, fp_wr_eq, h, if_neg (by omega)]
      exact congrArg (M 57) (by omega)
    · rw [fp_wr_ne2 e, h j]
      by_cases w : Q + (n - k) ≤ j ∧ j < Q + n
      · rw [if_pos w, if_pos (by omega)]
      · rw [if_neg w, if_neg (by omega)]
theorem w_cpsD {P Q n : Nat} (q : ¬ P < Q) : ∀ (m k : Nat), k + m = n → ∀ N M : fp_M, (∀ j, N 57 j = if Q ≤ j ∧ j < Q + k then M 57 (j - Q + P) else M 57 j) → ∀ j, k_it (g_cps P Q n) m k N 57 j = if Q ≤ j ∧ j < Q + n then M 57 (j - Q + P) else M 57 j := by
  intro m
  induction m with
  | zero =>
    intro k hk N M h j
    show N 57 j = _
    rw [h j, show k = n by omega]
  | succ m ih =>
    intro k hk N M h
    have eg : g_cps P Q n k N = fp_wr N 57 (Q + k) (N 57 (P + k)) := by
      unfold g_cps
      rw [if_neg q]
    rw [k_it_s, eg]
    refine ih (k + 1) (by omega) _ M fun j => ?_
    by_cases e : j = Q + k
    · rw [if_pos (by omega), e, fp_wr_eq, h, if_neg (by omega)]
      exact congrArg (M 57) (by omega)
    · rw [fp_wr_ne2 e, h j]
      by_cases w : Q ≤ j ∧ j < Q + k
      · rw [if_pos w, if_pos (by omega)]
      · rw [if_neg w, if_neg (by omega)]
theorem w_cps (P Q n : Nat) (M : fp_M) (j : Nat) : k_it (g_cps P Q n) n 0 M 57 j = if Q ≤ j ∧ j < Q + n then M 57 (j - Q + P) else M 57 j := by
  by_cases q : P < Q
  · exact w_cpsU q n 0 (by omega) M M (fun j => by rw [if_neg (by omega)]) j
  · exact w_cpsD q n 0 (by omega) M M (fun j => by rw [if_neg (by omega)]) j
theorem w_cps_o {P Q n k j : Nat} (hk : ¬ k = 57) : ∀ (m i : Nat) (N : fp_M), k_it (g_cps P Q n) m i N k j = N k j := by
  intro m
  induction m with
  | zero => intro i N; rfl
  | succ m ih =>
    intro i N
    rw [k_it_s, ih (i + 1)]
    exact fp_wr_ne hk
theorem w_run {s f n : Int32} {z : Nat} (hz : z ≤ 40) (hs : s = nI z) : (0 ≤ f ∧ 0 ≤ n ∧ n ≤ s ∧ f ≤ s - n) ↔ (0 ≤ f ∧ 0 ≤ n ∧ n ≤ s - f) := by
  subst hs
  have ez : (nI z).toInt = z := nI_toInt (by omega)
  have f1 := Int32.toInt_lt f
  have n1 := Int32.toInt_lt n
  have e0 : (0 : Int32).toInt = 0 := by decide
  constructor
  · rintro ⟨h1, h2, h3, h4⟩
    have h1' := Int32.le_iff_toInt_le.mp h1
    have h2' := Int32.le_iff_toInt_le.mp h2
    have h3' := Int32.le_iff_toInt_le.mp h3
    rw [e0] at h1' h2'
    rw [ez] at h3'
    have e1 : (nI z - n).toInt = z - n.toInt := q_sub ez rfl (by omega)
    have h4' := Int32.le_iff_toInt_le.mp h4
    rw [e1] at h4'
    have e2 : (nI z - f).toInt = z - f.toInt := q_sub ez rfl (by omega)
    exact ⟨h1, h2, Int32.le_iff_toInt_le.mpr (by rw [e2]; omega)⟩
  · rintro ⟨h1, h2, h3⟩
    have h1' := Int32.le_iff_toInt_le.mp h1
    have h2' := Int32.le_iff_toInt_le.mp h2
    rw [e0] at h1' h2'
    have e2 : (nI z - f).toInt = z - f.toInt := q_sub ez rfl (by omega)
    have h3' := Int32.le_iff_toInt_le.mp h3
    rw [e2] at h3'
    have e1 : (nI z - n).toInt = z - n.toInt := q_sub ez rfl (by omega)
    exact ⟨h1, h2, Int32.le_iff_toInt_le.mpr (by rw [ez]; omega), Int32.le_iff_toInt_le.mpr (by rw [e1]; omega)⟩
theorem w_copy (R : w_Rc A B c) {s f t o n : Int32} : w_St A B (sp_copy A s f t o n) (sg_copy B s f t o n) := by
  unfold sp_copy sg_copy
  by_cases h : v_sh s ∧ v_sh t
  · rw [if_pos h, if_pos h]
    have hs := (g_v3 h.1).2
    have ht := (g_v3 h.2).2
    have ms := w_miss R hs
    have mt := w_miss R ht
    obtain ⟨zs, s1, s2, s3, s4, s5, s6⟩ := R.2.2.2.2.1 (k_v s) hs
    obtain ⟨zt, t1, t2, t3, t4, t5, t6⟩ := R.2.2.2.2.1 (k_v t) ht
    by_cases q : A (k_so s) 0 = 0 ∨ A (k_so t) 0 = 0
    · rw [if_pos q, if_neg (fun z => q.elim (fun w => ms.mp w z.1) (fun w => mt.mp w z.2))]
      exact w_fd0 R.r (by decide) (by decide)
    · have qs : ¬ A (k_so s) 0 = 0 := fun z => q (Or.inl z)
      have qt : ¬ A (k_so t) 0 = 0 := fun z => q (Or.inr z)
      have es : B 55 (k_v s) = A (k_so s) 0 := by rw [s5]; exact if_neg qs
      have et : B 55 (k_v t) = A (k_so t) 0 := by rw [t5]; exact if_neg qt
      have hb2 : 0 ≤ B 55 (k_v s) ∧ 0 ≤ B 55 (k_v t) := ⟨Classical.byContradiction fun z => qs (ms.mpr z), Classical.byContradiction fun z => qt (mt.mpr z)⟩
      rw [if_neg q, if_pos hb2, es, et]
      by_cases k : A (k_so s) 0 = A (k_so t) 0
      · rw [if_pos k, if_pos k]
        have e1 := w_run (f := f) (n := n) s1 s2
        have e2 := w_run (f := o) (n := n) t1 t2
        have er : (v_run A s f n ∧ v_run A t o n) ↔ g_run B (k_v s) (k_v t) f o n := by
          show ((0 ≤ f ∧ 0 ≤ n ∧ n ≤ A (41 + 2 * k_v s) 1 ∧ f ≤ A (41 + 2 * k_v s) 1 - n) ∧ (0 ≤ o ∧ 0 ≤ n ∧ n ≤ A (41 + 2 * k_v t) 1 ∧ o ≤ A (41 + 2 * k_v t) 1 - n)) ↔ ((0 ≤ f ∧ 0 ≤ o ∧ 0 ≤ n) ∧ n ≤ B 56 (k_v s) - f ∧ n ≤ B 56 (k_v t) - o)
          rw [e1, e2, s2, s3, t2, t3]
          constructor
          · rintro ⟨⟨a1, a2, a3⟩, b1, b2, b3⟩
            exact ⟨⟨a1, b1, a2⟩, a3, b3⟩
          · rintro ⟨⟨a1, b1, a2⟩, a3, b3⟩
            exact ⟨⟨a1, a2, a3⟩, b1, a2, b3⟩
        by_cases r : v_run A s f n ∧ v_run A t o n
        · have r' := er.mp r
          rw [if_pos r, if_pos r']
          obtain ⟨l1, l2, l3⟩ := g_len s1 s3 r'.1.1 r'.1.2.2 r'.2.1
          obtain ⟨l4, l5, l6⟩ := g_len t1 t3 r'.1.2.1 r'.1.2.2 r'.2.2
          have hb : ∀ j, k_it (g_cps (40 * k_v s + k_v f) (40 * k_v t + k_v o) (k_v n)) (k_v n) 0 B 57 j = if 40 * k_v t + k_v o ≤ j ∧ j < 40 * k_v t + k_v o + k_v n then B 57 (j - (40 * k_v t + k_v o) + (40 * k_v s + k_v f)) else B 57 j := by
            exact w_cps _ _ _ B
          have ho : ∀ k' j, ¬ k' = 57 → k_it (g_cps (40 * k_v s + k_v f) (40 * k_v t + k_v o) (k_v n)) (k_v n) 0 B k' j = B k' j := fun k' j w => w_cps_o w _ _ _
          have ao : ∀ k' j, ¬ k' = 42 + 2 * k_v t → fp_cp A (k_sn s) (k_v f) (k_sn t) (k_v o) (k_v n) k' j = A k' j := fun k' j w => if_neg w
          have a42 : ∀ j, fp_cp A (k_sn s) (k_v f) (k_sn t) (k_v o) (k_v n) (42 + 2 * k_v t) j = if k_v o ≤ j ∧ j < k_v o + k_v n then A (42 + 2 * k_v s) (k_v f + (j - k_v o)) else A (42 + 2 * k_v t) j := fun j => by
            show (if 42 + 2 * k_v t = 42 + 2 * k_v t then va_cpy (A (42 + 2 * k_v s)) (A (42 + 2 * k_v t)) (k_v f) (k_v o) (k_v n) j else A (42 + 2 * k_v t) j) = _
            rw [if_pos rfl]
            rfl
          refine w_mk rfl (w_updH ht R ⟨zt, t1, ?_, ?_, ?_, ?_, fun i hi => ?_⟩ (fun k' j _ w => ao k' j w) (fun k' j _ _ w => ?_)).r (fun k' j w => ao k' j (by omega)) (fun k' j w => ho k' j (by omega))
          · rw [ao _ _ (by omega)]; exact t2
          · rw [ho _ _ (by decide)]; exact t3
          · rw [ao _ _ (by omega)]; exact t4
          · rw [ho _ _ (by decide), ao _ _ (by omega)]; exact t5
          · rw [a42, hb]
            by_cases w : k_v o ≤ i ∧ i < k_v o + k_v n
            · rw [if_pos w, if_pos (by omega), s6 _ (by omega)]
              exact congrArg (B 57) (by omega)
            · rw [if_neg w, if_neg (by omega)]
              exact t6 i hi
          · by_cases e : k' = 57
            · subst e
              rw [hb, if_neg (by omega)]
            · exact ho k' j e
        · rw [if_neg r, if_neg (fun z => r (er.mpr z))]
          exact w_fd0 R.r (by decide) (by decide)
      · rw [if_neg k, if_neg k]
        exact w_fd0 R.r (by decide) (by decide)
  · rw [if_neg h, if_neg h]
    exact w_fd0 R.r (by decide) (by decide)
theorem w_ld_it {na nb : Nat → Int32} (h8 : c ≤ 8) : ∀ (n i : Nat), (∀ j, i ≤ j → j < i + n → na j = nb j) → ∀ A B : fp_M, w_Rc A B c → (k_ld na c n i A).1 = (g_ld nb c n i B).1 ∧ w_Rc (k_ld na c n i A).2 (g_ld nb c n i B).2 c ∧ w_c A (k_ld na c n i A).2 ∧ w_g B (g_ld nb c n i B).2 := by
  intro n
  induction n with
  | zero => intro i _ A B R; exact ⟨rfl, R, w_c.rf A, w_g.rf B⟩
  | succ n ih =>
    intro i he A B R
    unfold k_ld g_ld
    rw [he i (Nat.le_refl i) (by omega)]
    by_cases q : (-99 ≤ nb i ∧ nb i ≤ 99) ∧ i < c
    · rw [if_pos q, if_pos ⟨q.2, q.1⟩]
      have er : 1 + 2 + i = 3 + i := by omega
      have O' := R.1.wl (v := nb i) q.2 (show 3 < 6 by decide)
      have v' := R.2.1.wl (f := 3) (v := nb i) h8 q.2 (by
        obtain ⟨l1, ⟨f, t, l2, l3, l4, l5, l6⟩, l7, l8⟩ := R.2.1.2.1 i q.2
        exact ⟨l1, ⟨f, t, l2, l3, l4, l5, l6⟩, q.1, l8⟩)
      rw [er] at O' v'
      have R' := w_upd R O' v' (fun k j w => fp_wr_ne (by omega)) (fun k j w => fp_wr_ne w)
      obtain ⟨r1, r2, r3, r4⟩ := ih (i + 1) (fun j a b => he j (by omega) (by omega)) _ _ R'
      exact ⟨r1, r2, ((w_c.rf A).wr (by omega)).tr r3, ((w_g.rf B).wr (by decide)).tr r4⟩
    · rw [if_neg q, if_neg (fun z => q ⟨z.2, z.1⟩)]
      exact ⟨rfl, R, w_c.rf A, w_g.rf B⟩
theorem w_load (R : w_Rc A B c) {s : Int32} : w_St A B (sp_load A c s) (sg_load B c s) := by
  unfold sp_load sg_load
  rcases w_want R (s := s) with ⟨h1, h2, h3, h4⟩ | ⟨w, w1, w2, w3⟩
  · rw [if_pos h1, if_pos h2]
    have hk := (g_v3 h3).2
    obtain ⟨z, z1, z2, z3, z4, z5, z6⟩ := R.2.2.2.2.1 (k_v s) hk
    rw [show A (k_so s) 1 = nI z from z2, z3, show k_v (nI z) = z from nI_clamp (by omega)]
    obtain ⟨r1, r2, r3, r4⟩ := w_ld_it R.1.1 (na := A (k_sn s)) (nb := fun j => B 57 (40 * k_v s + j)) z 0 (fun j _ hj => z6 j (by omega)) A B R
    exact ⟨congrArg nI r1, r2.r, r3, r4⟩
  · obtain ⟨a1, a2, a3, a4, a5⟩ := w_nIne w1
    rw [w2, w3, if_neg a1, if_neg a2, a3, a4]
    exact w_fd0 R.r w1 a5
theorem w_told (x y : Int32) : (x.toInt64 - y.toInt64).toInt = x.toInt - y.toInt := by
  have x1 := Int32.toInt_lt x
  have y1 := Int32.toInt_lt y
  have x2 := Int32.le_toInt x
  have y2 := Int32.le_toInt y
  rw [Int64.toInt_sub, Int32.toInt_toInt64, Int32.toInt_toInt64]
  exact Int.bmod_eq_of_le (by omega) (by omega)
theorem w_knear (x y : Int32) : k_near x y ↔ (-999 ≤ x.toInt - y.toInt ∧ x.toInt - y.toInt ≤ 999) := by
  have e := w_told x y
  have x1 := Int32.toInt_lt x
  have y1 := Int32.toInt_lt y
  have x2 := Int32.le_toInt x
  have y2 := Int32.le_toInt y
  show lg_cmp (k_labs (x.toInt64 - y.toInt64)) 999 ≤ 0 ↔ _
  rw [lg_cmp_le]
  unfold k_labs
  rw [Int64.le_iff_toInt_le, show (999 : Int64).toInt = 999 from by decide]
  have h0 : (0 ≤ lg_cmp (x.toInt64 - y.toInt64) 0) ↔ 0 ≤ x.toInt - y.toInt := by
    rw [lg_cmp_ge, Int64.le_iff_toInt_le, e, show (0 : Int64).toInt = 0 from by decide]
  have en : (-(x.toInt64 - y.toInt64)).toInt = -(x.toInt - y.toInt) := by
    rw [Int64.toInt_neg, e]
    exact Int.bmod_eq_of_le (by omega) (by omega)
  by_cases q : 0 ≤ lg_cmp (x.toInt64 - y.toInt64) 0
  · have q' := h0.mp q
    rw [if_pos q, e]
    constructor <;> intro z <;> omega
  · have q' : ¬ 0 ≤ x.toInt - y.toInt := fun z => q (h0.mpr z)
    rw [if_neg q, en]
    constructor <;> intro z <;> omega
theorem w_gnear {t a b : Nat} : g_near B t a b ↔ (-999 ≤ (B 57 (40 * t + b)).toInt - (B 57 (40 * t + a)).toInt ∧ (B 57 (40 * t + b)).toInt - (B 57 (40 * t + a)).toInt ≤ 999) := by
  show (-999 ≤ g_told B t a b ∧ g_told B t a b ≤ 999) ↔ _
  rw [Int64.le_iff_toInt_le, Int64.le_iff_toInt_le, w_told, show (-999 : Int64).toInt = -999 from by decide, show (999 : Int64).toInt = 999 from by decide]
/-- do the numbers of a sheet tell places -/
theorem w_place (R : w_Rc A B c) {s : Int32} : (k_pt A s = -1 ∧ g_wp B s = 0 ∧ v_sh s ∧ ∃ z : Nat, z ≤ 8 ∧ A (k_so s) 1 = nI z ∧ B 56 (k_v s) = nI z ∧ (∀ i, i < 40 → A (k_sn s) i = B 57 (40 * k_v s + i)) ∧ ∀ a b, a < z → b < z → -999 ≤ (A (k_sn s) a).toInt - (A (k_sn s) b).toInt ∧ (A (k_sn s) a).toInt - (A (k_sn s) b).toInt ≤ 999) ∨ (∃ w, w < 7 ∧ k_pt A s = nI w ∧ g_wp B s = -1000001 - nI w) := by
  unfold k_pt g_wp
  rcases w_want R (s := s) with ⟨h1, h2, h3, h4⟩ | ⟨w, w1, w2, w3⟩
  · rw [if_pos h1, if_pos h2]
    have hk := (g_v3 h3).2
    obtain ⟨z, z1, z2, z3, z4, z5, z6⟩ := R.2.2.2.2.1 (k_v s) hk
    have ez : k_v (nI z) = z := nI_clamp (by omega)
    have e1 : k_v (A (k_so s) 1) = z := by rw [show A (k_so s) 1 = nI z from z2]; exact ez
    have hn : ∀ a b, a < z → b < a → (k_near (A (k_sn s) a) (A (k_sn s) b) ↔ g_near B (k_v s) a b) := by
      intro a b ha hb
      rw [w_knear, w_gnear, show A (k_sn s) a = B 57 (40 * k_v s + a) from z6 a (by omega), show A (k_sn s) b = B 57 (40 * k_v s + b) from z6 b (by omega)]
      constructor <;> intro w <;> omega
    unfold v_pl
    rw [e1, z3, ez]
    by_cases q8 : z ≤ 8
    · rw [if_pos q8]
      rcases g_bar_v B (k_v s) z 0 with ⟨b1, b2⟩ | ⟨b1, b2⟩
      · have hall : ∀ a, a < z → ∀ b, b < a → k_near (A (k_sn s) a) (A (k_sn s) b) := fun a ha b hb => (hn a b ha hb).mpr (b2 a (Nat.zero_le a) (by omega) b hb)
        rw [b1, if_pos ⟨q8, hall⟩]
        refine Or.inl ⟨rfl, rfl, h3, z, q8, z2, rfl, z6, fun a b ha hb => ?_⟩
        rcases Nat.lt_trichotomy b a with w | w | w
        · exact (w_knear _ _).mp (hall a ha b w)
        · subst w; omega
        · have := (w_knear _ _).mp (hall b hb a w)
          omega
      · rw [b1, if_neg (fun w => b2 (fun a _ ha b hb => (hn a b (by omega) hb).mp (w.2 a (by omega) b hb)))]
        exact Or.inr ⟨4, by decide, by decide, by decide⟩
    · rw [if_neg q8, if_neg (fun w => q8 w.1)]
      exact Or.inr ⟨4, by decide, by decide, by decide⟩
  · obtain ⟨a1, a2, a3, a4, a5⟩ := w_nIne w1
    rw [w2, w3, if_neg a1, if_neg a2]
    exact Or.inr ⟨w, w1, rfl, rfl⟩
theorem w_judge (R : w_Rc A B c) {s : Int32} : w_St A B (sp_judge A c s) (sg_judge B c s) := by
  unfold sp_judge sg_judge
  rcases w_place R (s := s) with ⟨h1, h2, h3, z, z1, z2, z3, z6, hN⟩ | ⟨w, w1, w2, w3⟩
  · rw [if_pos h1, if_pos h2, show g_cn B c = k_cn A c from w_cn R.1]
    refine w_St.id R.r (congrArg nI (k_bn_cg c fun i hi => decide_eq_decide.mpr (and_congr_right fun _ => ?_)))
    obtain ⟨g1, g2, g3, g4, g5⟩ := w_gl R.1 R.2.1 i hi
    have bd := w_lb R.2.1 R.2.1.1 i hi
    have ez : k_v (A (k_so s) 1) = z := by rw [z2]; exact nI_clamp (by omega)
    obtain ⟨-, ⟨f, t, f8, t8, -, ef, et⟩, -⟩ := R.2.1.2.1 i hi
    have ef' : A (3 + i) 1 = nI f := by rw [← ef]
    have et' : A (3 + i) 2 = nI t := by rw [← et]
    have kf : k_v (A (3 + i) 1) = f := by rw [ef']; exact nI_clamp (by omega)
    have kt : k_v (A (3 + i) 2) = t := by rw [et']; exact nI_clamp (by omega)
    have bf : B 50 (5 + 6 * i + 1) = nI f := by rw [R.1.l hi (by decide)]; exact ef'
    have bt : B 50 (5 + 6 * i + 2) = nI t := by rw [R.1.l hi (by decide)]; exact et'
    show ((k_v (A (3 + i) 1) < k_v (A (k_so s) 1) ∧ k_v (A (3 + i) 2) < k_v (A (k_so s) 1)) ∧ (A (k_sn s) (k_v (A (3 + i) 2)) - A (k_sn s) (k_v (A (3 + i) 1)) < k_least (A (3 + i) 0) (A (3 + i) 3) (A 1 2) ∨ k_most (A (3 + i) 0) (A (3 + i) 3) (A 1 2) < A (k_sn s) (k_v (A (3 + i) 2)) - A (k_sn s) (k_v (A (3 + i) 1)))) ↔ ((B 50 (5 + 6 * i + 1) < B 56 (k_v s) ∧ B 50 (5 + 6 * i + 2) < B 56 (k_v s)) ∧ ¬ ((g_least B i).toInt64 ≤ g_told B (k_v s) (k_v (B 50 (5 + 6 * i + 1))) (k_v (B 50 (5 + 6 * i + 2))) ∧ g_told B (k_v s) (k_v (B 50 (5 + 6 * i + 1))) (k_v (B 50 (5 + 6 * i + 2))) ≤ (g_most B i).toInt64))
    rw [w_least R.1 hi, w_most R.1 hi, kf, kt, ez, bf, bt, z3, show k_v (nI f) = f from nI_clamp (by omega), show k_v (nI t) = t from nI_clamp (by omega), nI_ltI (by omega) (by omega), nI_ltI (by omega) (by omega)]
    refine and_congr_right fun hl => ?_
    have n1 := hN t f hl.2 hl.1
    have ed : (A (k_sn s) t - A (k_sn s) f).toInt = (A (k_sn s) t).toInt - (A (k_sn s) f).toInt := q_sub rfl rfl (by omega)
    have eg : (g_told B (k_v s) f t).toInt = (A (k_sn s) t).toInt - (A (k_sn s) f).toInt := by
      rw [w_told, z6 t (by omega), z6 f (by omega)]
    rw [Int32.lt_iff_toInt_lt, Int32.lt_iff_toInt_lt, Int64.le_iff_toInt_le, Int64.le_iff_toInt_le, ed, eg, Int32.toInt_toInt64, Int32.toInt_toInt64]
    constructor
    · intro w; omega
    · intro w; omega
  · obtain ⟨a1, a2, a3, a4, a5⟩ := w_nIne w1
    rw [w2, w3, if_neg a1, if_neg a2, a3, a4]
    exact w_fd0 R.r w1 a5
/-- the places told, as limits -/
theorem w_mpJ {k : Nat} {d : Nat → Int} {P : q_x → Prop} (z : Nat) (hz : z ≤ 8) (hd : ∀ t, t < z → (A (42 + 2 * k) t - A (42 + 2 * k) 0).toInt = d t ∧ -999 ≤ d t) : ∀ (n t : Nat), 1 ≤ t → t + n = z → ∀ N : fp_M, q_J N (fun x => P x ∧ ∀ j, 1 ≤ j → j < t → x j - x 0 = d j) → q_J (k_it (k_mp A k) n t N) (fun x => P x ∧ ∀ j, 1 ≤ j → j < z → x j - x 0 = d j) := by
  intro n
  induction n with
  | zero =>
    intro t _ ht N h
    have e : t = z := by omega
    subst e
    exact h
  | succ n ih =>
    intro t h1 ht N h
    rw [k_it_s]
    refine ih (t + 1) (by omega) (by omega) _ ?_
    obtain ⟨d1, d2⟩ := hd t (by omega)
    refine (q_nar_J (show 0 < 8 by decide) (show t < 8 by omega) (by rw [d1]; omega) h).cg fun x => ?_
    rw [d1]
    constructor
    · rintro ⟨⟨p1, p2⟩, p3, p4⟩
      refine ⟨p1, fun j j1 j2 => ?_⟩
      by_cases e : j = t
      · subst e; omega
      · exact p2 j j1 (by omega)
    · rintro ⟨p1, p2⟩
      have := p2 t h1 (by omega)
      exact ⟨⟨p1, fun j j1 j2 => p2 j j1 (by omega)⟩, by omega, by omega⟩
theorem w_bdL {t a z : Nat} {d : Nat → Int} {P : q_x → Prop} (hz : z ≤ 8) (ha : a < z) (hd : ∀ b, b < z → (g_told B t a b).toInt32.toInt = d b - d a ∧ -999 ≤ d b - d a) : ∀ (n b : Nat), b + n = z → ∀ N : fp_M, q_L N (fun x => P x ∧ ∀ j, j < b → x j - x a ≤ d j - d a) → q_L (k_it (g_bd B t a) n b N) (fun x => P x ∧ ∀ j, j < z → x j - x a ≤ d j - d a) := by
  intro n
  induction n with
  | zero =>
    intro b hb N h
    have e : b = z := by omega
    subst e
    exact h
  | succ n ih =>
    intro b hb N h
    rw [k_it_s]
    refine ih (b + 1) (by omega) _ ?_
    obtain ⟨d1, d2⟩ := hd b (by omega)
    refine (q_bind_L (show a < 8 by omega) (show b < 8 by omega) (by rw [d1]; exact d2) (fun e => by rw [d1, e]; omega) h).cg fun x => ?_
    rw [d1]
    constructor
    · rintro ⟨⟨p1, p2⟩, p3⟩
      refine ⟨p1, fun j hj => ?_⟩
      by_cases e : j = b
      · subst e; exact p3
      · exact p2 j (by omega)
    · rintro ⟨p1, p2⟩
      exact ⟨⟨p1, fun j hj => p2 j (by omega)⟩, p2 b (by omega)⟩
theorem w_mpL {t z : Nat} {d : Nat → Int} {P : q_x → Prop} (hz : z ≤ 8) (hd : ∀ a b, a < z → b < z → (g_told B t a b).toInt32.toInt = d b - d a ∧ -999 ≤ d b - d a) : ∀ (n a : Nat), a + n = z → ∀ N : fp_M, q_L N (fun x => P x ∧ ∀ i j, i < a → j < z → x j - x i ≤ d j - d i) → q_L (k_it (fun a N => k_it (g_bd B t a) z 0 N) n a N) (fun x => P x ∧ ∀ i j, i < z → j < z → x j - x i ≤ d j - d i) := by
  intro n
  induction n with
  | zero =>
    intro a ha N h
    have e : a = z := by omega
    subst e
    exact h
  | succ n ih =>
    intro a ha N h
    rw [k_it_s]
    refine ih (a + 1) (by omega) _ ?_
    refine (w_bdL (t := t) hz (show a < z by omega) (fun b hb => hd a b (by omega) hb) z 0 (by omega) N (h.cg fun x => ⟨fun p => ⟨p, fun j hj => absurd hj (Nat.not_lt_zero j)⟩, fun p => p.1⟩)).cg fun x => ?_
    constructor
    · rintro ⟨⟨p1, p2⟩, p3⟩
      refine ⟨p1, fun i j hi hj => ?_⟩
      by_cases e : i = a
      · subst e; exact p3 j hj
      · exact p2 i j (by omega) hj
    · rintro ⟨p1, p2⟩
      exact ⟨⟨p1, fun i j hi hj => p2 i j (by omega) hj⟩, fun j hj => p2 a j (by omega) hj⟩
theorem g_mp_e {M N : fp_M} {t z : Nat} (hz : z ≤ 8) (h : g_e M N) : g_e M (g_mp B t z N) := by
  unfold g_mp
  refine g_e_it (N := z) (fun a m ha hm => ?_) z 0 N (by omega) h
  exact g_e_it (N := z) (fun b m' hb hm' => g_bind_e hm' (by omega) (by omega)) z 0 m (by omega) hm
theorem w_maps (R : w_Rc A B c) {s : Int32} : w_St A B (sp_maps A c s) (sg_maps B c s) := by
  unfold sp_maps sg_maps
  rcases w_place R (s := s) with ⟨h1, h2, h3, z, z1, z2, z3, z6, hN⟩ | ⟨w, w1, w2, w3⟩
  · rw [if_pos h1, if_pos h2]
    have ez : k_v (nI z) = z := nI_clamp (by omega)
    rw [z2, z3, ez]
    have hw := w_gwf R.1 R.2.1
    have eA : w_a A (k_maps A c (k_v s) z) := (k_maps_ech A c (k_v s) z).wa
    have eG : g_e B (g_maps B c (k_v s) z) := g_fol_e (g_mp_e z1 (g_lay_e hw))
    have J1 : q_J (k_maps A c (k_v s) z) (fun x => w_P A c (A 1 2) (k_cn A c) x ∧ ∀ j, 1 ≤ j → j < z → x j - x 0 = (A (k_sn s) j).toInt - (A (k_sn s) 0).toInt) := by
      unfold k_maps
      have J0 := w_kJ R.1 R.2.1 R.2.1.1 (k_cn A c)
      by_cases q : z = 0
      · subst q
        exact J0.cg fun x => ⟨fun p => ⟨p, fun j a b => absurd b (Nat.not_lt_zero j)⟩, fun p => p.1⟩
      · refine w_mpJ z z1 (fun t ht => ⟨q_sub rfl rfl ?_, ?_⟩) (z - 1) 1 (Nat.le_refl 1) (by omega) _ (J0.cg fun x => ⟨fun p => ⟨p, fun j a b => absurd a (by omega)⟩, fun p => p.1⟩)
        · have := hN t 0 ht (by omega)
          have e : (A (42 + 2 * k_v s) t).toInt = (A (k_sn s) t).toInt := rfl
          have e0 : (A (42 + 2 * k_v s) 0).toInt = (A (k_sn s) 0).toInt := rfl
          omega
        · exact (hN t 0 ht (by omega)).1
    have L1 : q_L (g_mp B (k_v s) z (g_lay B c (g_cn B c))) (fun x => w_P A c (A 1 2) (k_cn A c) x ∧ ∀ i j, i < z → j < z → x j - x i ≤ (A (k_sn s) j).toInt - (A (k_sn s) i).toInt) := by
      unfold g_mp
      have L0 := w_gL R.1 R.2.1 (k_cn A c)
      rw [show g_cn B c = k_cn A c from w_cn R.1]
      refine w_mpL (t := k_v s) (d := fun i => (A (k_sn s) i).toInt) z1 (fun a b ha hb => ?_) z 0 (by omega) _ (L0.cg fun x => ⟨fun p => ⟨p, fun i j hi _ => absurd hi (Nat.not_lt_zero i)⟩, fun p => p.1⟩)
      have n1 := hN b a hb ha
      refine ⟨?_, n1.1⟩
      rw [Int64.toInt_toInt32, w_told, ← z6 a (by omega), ← z6 b (by omega)]
      exact Int.bmod_eq_of_le (by omega) (by omega)
    have S := (q_same J1 L1 (fun x => by
      constructor
      · rintro ⟨p1, p2⟩
        refine ⟨p1, fun i j hi hj => ?_⟩
        by_cases i0 : i = 0
        · by_cases j0 : j = 0
          · subst i0; subst j0; omega
          · have := p2 j (by omega) hj
            subst i0
            omega
        · by_cases j0 : j = 0
          · have := p2 i (by omega) hi
            subst j0
            omega
          · have r1 := p2 i (by omega) hi
            have r2 := p2 j (by omega) hj
            omega
      · rintro ⟨p1, p2⟩
        refine ⟨p1, fun j j1 hj => ?_⟩
        have r1 := p2 0 j (by omega) hj
        have r2 := p2 j 0 hj (by omega)
        omega)).1
    refine ⟨?_, (R.cg eA eG.wb).r, (k_maps_ech A c (k_v s) z).wc, eG.wg⟩
    show (if k_maps A c (k_v s) z 34 0 = 0 then (0 : Int32) else 1) = if g_ok (g_fol (g_mp B (k_v s) z (g_lay B c (g_cn B c)))) = 0 then 0 else 1
    by_cases q : k_maps A c (k_v s) z 34 0 = 0
    · rw [if_pos q, if_pos (Classical.byContradiction fun w => S.mpr w q)]
    · rw [if_neg q, if_neg (S.mp q)]
  · obtain ⟨a1, a2, a3, a4, a5⟩ := w_nIne w1
    rw [w2, w3, if_neg a1, if_neg a2, a3, a4]
    exact w_fd0 R.r w1 a5
end WJ2
