/-! ===== both offices, told the same ===== -/
def w_O (A B : fp_M) (o r c : Nat) : Prop := c ≤ 8 ∧ A o 1 = nI c ∧ B r 0 = nI c ∧ A o 4 = B r 1 ∧ A o 2 = B r 2 ∧ A o 3 = B r 3 ∧ A o 5 = B r 4 ∧ (∀ i, i < c → ∀ f, f < 6 → A (o + 2 + i) f = B r (5 + 6 * i + f)) ∧ (∀ k, k < 10 → A (o + 10) k = B r (53 + k))
/-- a letter as it may be -/
def w_l (a : Nat → Int32) : Prop := (0 ≤ a 0 ∧ a 0 ≤ 6) ∧ (∃ f t : Nat, f < 8 ∧ t < 8 ∧ ¬ f = t ∧ a 1 = nI f ∧ a 2 = nI t) ∧ (-99 ≤ a 3 ∧ a 3 ≤ 99) ∧ (a 5 = 0 ∨ a 5 = 1)
def w_v (A : fp_M) (o c : Nat) : Prop := (0 ≤ A o 2 ∧ A o 2 ≤ 9) ∧ (∀ i, i < c → w_l (A (o + 2 + i))) ∧ (∀ k, k < 10 → A (o + 10) k = -1 ∨ ∃ j, j < c ∧ A (o + 10) k = nI j)
def w_K (A B : fp_M) : Prop := A 0 3 = B 49 3 ∧ (A 0 3 = 0 ∨ A 0 3 = 1) ∧ (¬ A 0 3 = 0 → ∃ c, w_O A B 23 51 c ∧ w_v A 23 c)
def w_T (A B : fp_M) : Prop := ∃ z : Nat, z ≤ 120 ∧ A 37 0 = nI z ∧ B 49 6 = nI z ∧ ∀ i, i < z → A 38 i = B 54 i ∧ 0 ≤ B 54 i
def w_s (A B : fp_M) (k : Nat) : Prop := ∃ s : Nat, s ≤ 40 ∧ A (41 + 2 * k) 1 = nI s ∧ B 56 k = nI s ∧ (A (41 + 2 * k) 0 = 0 ∨ A (41 + 2 * k) 0 = 8 ∨ A (41 + 2 * k) 0 = 16 ∨ A (41 + 2 * k) 0 = 32) ∧ (B 55 k = if A (41 + 2 * k) 0 = 0 then -1 else A (41 + 2 * k) 0) ∧ ∀ i, i < 40 → A (42 + 2 * k) i = B 57 (40 * k + i)
def w_F (A B : fp_M) : Prop := (∀ w, w < 7 → A 40 w = B 53 (w + 1)) ∧ B 53 0 = k_all A
/-- all that later answers hang on -/
def w_Rc (A B : fp_M) (c : Nat) : Prop := w_O A B 1 50 c ∧ w_v A 1 c ∧ w_K A B ∧ w_T A B ∧ (∀ k, k < 4 → w_s A B k) ∧ w_F A B
def w_R (A B : fp_M) : Prop := ∃ c, w_Rc A B c
def w_a (A A' : fp_M) : Prop := ∀ k j, k < 49 → ¬ k = 34 → ¬ k = 35 → ¬ k = 36 → A' k j = A k j
def w_b (B B' : fp_M) : Prop := ∀ k j, 49 ≤ k → ¬ k = 58 → ¬ (k = 49 ∧ 11 ≤ j) → ¬ k = 52 → B' k j = B k j
theorem w_a.rf (A : fp_M) : w_a A A := fun _ _ _ _ _ _ => rfl
theorem w_b.rf (B : fp_M) : w_b B B := fun _ _ _ _ _ _ => rfl
theorem w_a.tr {A B C : fp_M} (h : w_a A B) (h2 : w_a B C) : w_a A C := fun k j a b d e => (h2 k j a b d e).trans (h k j a b d e)
theorem w_b.tr {A B C : fp_M} (h : w_b A B) (h2 : w_b B C) : w_b A C := fun k j a b d e => (h2 k j a b d e).trans (h k j a b d e)
theorem k_eg.wa {A A' : fp_M} (h : k_eg A A') : w_a A A' := fun k j _ b d e => h k j b d e
theorem k_ech.wa {A A' : fp_M} (h : k_ech A A') : w_a A A' := h.eg.wa
theorem g_x.wb {B B' : fp_M} (h : g_x B B') : w_b B B' := fun k j _ b d e => h k j b d e
theorem g_e.wb {B B' : fp_M} (h : g_e B B') : w_b B B' := h.x.wb
theorem k_all_cg {A A' : fp_M} (h : ∀ w, w < 7 → A' 40 w = A 40 w) : k_all A' = k_all A := by
  unfold k_all
  refine k_it_cg 7 0 (fun j _ hj s => ?_) 0
  rw [h j (by omega)]
theorem w_O.cg {A A' B B' : fp_M} {o r c : Nat} (h : w_O A B o r c) (ha : ∀ k j, o ≤ k → k < o + 11 → A' k j = A k j) (hb : ∀ j, B' r j = B r j) : w_O A' B' o r c := by
  obtain ⟨h1, h2, h3, h4, h5, h6, h7, h8, h9⟩ := h
  refine ⟨h1, (ha _ _ (by omega) (by omega)).trans h2, (hb _).trans h3, ?_, ?_, ?_, ?_, fun i hi f hf => ?_, fun k hk => ?_⟩
  · rw [ha _ _ (by omega) (by omega), hb]; exact h4
  · rw [ha _ _ (by omega) (by omega), hb]; exact h5
  · rw [ha _ _ (by omega) (by omega), hb]; exact h6
  · rw [ha _ _ (by omega) (by omega), hb]; exact h7
  · rw [ha _ _ (by omega) (by omega), hb]; exact h8 i hi f hf
  · rw [ha _ _ (by omega) (by omega), hb]; exact h9 k hk
theorem w_v.cg {A A' : fp_M} {o c : Nat} (h : w_v A o c) (hc : c ≤ 8) (ha : ∀ k j, o ≤ k → k < o + 11 → A' k j = A k j) : w_v A' o c := by
  obtain ⟨h1, h2, h3⟩ := h
  refine ⟨by rw [ha _ _ (by omega) (by omega)]; exact h1, fun i hi => ?_, fun k hk => ?_⟩
  · have e : A' (o + 2 + i) = A (o + 2 + i) := funext fun j => ha _ _ (by omega) (by omega)
    rw [e]; exact h2 i hi
  · rw [ha _ _ (by omega) (by omega)]; exact h3 k hk
theorem w_K.cg {A A' B B' : fp_M} (h : w_K A B) (ha : ∀ k j, 23 ≤ k → k < 34 → A' k j = A k j) (h0 : A' 0 3 = A 0 3) (hb : ∀ j, B' 51 j = B 51 j) (hb3 : B' 49 3 = B 49 3) : w_K A' B' := by
  obtain ⟨h1, h2, h3⟩ := h
  unfold w_K
  rw [h0, hb3]
  refine ⟨h1, h2, fun q => ?_⟩
  obtain ⟨c, c1, c2⟩ := h3 q
  exact ⟨c, c1.cg (fun k j a b => ha k j a (by omega)) hb, c2.cg c1.1 (fun k j a b => ha k j a (by omega))⟩
theorem w_T.cg {A A' B B' : fp_M} (h : w_T A B) (h0 : A' 37 0 = A 37 0) (h8 : ∀ i, A' 38 i = A 38 i) (hb6 : B' 49 6 = B 49 6) (hb : ∀ i, B' 54 i = B 54 i) : w_T A' B' := by
  obtain ⟨z, h1, h2, h3, h4⟩ := h
  refine ⟨z, h1, h0.trans h2, hb6.trans h3, fun i hi => ?_⟩
  rw [h8, hb]; exact h4 i hi
theorem w_s.cg {A A' B B' : fp_M} {k : Nat} (h : w_s A B k) (h1 : ∀ j, A' (41 + 2 * k) j = A (41 + 2 * k) j) (h2 : ∀ j, A' (42 + 2 * k) j = A (42 + 2 * k) j) (h5 : B' 55 k = B 55 k) (h6 : B' 56 k = B 56 k) (h7 : ∀ i, i < 40 → B' 57 (40 * k + i) = B 57 (40 * k + i)) : w_s A' B' k := by
  obtain ⟨s, a1, a2, a3, a4, a5, a6⟩ := h
  refine ⟨s, a1, (h1 1).trans a2, h6.trans a3, ?_, ?_, fun i hi => ?_⟩
  · rw [h1]; exact a4
  · rw [h1, h5]; exact a5
  · rw [h2, h7 i hi]; exact a6 i hi
theorem w_F.cg {A A' B B' : fp_M} (h : w_F A B) (ha : ∀ w, A' 40 w = A 40 w) (hb : ∀ j, B' 53 j = B 53 j) : w_F A' B' := by
  refine ⟨fun w hw => ?_, ?_⟩
  · rw [ha, hb]; exact h.1 w hw
  · rw [hb, k_all_cg (fun w _ => ha w)]; exact h.2
theorem w_Rc.cg {A A' B B' : fp_M} {c : Nat} (h : w_Rc A B c) (ha : w_a A A') (hb : w_b B B') : w_Rc A' B' c := by
  obtain ⟨h1, h2, h3, h4, h5, h6⟩ := h
  have a : ∀ k j, k < 34 → A' k j = A k j := fun k j q => ha k j (by omega) (by omega) (by omega) (by omega)
  have b : ∀ k j, 50 ≤ k → k < 58 → ¬ k = 52 → B' k j = B k j := fun k j q q2 q3 => hb k j (by omega) (by omega) (by omega) q3
  refine ⟨h1.cg (fun k j _ q => a k j (by omega)) (fun j => b 50 j (by decide) (by decide) (by decide)), h2.cg h1.1 (fun k j _ q => a k j (by omega)), h3.cg (fun k j _ q => a k j q) (a 0 3 (by decide)) (fun j => b 51 j (by decide) (by decide) (by decide)) (hb 49 3 (by decide) (by decide) (by decide) (by decide)), h4.cg (ha 37 0 (by decide) (by decide) (by decide) (by decide)) (fun i => ha 38 i (by decide) (by decide) (by decide) (by decide)) (hb 49 6 (by decide) (by decide) (by decide) (by decide)) (fun i => b 54 i (by decide) (by decide) (by decide)), fun k hk => (h5 k hk).cg (fun j => ha _ j (by omega) (by omega) (by omega) (by omega)) (fun j => ha _ j (by omega) (by omega) (by omega) (by omega)) (b 55 k (by decide) (by decide) (by decide)) (b 56 k (by decide) (by decide) (by decide)) (fun i _ => b 57 _ (by decide) (by decide) (by decide)), h6.cg (fun w => ha 40 w (by decide) (by decide) (by decide) (by decide)) (fun j => b 53 j (by decide) (by decide) (by decide))⟩
theorem w_R.cg {A A' B B' : fp_M} (h : w_R A B) (ha : w_a A A') (hb : w_b B B') : w_R A' B' := by
  obtain ⟨c, h⟩ := h
  exact ⟨c, h.cg ha hb⟩
/-- what neither call touches -/
def w_c (A A' : fp_M) : Prop := ∀ k j, 49 ≤ k → A' k j = A k j
def w_g (B B' : fp_M) : Prop := ∀ k j, k < 49 → B' k j = B k j
theorem w_c.rf (A : fp_M) : w_c A A := fun _ _ _ => rfl
theorem w_g.rf (A : fp_M) : w_g A A := fun _ _ _ => rfl
theorem w_c.tr {A B C : fp_M} (h : w_c A B) (h2 : w_c B C) : w_c A C := fun k j a => (h2 k j a).trans (h k j a)
theorem w_g.tr {A B C : fp_M} (h : w_g A B) (h2 : w_g B C) : w_g A C := fun k j a => (h2 k j a).trans (h k j a)
theorem w_c.wr {A N : fp_M} {k j : Nat} {v : Int32} (h : w_c A N) (hk : k < 49) : w_c A (fp_wr N k j v) := fun k' j' q => (fp_wr_ne (by omega)).trans (h k' j' q)
theorem w_g.wr {A N : fp_M} {k j : Nat} {v : Int32} (h : w_g A N) (hk : 49 ≤ k) : w_g A (fp_wr N k j v) := fun k' j' q => (fp_wr_ne (by omega)).trans (h k' j' q)
theorem k_ech.wc {A A' : fp_M} (h : k_ech A A') : w_c A A' := fun k j q => h k j (by omega) (by omega)
theorem k_eg.wc {A A' : fp_M} (h : k_eg A A') : w_c A A' := fun k j q => h k j (by omega) (by omega) (by omega)
theorem g_e.wg {A A' : fp_M} (h : g_e A A') : w_g A A' := fun k j q => h k j (by omega)
theorem g_x.wg {A A' : fp_M} (h : g_x A A') : w_g A A' := fun k j q => h k j (by omega) (by omega) (by omega)
theorem w_c.fd {A N : fp_M} {w : Nat} (h : w_c A N) : w_c A (k_fd N w) := h.wr (by decide)
theorem w_g.fd {A N : fp_M} {w : Nat} (h : w_g A N) : w_g A (g_fd N w) := (h.wr (by decide)).wr (by decide)
/-- one call of each: answers alike, all is told the same behind it -/
def w_St {α : Type} (A B : fp_M) (a b : α × fp_M) : Prop := a.1 = b.1 ∧ w_R a.2 b.2 ∧ w_c A a.2 ∧ w_g B b.2
/-- a finding on both sides -/
theorem k_all_fd : ∀ (A : fp_M) (w : Nat), w < 7 → k_all (k_fd A w) = k_all A + 1 := by
  intro A w hw
  have e : ∀ N : fp_M, k_all N = 0 + N 40 0 + N 40 1 + N 40 2 + N 40 3 + N 40 4 + N 40 5 + N 40 6 := fun N => rfl
  have r : ∀ j, k_fd A w 40 j = if j = w then A 40 w + 1 else A 40 j := by
    intro j
    unfold k_fd fp_wr
    by_cases q : j = w
    · subst q; simp
    · simp [q]
  rw [e, e]
  simp only [r]
  match w, hw with
  | 0, _ => simp only [if_pos, Nat.reduceEqDiff, if_false, reduceIte]; ac_rfl
  | 1, _ => simp only [Nat.reduceEqDiff, if_false, reduceIte]; ac_rfl
  | 2, _ => simp only [Nat.reduceEqDiff, if_false, reduceIte]; ac_rfl
  | 3, _ => simp only [Nat.reduceEqDiff, if_false, reduceIte]; ac_rfl
  | 4, _ => simp only [Nat.reduceEqDiff, if_false, reduceIte]; ac_rfl
  | 5, _ => simp only [Nat.reduceEqDiff, if_false, reduceIte]; ac_rfl
  | 6, _ => simp only [Nat.reduceEqDiff, if_false, reduceIte]; ac_rfl
theorem w_R.fd {A B : fp_M} {w : Nat} (h : w_R A B) (hw : w < 7) : w_R (k_fd A w) (g_fd B w) := by
  obtain ⟨c, h1, h2, h3, h4, h5, h6, h7⟩ := h
  have a : ∀ k j, ¬ k = 40 → k_fd A w k j = A k j := fun k j q => fp_wr_ne q
  have b : ∀ k j, ¬ k = 53 → g_fd B w k j = B k j := fun k j q => (fp_wr_ne q).trans (fp_wr_ne q)
  refine ⟨c, h1.cg (fun k j _ q => a k j (by omega)) (fun j => b _ j (by decide)), h2.cg h1.1 (fun k j _ q => a k j (by omega)), h3.cg (fun k j _ q => a k j (by omega)) (a 0 3 (by decide)) (fun j => b _ j (by decide)) (b 49 3 (by decide)), h4.cg (a 37 0 (by decide)) (fun i => a 38 i (by decide)) (b 49 6 (by decide)) (fun i => b 54 i (by decide)), fun k hk => (h5 k hk).cg (fun j => a _ j (by omega)) (fun j => a _ j (by omega)) (b 55 k (by decide)) (b 56 k (by decide)) (fun i _ => b 57 _ (by decide)), fun v hv => ?_, ?_⟩
  · have e1 : g_fd B w 53 (v + 1) = if v = w then B 53 (w + 1) + 1 else B 53 (v + 1) := by
      unfold g_fd fp_wr
      by_cases q : v = w
      · subst q; simp
      · rw [if_neg (by omega), if_neg (by omega), if_neg q]
    have e2 : k_fd A w 40 v = if v = w then A 40 w + 1 else A 40 v := by
      unfold k_fd fp_wr
      by_cases q : v = w
      · subst q; simp
      · rw [if_neg (by omega), if_neg q]
    rw [e1, e2, h6 w hw, h6 v hv]
  · have e1 : g_fd B w 53 0 = B 53 0 + 1 := by
      unfold g_fd fp_wr
      rw [if_neg (by omega), if_pos ⟨rfl, rfl⟩]
    rw [e1, h7, k_all_fd A w hw]
theorem w_fd {A B N G : fp_M} {w : Nat} {u v : Int32} (h : w_R N G) (hc : w_c A N) (hg : w_g B G) (hw : w < 7) (hv : u = v) : w_St A B ((u, k_fd N w) : Int32 × fp_M) (v, g_fd G w) := ⟨hv, h.fd hw, hc.fd, hg.fd⟩
theorem w_fd0 {A B : fp_M} {w : Nat} {u v : Int32} (h : w_R A B) (hw : w < 7) (hv : u = v) : w_St A B ((u, k_fd A w) : Int32 × fp_M) (v, g_fd B w) := w_fd h (w_c.rf A) (w_g.rf B) hw hv
theorem w_Rc.r {A B : fp_M} {c : Nat} (h : w_Rc A B c) : w_R A B := ⟨c, h⟩
theorem w_St.id {A B : fp_M} {u v : Int32} (h : w_R A B) (hv : u = v) : w_St A B ((u, A) : Int32 × fp_M) (v, B) := ⟨hv, h, w_c.rf A, w_g.rf B⟩
/-- well formed on both sides -/
theorem w_kwf {A B : fp_M} {o r c : Nat} (h : w_O A B o r c) (v : w_v A o c) : k_wf A o c := by
  refine ⟨h.1, h.2.1, fun i hi => ?_⟩
  obtain ⟨-, ⟨f, t, a, b, -, d, e⟩, -, g⟩ := v.2.1 i hi
  exact ⟨f, t, a, b, d, e, g⟩
theorem w_gwf {A B : fp_M} {o c : Nat} (h : w_O A B o 50 c) (v : w_v A o c) : g_wf B c := by
  obtain ⟨h1, h2, h3, -, -, -, -, h8, -⟩ := h
  refine ⟨h1, h3, fun i hi => ?_⟩
  obtain ⟨-, ⟨f, t, a, b, -, d, e⟩, -, g⟩ := v.2.1 i hi
  refine ⟨f, t, a, b, ?_, ?_, ?_⟩
  · rw [← h8 i hi 1 (by decide)]; exact d
  · rw [← h8 i hi 2 (by decide)]; exact e
  · rw [← h8 i hi 5 (by decide)]; exact g
/-- letters are told alike -/
theorem w_O.l {A B : fp_M} {c i f : Nat} (h : w_O A B 1 50 c) (hi : i < c) (hf : f < 6) : B 50 (5 + 6 * i + f) = A (3 + i) f := (h.2.2.2.2.2.2.2.1 i hi f hf).symm
theorem w_least {A B : fp_M} {c i : Nat} (h : w_O A B 1 50 c) (hi : i < c) : g_least B i = k_least (A (3 + i) 0) (A (3 + i) 3) (A 1 2) := by
  show k_least (B 50 (5 + 6 * i + 0)) (B 50 (5 + 6 * i + 3)) (B 50 2) = _
  rw [h.l hi (by decide), h.l hi (by decide), ← h.2.2.2.2.1]
theorem w_most {A B : fp_M} {c i : Nat} (h : w_O A B 1 50 c) (hi : i < c) : g_most B i = k_most (A (3 + i) 0) (A (3 + i) 3) (A 1 2) := by
  show k_most (B 50 (5 + 6 * i + 0)) (B 50 (5 + 6 * i + 3)) (B 50 2) = _
  rw [h.l hi (by decide), h.l hi (by decide), ← h.2.2.2.2.1]
theorem w_come {A B : fp_M} {c i : Nat} (h : w_O A B 1 50 c) (hi : i < c) : g_come B i = k_comes (A (3 + i) 0) (A (3 + i) 4) (A (3 + i) 3) (A 1 3) := by
  show k_comes (B 50 (5 + 6 * i + 0)) (B 50 (5 + 6 * i + 4)) (B 50 (5 + 6 * i + 3)) (B 50 3) = _
  rw [h.l hi (by decide), h.l hi (by decide), h.l hi (by decide), ← h.2.2.2.2.2.1]
theorem w_con {A B : fp_M} {c : Nat} (h : w_O A B 1 50 c) (d : Int32) : g_con B d c = k_con A 1 c d := by
  refine k_bn_cg c fun i hi => ?_
  show decide (B 50 (5 + 6 * i + 5) = 0 ∧ g_come B i ≤ d) = decide (k_cnt A (3 + i) (A 1 3) d)
  rw [h.l hi (by decide), w_come h hi]
theorem w_lat {A B : fp_M} {c : Nat} (h : w_O A B 1 50 c) : g_lat B (B 50 1) c = k_tco A 1 c := by
  refine k_bn_cg c fun i hi => ?_
  show decide (B 50 1 < g_come B i) = decide (A 1 4 < k_comes (A (3 + i) 0) (A (3 + i) 4) (A (3 + i) 3) (A 1 3))
  rw [w_come h hi, h.2.2.2.1]
theorem w_str {A B : fp_M} {c : Nat} (h : w_O A B 1 50 c) : g_str B c = k_str A 1 c := by
  refine k_bn_cg c fun i hi => ?_
  show decide (B 50 (5 + 6 * i + 5) = 1) = decide (A (3 + i) 5 = 1)
  rw [h.l hi (by decide)]
theorem w_days {A B : fp_M} {c : Nat} (h : w_O A B 1 50 c) : ∀ n, n ≤ c → g_days B n = k_days A 1 n := by
  intro n
  induction n with
  | zero => exact fun _ => rfl
  | succ n ih =>
    intro hn
    show g_days B n + B 50 (5 + 6 * n + 3) = k_days A 1 n + A (3 + n) 3
    rw [ih (by omega), h.l (by omega) (by decide)]
theorem w_held {A B : fp_M} {c : Nat} (h : w_O A B 1 50 c) (v : w_v A 1 c) : ∀ n, n ≤ 10 → g_held B n = k_held A 1 n := by
  intro n
  induction n with
  | zero => exact fun _ => rfl
  | succ n ih =>
    intro hn
    show g_held B n + (if 0 ≤ B 50 (53 + n) then 1 else 0) = (if A 11 n = -1 then k_held A 1 n else k_held A 1 n + 1)
    rw [ih (by omega), ← h.2.2.2.2.2.2.2.2 n (by omega)]
    have hc := h.1
    rcases v.2.2 n (by omega) with q | ⟨j, j1, j2⟩
    · rw [show A 11 n = -1 from q, if_neg (by decide), if_pos rfl, Int32.add_zero]
    · rw [show A 11 n = nI j from j2, if_pos (nI_pos' (by omega)), if_neg ?_]
      intro q
      have := congrArg Int32.toInt q
      rw [nI_toInt (by omega)] at this
      simp only [Int32.reduceToInt] at this
      omega
theorem w_cn {A B : fp_M} {c : Nat} (h : w_O A B 1 50 c) : nI (g_con B (B 50 1 + 0) c) = k_cn A c := by
  rw [Int32.add_zero, ← h.2.2.2.1, w_con h]
theorem w_dn {A B : fp_M} {c n : Nat} (h : w_O A B 1 50 c) : g_dn B c n = k_set A c n := by
  show nI (g_con B (B 50 1 + nI n) c) = _
  rw [← h.2.2.2.1, w_con h]
