/-! ===== calls told alike 1 ===== -/
/-- the present office alone is new -/
theorem w_upd {A B A' B' : fp_M} {c c' : Nat} (R : w_Rc A B c) (O' : w_O A' B' 1 50 c') (v' : w_v A' 1 c') (ha : ∀ k j, ¬ (1 ≤ k ∧ k < 12) → A' k j = A k j) (hb : ∀ k j, ¬ k = 50 → B' k j = B k j) : w_Rc A' B' c' := by
  obtain ⟨-, -, h3, h4, h5, h6⟩ := R
  exact ⟨O', v', h3.cg (fun k j _ q => ha k j (by omega)) (ha 0 3 (by omega)) (fun j => hb _ j (by decide)) (hb 49 3 (by decide)), h4.cg (ha 37 0 (by omega)) (fun i => ha 38 i (by omega)) (hb 49 6 (by decide)) (fun i => hb 54 i (by decide)), fun k hk => (h5 k hk).cg (fun j => ha _ j (by omega)) (fun j => ha _ j (by omega)) (hb 55 k (by decide)) (hb 56 k (by decide)) (fun i _ => hb 57 _ (by decide)), h6.cg (fun w => ha 40 w (by omega)) (fun j => hb 53 j (by decide))⟩
theorem w_updS {A B A' B' : fp_M} {c c' : Nat} {u v : Int32} (R : w_Rc A B c) (O' : w_O A' B' 1 50 c') (v' : w_v A' 1 c') (ha : ∀ k j, ¬ (1 ≤ k ∧ k < 12) → A' k j = A k j) (hb : ∀ k j, ¬ k = 50 → B' k j = B k j) (e : u = v) : w_St A B ((u, A') : Int32 × fp_M) (v, B') := ⟨e, ⟨c', w_upd R O' v' ha hb⟩, fun k j q => ha k j (by omega), fun k j q => hb k j (by omega)⟩
theorem w_O.wf {A B : fp_M} {o r c ja jb : Nat} {v : Int32} (h : w_O A B o r c) (hj : (ja = 4 ∧ jb = 1) ∨ (ja = 2 ∧ jb = 2) ∨ (ja = 3 ∧ jb = 3) ∨ (ja = 5 ∧ jb = 4)) : w_O (fp_wr A o ja v) (fp_wr B r jb v) o r c := by
  obtain ⟨h1, h2, h3, h4, h5, h6, h7, h8, h9⟩ := h
  refine ⟨h1, ?_, ?_, ?_, ?_, ?_, ?_, fun i hi f hf => ?_, fun k hk => ?_⟩
  · rw [fp_wr_ne2 (by omega)]; exact h2
  · rw [fp_wr_ne2 (by omega)]; exact h3
  · rcases hj with ⟨rfl, rfl⟩ | ⟨rfl, rfl⟩ | ⟨rfl, rfl⟩ | ⟨rfl, rfl⟩ <;> first | (rw [fp_wr_eq, fp_wr_eq]; done) | (rw [fp_wr_ne2 (by decide), fp_wr_ne2 (by decide)]; exact h4)
  · rcases hj with ⟨rfl, rfl⟩ | ⟨rfl, rfl⟩ | ⟨rfl, rfl⟩ | ⟨rfl, rfl⟩ <;> first | (rw [fp_wr_eq, fp_wr_eq]; done) | (rw [fp_wr_ne2 (by decide), fp_wr_ne2 (by decide)]; exact h5)
  · rcases hj with ⟨rfl, rfl⟩ | ⟨rfl, rfl⟩ | ⟨rfl, rfl⟩ | ⟨rfl, rfl⟩ <;> first | (rw [fp_wr_eq, fp_wr_eq]; done) | (rw [fp_wr_ne2 (by decide), fp_wr_ne2 (by decide)]; exact h6)
  · rcases hj with ⟨rfl, rfl⟩ | ⟨rfl, rfl⟩ | ⟨rfl, rfl⟩ | ⟨rfl, rfl⟩ <;> first | (rw [fp_wr_eq, fp_wr_eq]; done) | (rw [fp_wr_ne2 (by decide), fp_wr_ne2 (by decide)]; exact h7)
  · rw [fp_wr_ne (by omega), fp_wr_ne2 (by omega)]; exact h8 i hi f hf
  · rw [fp_wr_ne (by omega), fp_wr_ne2 (by omega)]; exact h9 k hk
theorem w_v.wf {A : fp_M} {o c ja : Nat} {v : Int32} (h : w_v A o c) (h2 : ja = 2 → 0 ≤ v ∧ v ≤ 9) : w_v (fp_wr A o ja v) o c := by
  refine ⟨?_, fun i hi => ?_, fun k hk => ?_⟩
  · by_cases q : ja = 2
    · subst q; rw [fp_wr_eq]; exact h2 rfl
    · rw [fp_wr_ne2 (fun z => q z.symm)]; exact h.1
  · rw [fp_wr_row (by omega)]; exact h.2.1 i hi
  · rw [fp_wr_ne (by omega)]; exact h.2.2 k hk
theorem w_O.wl {A B : fp_M} {o r c i f : Nat} {v : Int32} (h : w_O A B o r c) (hi : i < c) (hf : f < 6) : w_O (fp_wr A (o + 2 + i) f v) (fp_wr B r (5 + 6 * i + f) v) o r c := by
  obtain ⟨h1, h2, h3, h4, h5, h6, h7, h8, h9⟩ := h
  refine ⟨h1, ?_, ?_, ?_, ?_, ?_, ?_, fun i' hi' f' hf' => ?_, fun k hk => ?_⟩
  · rw [fp_wr_ne (by omega)]; exact h2
  · rw [fp_wr_ne2 (by omega)]; exact h3
  · rw [fp_wr_ne (by omega), fp_wr_ne2 (by omega)]; exact h4
  · rw [fp_wr_ne (by omega), fp_wr_ne2 (by omega)]; exact h5
  · rw [fp_wr_ne (by omega), fp_wr_ne2 (by omega)]; exact h6
  · rw [fp_wr_ne (by omega), fp_wr_ne2 (by omega)]; exact h7
  · by_cases q : i' = i ∧ f' = f
    · obtain ⟨rfl, rfl⟩ := q
      rw [fp_wr_eq, fp_wr_eq]
    · rw [fp_wr_ne2 (show ¬ 5 + 6 * i' + f' = 5 + 6 * i + f by omega), ← h8 i' hi' f' hf']
      by_cases q2 : i' = i
      · exact fp_wr_ne2 (fun z => q ⟨q2, z⟩)
      · exact fp_wr_ne (by omega)
  · rw [fp_wr_ne (by omega), fp_wr_ne2 (by omega)]; exact h9 k hk
theorem w_v.wl {A : fp_M} {o c i f : Nat} {v : Int32} (h : w_v A o c) (hc : c ≤ 8) (hi : i < c) (hl : w_l (fun j => if j = f then v else A (o + 2 + i) j)) : w_v (fp_wr A (o + 2 + i) f v) o c := by
  refine ⟨?_, fun i' hi' => ?_, fun k hk => ?_⟩
  · rw [fp_wr_ne (by omega)]; exact h.1
  · by_cases q : i' = i
    · subst q
      have e : fp_wr A (o + 2 + i') f v (o + 2 + i') = fun j => if j = f then v else A (o + 2 + i') j := by
        funext j
        show (if o + 2 + i' = o + 2 + i' ∧ j = f then v else A (o + 2 + i') j) = _
        by_cases z : j = f
        · rw [if_pos ⟨rfl, z⟩, if_pos z]
        · rw [if_neg (fun w => z w.2), if_neg z]
      rw [e]; exact hl
    · rw [fp_wr_row (by omega)]; exact h.2.1 i' hi'
  · rw [fp_wr_ne (by omega)]; exact h.2.2 k hk
theorem w_O.ws {A B : fp_M} {o r c k : Nat} {v : Int32} (h : w_O A B o r c) (hk : k < 10) : w_O (fp_wr A (o + 10) k v) (fp_wr B r (53 + k) v) o r c := by
  obtain ⟨h1, h2, h3, h4, h5, h6, h7, h8, h9⟩ := h
  refine ⟨h1, ?_, ?_, ?_, ?_, ?_, ?_, fun i' hi' f' hf' => ?_, fun k' hk' => ?_⟩
  · rw [fp_wr_ne (by omega)]; exact h2
  · rw [fp_wr_ne2 (by omega)]; exact h3
  · rw [fp_wr_ne (by omega), fp_wr_ne2 (by omega)]; exact h4
  · rw [fp_wr_ne (by omega), fp_wr_ne2 (by omega)]; exact h5
  · rw [fp_wr_ne (by omega), fp_wr_ne2 (by omega)]; exact h6
  · rw [fp_wr_ne (by omega), fp_wr_ne2 (by omega)]; exact h7
  · rw [fp_wr_ne (by omega), fp_wr_ne2 (by omega)]; exact h8 i' hi' f' hf'
  · by_cases q : k' = k
    · subst q
      rw [fp_wr_eq, fp_wr_eq]
    · rw [fp_wr_ne2 q, fp_wr_ne2 (by omega)]; exact h9 k' hk'
theorem w_v.ws {A : fp_M} {o c k : Nat} {v : Int32} (h : w_v A o c) (hc : c ≤ 8) (hv : v = -1 ∨ ∃ j, j < c ∧ v = nI j) : w_v (fp_wr A (o + 10) k v) o c := by
  refine ⟨?_, fun i' hi' => ?_, fun k' hk' => ?_⟩
  · rw [fp_wr_ne (by omega)]; exact h.1
  · rw [fp_wr_row (by omega)]; exact h.2.1 i' hi'
  · by_cases q : k' = k
    · subst q; rw [fp_wr_eq]; exact hv
    · rw [fp_wr_ne2 q]; exact h.2.2 k' hk'
/-- the numbers of a new letter -/
def w_ln (v0 v1 v2 v3 v4 : Int32) : Nat → Int32
  | 0 => v0
  | 1 => v1
  | 2 => v2
  | 3 => v3
  | 4 => v4
  | _ => 0
theorem k_recv_at {M : fp_M} {o c : Nat} {v0 v1 v2 v3 v4 : Int32} (k j : Nat) : k_recv M o c v0 v1 v2 v3 v4 k j = if k = o ∧ j = 1 then nI (c + 1) else if k = o + 2 + c ∧ j < 6 then w_ln v0 v1 v2 v3 v4 j else M k j := by
  unfold k_recv
  by_cases h : k = o ∧ j = 1
  · rw [if_pos h, h.1, h.2, fp_wr_eq]
  · rw [if_neg h]
    have e1 : ∀ N : fp_M, fp_wr N o 1 (nI (c + 1)) k j = N k j := fun N => if_neg h
    rw [e1]
    by_cases h2 : k = o + 2 + c
    · subst h2
      match j with
      | 0 => simp [fp_wr, w_ln]
      | 1 => simp [fp_wr, w_ln]
      | 2 => simp [fp_wr, w_ln]
      | 3 => simp [fp_wr, w_ln]
      | 4 => simp [fp_wr, w_ln]
      | 5 => simp [fp_wr, w_ln]
      | n + 6 =>
        rw [if_neg (by omega), fp_wr_ne2 (by omega), fp_wr_ne2 (by omega), fp_wr_ne2 (by omega), fp_wr_ne2 (by omega), fp_wr_ne2 (by omega), fp_wr_ne2 (by omega)]
    · rw [if_neg (fun q => h2 q.1), fp_wr_ne h2, fp_wr_ne h2, fp_wr_ne h2, fp_wr_ne h2, fp_wr_ne h2, fp_wr_ne h2]
theorem g_recv_at {M : fp_M} {c : Nat} {v0 v1 v2 v3 v4 : Int32} (k j : Nat) : g_recv M c v0 v1 v2 v3 v4 k j = if k = 50 ∧ j = 0 then nI (c + 1) else if k = 50 ∧ 5 + 6 * c ≤ j ∧ j < 5 + 6 * c + 6 then w_ln v0 v1 v2 v3 v4 (j - (5 + 6 * c)) else M k j := by
  unfold g_recv
  by_cases h : k = 50 ∧ j = 0
  · rw [if_pos h, h.1, h.2, fp_wr_eq]
  · rw [if_neg h]
    have e1 : ∀ N : fp_M, fp_wr N 50 0 (nI (c + 1)) k j = N k j := fun N => if_neg h
    rw [e1]
    by_cases h2 : k = 50
    · subst h2
      by_cases h3 : 5 + 6 * c ≤ j ∧ j < 5 + 6 * c + 6
      · rw [if_pos ⟨rfl, h3⟩]
        obtain ⟨f, rfl⟩ := Nat.exists_eq_add_of_le h3.1
        rw [Nat.add_sub_cancel_left]
        match f, h3 with
        | 0, _ => simp [fp_wr, w_ln]
        | 1, _ => simp [fp_wr, w_ln]
        | 2, _ => simp [fp_wr, w_ln]
        | 3, _ => simp [fp_wr, w_ln]
        | 4, _ => simp [fp_wr, w_ln]
        | 5, _ => simp [fp_wr, w_ln]
        | n + 6, q => omega
      · rw [if_neg (fun q => h3 q.2), fp_wr_ne2 (by omega), fp_wr_ne2 (by omega), fp_wr_ne2 (by omega), fp_wr_ne2 (by omega), fp_wr_ne2 (by omega), fp_wr_ne2 (by omega)]
    · rw [if_neg (fun q => h2 q.1), fp_wr_ne h2, fp_wr_ne h2, fp_wr_ne h2, fp_wr_ne h2, fp_wr_ne h2, fp_wr_ne h2]
theorem w_O.recv {A B : fp_M} {o c : Nat} {v0 v1 v2 v3 v4 : Int32} (h : w_O A B o 50 c) (hc : c < 8) : w_O (k_recv A o c v0 v1 v2 v3 v4) (g_recv B c v0 v1 v2 v3 v4) o 50 (c + 1) := by
  obtain ⟨h1, h2, h3, h4, h5, h6, h7, h8, h9⟩ := h
  refine ⟨hc, ?_, ?_, ?_, ?_, ?_, ?_, fun i hi f hf => ?_, fun k hk => ?_⟩
  · rw [k_recv_at, if_pos ⟨rfl, rfl⟩]
  · rw [g_recv_at, if_pos ⟨rfl, rfl⟩]
  · rw [k_recv_at, g_recv_at, if_neg (by omega), if_neg (by omega), if_neg (by omega), if_neg (by omega)]; exact h4
  · rw [k_recv_at, g_recv_at, if_neg (by omega), if_neg (by omega), if_neg (by omega), if_neg (by omega)]; exact h5
  · rw [k_recv_at, g_recv_at, if_neg (by omega), if_neg (by omega), if_neg (by omega), if_neg (by omega)]; exact h6
  · rw [k_recv_at, g_recv_at, if_neg (by omega), if_neg (by omega), if_neg (by omega), if_neg (by omega)]; exact h7
  · rw [k_recv_at, if_neg (show ¬ (o + 2 + i = o ∧ f = 1) by omega), g_recv_at, if_neg (show ¬ (50 = 50 ∧ 5 + 6 * i + f = 0) by omega)]
    by_cases q : i = c
    · subst q
      rw [if_pos (show o + 2 + i = o + 2 + i ∧ f < 6 from ⟨rfl, hf⟩), if_pos (by omega), Nat.add_sub_cancel_left]
    · rw [if_neg (show ¬ (o + 2 + i = o + 2 + c ∧ f < 6) by omega), if_neg (by omega)]; exact h8 i (by omega) f hf
  · rw [k_recv_at, g_recv_at, if_neg (by omega), if_neg (by omega), if_neg (by omega), if_neg (by omega)]; exact h9 k hk
theorem w_v.recv {A : fp_M} {o c : Nat} {v0 v1 v2 v3 v4 : Int32} (h : w_v A o c) (hc : c < 8) (hl : w_l (w_ln v0 v1 v2 v3 v4)) : w_v (k_recv A o c v0 v1 v2 v3 v4) o (c + 1) := by
  obtain ⟨h1, h2, h3⟩ := h
  refine ⟨?_, fun i hi => ?_, fun k hk => ?_⟩
  · rw [k_recv_at, if_neg (by omega), if_neg (by omega)]; exact h1
  · have e : ∀ f, f < 6 → k_recv A o c v0 v1 v2 v3 v4 (o + 2 + i) f = if i = c then w_ln v0 v1 v2 v3 v4 f else A (o + 2 + i) f := by
      intro f hf
      rw [k_recv_at, if_neg (by omega)]
      by_cases q : i = c
      · subst q; rw [if_pos ⟨rfl, hf⟩, if_pos rfl]
      · rw [if_neg (by omega), if_neg q]
    unfold w_l
    rw [e 0 (by decide), e 1 (by decide), e 2 (by decide), e 3 (by decide), e 5 (by decide)]
    by_cases q : i = c
    · simp only [if_pos q]
      exact hl
    · simp only [if_neg q]
      exact h2 i (by omega)
  · rw [k_recv_at, if_neg (by omega), if_neg (by omega)]
    rcases h3 k hk with q | ⟨j, j1, j2⟩
    · exact Or.inl q
    · exact Or.inr ⟨j, by omega, j2⟩
theorem w_pair {a b : Int32} (h : k_pair a b) : ∃ f t : Nat, f < 8 ∧ t < 8 ∧ ¬ f = t ∧ a = nI f ∧ b = nI t := by
  obtain ⟨x, y, h1, h2, h3, h4, h5⟩ := k_pr h
  exact ⟨x, y, h1, h2, h3, h4, h5⟩
section WC
variable {A B : fp_M} {c : Nat}
theorem w_letter (R : w_Rc A B c) {k f t d m : Int32} : w_St A B (sp_letter A c k f t d m) (sg_letter B c k f t d m) := by
  have O := R.1
  have v := R.2.1
  have hc := O.1
  unfold sp_letter sg_letter
  by_cases hv : v_letter k f t d m
  · rw [if_pos hv, if_pos hv, O.2.1, O.2.2.1]
    by_cases q : c = 8
    · subst q
      rw [if_neg (by decide), if_pos (show nI 8 = (8 : Int32) by decide)]
      exact w_fd0 R.r (by decide) (by decide)
    · have h1 : nI c < 8 := show nI c < nI 8 from (nI_ltI (by omega) (by decide)).mpr (by omega)
      have h2 : ¬ nI c = 8 := fun z => q ((nI_eq (b := 8) (by omega) (by decide)).mp z)
      rw [if_pos h1, if_neg h2]
      refine w_updS R (O.recv (by omega)) (v.recv (by omega) ⟨hv.1, w_pair hv.2.1, hv.2.2.1, Or.inl rfl⟩) (fun k j q => ?_) (fun k j q => ?_) rfl
      · rw [k_recv_at, if_neg (by omega), if_neg (by omega)]
      · rw [g_recv_at, if_neg (fun z => q z.1), if_neg (fun z => q z.1)]
  · rw [if_neg hv, if_neg hv]
    exact w_fd0 R.r (by decide) (by decide)
theorem w_let (R : w_Rc A B c) {l : Int32} : v_let A l ↔ (0 ≤ l ∧ l < B 50 0) := by
  rw [R.1.2.2.1, ← R.1.2.1]
theorem w_lv (R : w_Rc A B c) {l : Int32} (h : v_let A l) : l = nI (k_v l) ∧ k_v l < c := g_vl (w_gwf R.1 R.2.1) ((w_let R).mp h)
theorem w_isin : ∀ S, S < 256 → ∀ i, i < 8 → (nI S >>> (nI i &&& 31)) &&& 1 = if S.testBit i = true then 1 else 0 := by decide +kernel
theorem k_part_at {M : fp_M} {L : Nat} : ∀ f, f < 6 → k_part M L (nI f) = M L f := by
  intro f hf
  match f, hf with
  | 0, _ => rfl
  | 1, _ => rfl
  | 2, _ => rfl
  | 3, _ => rfl
  | 4, _ => rfl
  | 5, _ => rfl
theorem k_setp_at {M : fp_M} {L : Nat} {v : Int32} : ∀ f, f < 6 → k_setp M L (nI f) v = fp_wr M L f v := by
  intro f hf
  match f, hf with
  | 0, _ => rfl
  | 1, _ => rfl
  | 2, _ => rfl
  | 3, _ => rfl
  | 4, _ => rfl
  | 5, _ => rfl
theorem w_of (R : w_Rc A B c) {l w : Int32} : w_St A B (sp_of A l w) (sg_of B c l w) := by
  have R' := R
  obtain ⟨O, v, -⟩ := R
  have hc := O.1
  unfold sp_of sg_of
  by_cases h : v_let A l ∧ (0 ≤ w ∧ w ≤ 9)
  · have hg : (0 ≤ l ∧ l < B 50 0) ∧ (0 ≤ w ∧ w ≤ 9) := ⟨(w_let R').mp h.1, h.2⟩
    rw [if_pos h, if_pos hg]
    obtain ⟨el, ll⟩ := w_lv R' h.1
    refine w_St.id R'.r ?_
    rw [w_least O ll, w_most O ll, w_come O ll]
    by_cases h6 : w = 6
    · rw [if_pos h6, if_pos h6]
    · rw [if_neg h6, if_neg h6]
      by_cases h7 : w = 7
      · rw [if_pos h7, if_pos h7]
      · rw [if_neg h7, if_neg h7]
        by_cases h8 : w = 8
        · rw [if_pos h8, if_pos h8]
        · rw [if_neg h8, if_neg h8]
          by_cases h9 : w = 9
          · rw [if_pos h9, if_pos h9, Int32.add_zero, ← O.2.2.2.1, w_con O]
            have hS := k_con_lt A 1 (c := c) (A 1 4) hc
            have e := w_isin _ hS (k_v l) (by omega)
            rw [← el] at e
            rw [e]
            unfold k_con
            rw [k_bn_bit, decide_eq_true ll, Bool.true_and]
            show bi (k_cnt A (3 + k_v l) (A 1 3) (A 1 4)) = if decide (k_cnt A (3 + k_v l) (A 1 3) (A 1 4)) = true then 1 else 0
            by_cases z : k_cnt A (3 + k_v l) (A 1 3) (A 1 4)
            · rw [bi_t z, if_pos (decide_eq_true z)]
            · rw [bi_f z, if_neg (fun q => z (of_decide_eq_true q))]
          · rw [if_neg h9, if_neg h9]
            obtain ⟨ew, lw⟩ := g_v6 h.2 h6 h7 h8 h9
            rw [O.l ll lw]
            conv => lhs; rw [ew]
            exact k_part_at (k_v w) lw
  · rw [if_neg h, if_neg (fun q => h ⟨(w_let R').mpr q.1, q.2⟩)]
    exact w_fd0 R'.r (by decide) (by decide)
theorem w_ispart (R : w_Rc A B c) {l w x : Int32} (h : v_let A l) : k_ispart A (3 + k_v l) w x ↔ g_isfit B (k_v l) w x := by
  obtain ⟨el, ll⟩ := w_lv R h
  unfold k_ispart g_isfit k_pair
  rw [R.1.l ll (by decide), R.1.l ll (by decide)]
  have e : ∀ P Q S : Prop, (P ∧ Q ∧ S) ↔ (Q ∧ P ∧ S) := fun P Q S => ⟨fun z => ⟨z.2.1, z.1, z.2.2⟩, fun z => ⟨z.2.1, z.1, z.2.2⟩⟩
  have e2 : (¬ A (3 + k_v l) 1 = x) ↔ (¬ x = A (3 + k_v l) 1) := ⟨fun z q => z q.symm, fun z q => z q.symm⟩
  rw [e (0 ≤ A (3 + k_v l) 1 ∧ A (3 + k_v l) 1 ≤ 7), e2]
theorem w_change (R : w_Rc A B c) {l w x : Int32} : w_St A B (sp_change A l w x) (sg_change B l w x) := by
  have R' := R
  obtain ⟨O, v, -⟩ := R
  have hc := O.1
  unfold sp_change sg_change
  by_cases h : v_let A l ∧ k_ispart A (3 + k_v l) w x
  · have hg := (w_ispart R' h.1).mp h.2
    rw [if_pos h, if_pos ⟨(w_let R').mp h.1, hg⟩]
    obtain ⟨el, ll⟩ := w_lv R' h.1
    obtain ⟨ew, lw⟩ := g_isfit_w hg
    obtain ⟨f, hf⟩ : ∃ f, f = k_v w := ⟨_, rfl⟩
    obtain ⟨i, hi⟩ : ∃ i, i = k_v l := ⟨_, rfl⟩
    rw [← hf] at ew lw ⊢
    rw [← hi] at ll hg ⊢
    subst ew
    rw [k_part_at f lw, k_setp_at f lw]
    have hl := v.2.1 i ll
    have eo : 1 + 2 + i = 3 + i := by omega
    rw [eo] at hl
    refine w_updS (c' := c) R' ?_ ?_ (fun k j q => fp_wr_ne (by omega)) (fun k j q => fp_wr_ne q) (O.l ll lw).symm
    · have := O.wl (v := x) ll lw
      rw [eo] at this
      exact this
    · have key : w_l (fun j => if j = f then x else A (1 + 2 + i) j) := by
        rw [eo]
        obtain ⟨l1, ⟨ff, tt, l2, l3, l4, l5, l6⟩, l7, l8⟩ := hl
        have b1 := O.l ll (f := 1) (by decide)
        have b2 := O.l ll (f := 2) (by decide)
        have r : ∀ n, n < 6 → ∀ m : Int32, nI f = m → m = nI n → f = n := fun n hn m q q2 => (nI_eq (by omega) (by omega)).mp (q.trans q2)
        rcases hg with ⟨q, z⟩ | ⟨q, z⟩ | ⟨q, z⟩ | ⟨q, z⟩ | ⟨q, z⟩ | ⟨q, z⟩
        · have := r 0 (by decide) _ q rfl
          subst this
          exact ⟨z, ⟨ff, tt, l2, l3, l4, l5, l6⟩, l7, l8⟩
        · have := r 1 (by decide) _ q rfl
          subst this
          obtain ⟨x1, y1, z1, z2, z3, z4, z5⟩ := k_pr z
          rw [b2] at z5
          exact ⟨l1, ⟨x1, y1, z1, z2, z3, z4, z5⟩, l7, l8⟩
        · have := r 2 (by decide) _ q rfl
          subst this
          obtain ⟨x1, y1, z1, z2, z3, z4, z5⟩ := k_pr z
          rw [b1] at z5
          exact ⟨l1, ⟨y1, x1, z2, z1, fun e => z3 e.symm, z5, z4⟩, l7, l8⟩
        · have := r 3 (by decide) _ q rfl
          subst this
          exact ⟨l1, ⟨ff, tt, l2, l3, l4, l5, l6⟩, z, l8⟩
        · have := r 4 (by decide) _ q rfl
          subst this
          exact ⟨l1, ⟨ff, tt, l2, l3, l4, l5, l6⟩, l7, l8⟩
        · have := r 5 (by decide) _ q rfl
          subst this
          refine ⟨l1, ⟨ff, tt, l2, l3, l4, l5, l6⟩, l7, ?_⟩
          obtain ⟨n, n1, n2⟩ := k_rng (N := 1) (K := 1) (by decide) z
          show x = 0 ∨ x = 1
          rw [n2]
          match n, n1 with
          | 0, _ => exact Or.inl rfl
          | 1, _ => exact Or.inr rfl
      have := v.wl (f := f) (v := x) hc ll key
      rw [eo] at this
      exact this
  · rw [if_neg h, if_neg (fun q => h ⟨(w_let R').mpr q.1, (w_ispart R' ((w_let R').mpr q.1)).mpr q.2⟩)]
    exact w_fd0 R'.r (by decide) (by decide)
theorem w_law (R : w_Rc A B c) {w x : Int32} : w_St A B (sp_law A w x) (sg_law B w x) := by
  have R' := R
  obtain ⟨O, v, -⟩ := R
  unfold sp_law sg_law
  by_cases h : (0 ≤ w ∧ w ≤ 1) ∧ (0 ≤ x ∧ x ≤ 9)
  · rw [if_pos h, if_pos h]
    obtain ⟨ew, lw⟩ := g_v01 h.1
    obtain ⟨f, hf⟩ : ∃ f, f = k_v w := ⟨_, rfl⟩
    rw [← hf] at ew lw ⊢
    subst ew
    match f, lw with
    | 0, _ =>
      rw [if_pos (by decide)]
      exact w_updS R' (O.wf (ja := 2) (jb := 2) (by decide)) (v.wf (fun _ => h.2)) (fun k j q => fp_wr_ne (by omega)) (fun k j q => fp_wr_ne q) O.2.2.2.2.1
    | 1, _ =>
      rw [if_neg (by decide)]
      exact w_updS R' (O.wf (ja := 3) (jb := 3) (by decide)) (v.wf (fun z => absurd z (by decide))) (fun k j q => fp_wr_ne (by omega)) (fun k j q => fp_wr_ne q) O.2.2.2.2.2.1
  · rw [if_neg h, if_neg h]
    exact w_fd0 R'.r (by decide) (by decide)
theorem w_go (R : w_Rc A B c) {n : Int32} : w_St A B (sp_go A c n) (sg_go B c n) := by
  have R' := R
  obtain ⟨O, v, -⟩ := R
  unfold sp_go sg_go
  by_cases h : 1 ≤ n ∧ n ≤ 200
  · rw [if_pos h, if_pos h, ← O.2.2.2.1]
    by_cases h2 : A 1 4 + n ≤ 99999
    · rw [if_pos h2, if_pos h2]
      have O' := O.wf (ja := 4) (jb := 1) (v := A 1 4 + n) (by decide)
      exact w_updS R' O' (v.wf (fun z => absurd z (by decide))) (fun k j q => fp_wr_ne (by omega)) (fun k j q => fp_wr_ne q) (w_cn O').symm
    · rw [if_neg h2, if_neg h2]
      exact w_fd0 R'.r (by decide) (by decide)
  · rw [if_neg h, if_neg h]
    exact w_fd0 R'.r (by decide) (by decide)
theorem w_now (R : w_Rc A B c) {w : Int32} : w_St A B (sp_now A c w) (sg_now B c w) := by
  have R' := R
  obtain ⟨O, v, -⟩ := R
  unfold sp_now sg_now
  by_cases h0 : w = 0
  · rw [if_pos h0, if_pos h0]; exact w_St.id R'.r O.2.2.2.1
  · rw [if_neg h0, if_neg h0]
    by_cases h1 : w = 1
    · rw [if_pos h1, if_pos h1]; exact w_St.id R'.r (w_cn O).symm
    · rw [if_neg h1, if_neg h1]
      by_cases h2 : w = 2
      · rw [if_pos h2, if_pos h2]; exact w_St.id R'.r (by rw [Int32.add_zero, w_lat O])
      · rw [if_neg h2, if_neg h2]
        by_cases h3 : w = 3
        · rw [if_pos h3, if_pos h3]; exact w_St.id R'.r (by rw [w_str O])
        · rw [if_neg h3, if_neg h3]
          by_cases h4 : w = 4
          · rw [if_pos h4, if_pos h4]; exact w_St.id R'.r O.2.2.2.2.1
          · rw [if_neg h4, if_neg h4]
            by_cases h5 : w = 5
            · rw [if_pos h5, if_pos h5]; exact w_St.id R'.r O.2.2.2.2.2.1
            · rw [if_neg h5, if_neg h5]; exact w_fd0 R'.r (by decide) (by decide)
theorem w_hold (R : w_Rc A B c) {p l : Int32} : w_St A B (sp_hold A p l) (sg_hold B p l) := by
  have R' := R
  obtain ⟨O, v, -⟩ := R
  unfold sp_hold sg_hold
  by_cases h : (0 ≤ p ∧ p ≤ 9) ∧ (l = -1 ∨ v_let A l)
  · rw [if_pos h, if_pos ⟨h.1, h.2.imp id (w_let R').mp⟩]
    obtain ⟨ep, lp⟩ := g_v9 h.1
    refine w_updS R' (O.ws lp) (v.ws O.1 ?_) (fun k j q => fp_wr_ne (by omega)) (fun k j q => fp_wr_ne q) rfl
    exact h.2.imp id (fun z => ⟨k_v l, (w_lv R' z).2, (w_lv R' z).1⟩)
  · rw [if_neg h, if_neg (fun q => h ⟨q.1, q.2.imp id (w_let R').mpr⟩)]
    exact w_fd0 R'.r (by decide) (by decide)
theorem w_und : ∀ a, a < 7 → ∀ k, k < 7 → (¬ k_und 7 (nI a) (nI k) = 0 ↔ g_und (nI a) (nI k)) := by decide +kernel
theorem w_as (R : w_Rc A B c) {p k : Int32} : w_St A B (sp_as A p k) (sg_as B p k) := by
  have R' := R
  obtain ⟨O, v, -⟩ := R
  have hc := O.1
  unfold sp_as sg_as
  by_cases h : (0 ≤ p ∧ p ≤ 9) ∧ (0 ≤ k ∧ k ≤ 6)
  · rw [if_pos h, if_pos h]
    obtain ⟨ep, lp⟩ := g_v9 h.1
    have es : B 50 (53 + k_v p) = A 11 (k_v p) := (O.2.2.2.2.2.2.2.2 (k_v p) lp).symm
    rw [es]
    rcases v.2.2 (k_v p) lp with q | ⟨j, j1, j2⟩
    · have q' : A 11 (k_v p) = -1 := q
      rw [q', if_neg (fun z => absurd z.1 (by decide)), if_neg (by decide)]
      exact w_fd0 R'.r (by decide) (by decide)
    · have q' : A 11 (k_v p) = nI j := j2
      have hv : v_let A (nI j) := ⟨nI_pos' (by omega), by rw [O.2.1]; exact (nI_ltI (by omega) (by omega)).mpr j1⟩
      have ej : k_v (nI j) = j := nI_clamp (by omega)
      rw [q', if_pos hv, if_pos hv.1, ej, O.l j1 (by decide)]
      obtain ⟨a, a1, a2⟩ := k_rng (N := 6) (K := 6) (by decide) (v.2.1 j j1).1
      obtain ⟨kk, k1, k2⟩ := k_rng (N := 6) (K := 6) (by decide) h.2
      have a2' : A (3 + j) 0 = nI a := by rw [← a2]
      rw [a2', k2]
      have hu := w_und a (by omega) kk (by omega)
      by_cases z : k_und 7 (nI a) (nI kk) = 0
      · rw [if_pos z, if_neg (fun w => hu.mpr w z)]
        exact w_fd0 R'.r (by decide) (by decide)
      · rw [if_neg z, if_pos (hu.mp z)]
        exact w_St.id R'.r rfl
  · rw [if_neg h, if_neg h]
    exact w_fd0 R'.r (by decide) (by decide)
theorem w_seed (R : w_Rc A B c) {x : Int32} : w_St A B (sp_seed A x) (B 50 4, fp_wr B 50 4 x) :=
  w_updS R (R.1.wf (ja := 5) (jb := 4) (by decide)) (R.2.1.wf (fun z => absurd z (by decide))) (fun k j q => fp_wr_ne (by omega)) (fun k j q => fp_wr_ne q) R.1.2.2.2.2.2.2.1
theorem w_count (R : w_Rc A B c) {w : Int32} : w_St A B (sp_count A c w) (sg_count B c w) := by
  have R' := R
  obtain ⟨O, v, -, ⟨z, z1, z2, z3, -⟩, -⟩ := R
  unfold sp_count sg_count
  by_cases h0 : w = 0
  · rw [if_pos h0, if_pos h0]; exact w_St.id R'.r O.2.2.2.1
  · rw [if_neg h0, if_neg h0]
    by_cases h1 : w = 1
    · rw [if_pos h1, if_pos h1]; exact w_St.id R'.r (O.2.1.trans O.2.2.1.symm)
    · rw [if_neg h1, if_neg h1]
      by_cases h2 : w = 2
      · rw [if_pos h2, if_pos h2]; exact w_St.id R'.r (by rw [w_cn O])
      · rw [if_neg h2, if_neg h2]
        by_cases h3 : w = 3
        · rw [if_pos h3, if_pos h3]; exact w_St.id R'.r (by rw [w_str O])
        · rw [if_neg h3, if_neg h3]
          by_cases h4 : w = 4
          · rw [if_pos h4, if_pos h4]; exact w_St.id R'.r (w_days O c (Nat.le_refl c)).symm
          · rw [if_neg h4, if_neg h4]
            by_cases h5 : w = 5
            · rw [if_pos h5, if_pos h5]; exact w_St.id R'.r (z2.trans z3.symm)
            · rw [if_neg h5, if_neg h5]
              by_cases h6 : w = 6
              · rw [if_pos h6, if_pos h6]; exact w_St.id R'.r O.2.2.2.2.2.2.1
              · rw [if_neg h6, if_neg h6]
                by_cases h7 : w = 7
                · rw [if_pos h7, if_pos h7]; exact w_St.id R'.r (w_held O v 10 (Nat.le_refl 10)).symm
                · rw [if_neg h7, if_neg h7]; exact w_fd0 R'.r (by decide) (by decide)
theorem w_status (R : w_Rc A B c) {w : Int32} : w_St A B (sp_status A w) (sg_status B w) := by
  have R' := R
  obtain ⟨-, -, -, -, -, h1, h2⟩ := R
  unfold sp_status sg_status
  by_cases h : -1 ≤ w ∧ w ≤ 6
  · rw [if_pos h, if_pos h]
    obtain ⟨e1, l1⟩ := g_vs h
    obtain ⟨n, hn⟩ : ∃ n, n = k_v (w + 1) := ⟨_, rfl⟩
    rw [← hn] at e1 l1 ⊢
    have ew : w = nI n - 1 := by rw [← e1, Int32.add_sub_cancel]
    refine w_St.id R'.r ?_
    match n, l1 with
    | 0, _ =>
      subst ew
      rw [if_pos (by decide)]; exact h2.symm
    | m + 1, lm =>
      rw [nI_pred] at ew
      subst ew
      rw [if_neg (nI_pos (by omega)), show k_v (nI m) = m from nI_clamp (by omega)]
      exact h1 m (by omega)
  · rw [if_neg h, if_neg h]
    exact w_fd0 R'.r (by decide) (by decide)
theorem w_ahead (R : w_Rc A B c) {n : Int32} : w_St A B (sp_ahead A c n) (sg_ahead B c n) := by
  unfold sp_ahead sg_ahead
  by_cases h : 0 ≤ n ∧ n ≤ 500
  · rw [if_pos h, if_pos h, ← R.1.2.2.2.1, w_con R.1]
    exact w_St.id R.r rfl
  · rw [if_neg h, if_neg h]
    exact w_fd0 R.r (by decide) (by decide)
end WC
