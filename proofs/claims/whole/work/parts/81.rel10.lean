/-! ===== calls told alike 8: items, the whole text ===== -/
/-- beside the draft and the tape nothing is new; beside the row and the reader -/
def y_F (K0 K : fp_M) : Prop := ∀ k j, ¬ (12 ≤ k ∧ k < 23) → ¬ k = 37 → K k j = K0 k j
def y_G (G0 G : fp_M) : Prop := ∀ k j, ¬ k = 50 → ¬ (k = 49 ∧ 12 ≤ j) → G k j = G0 k j
theorem y_F.rf (K : fp_M) : y_F K K := fun _ _ _ _ => rfl
theorem y_G.rf (G : fp_M) : y_G G G := fun _ _ _ _ => rfl
theorem y_F.st {K0 K : fp_M} (h : y_F K0 K) : y_F K0 (k_step K) := fun k j a b => (k_step_o b).trans (h k j a b)
theorem y_G.nx {G0 G : fp_M} (h : y_G G0 G) : y_G G0 (g_nx G) := fun k j a b => by
  by_cases q : k = 49
  · exact (by rw [q]; exact g_nx_oj (by omega) : g_nx G k j = G k j).trans (h k j a b)
  · exact (g_nx_o q).trans (h k j a b)
theorem y_F.wr {K0 K : fp_M} {k j : Nat} {v : Int32} (h : y_F K0 K) (hk : (12 ≤ k ∧ k < 23) ∨ k = 37) : y_F K0 (fp_wr K k j v) := fun k' j' a b => (fp_wr_ne (by omega)).trans (h k' j' a b)
theorem y_G.wr {G0 G : fp_M} {k j : Nat} {v : Int32} (h : y_G G0 G) (hk : k = 50 ∨ (k = 49 ∧ 12 ≤ j)) : y_G G0 (fp_wr G k j v) := fun k' j' a b => by
  unfold fp_wr
  rw [if_neg (by omega)]
  exact h k' j' a b
/-- readers and offices, told the same -/
def y_Q (K0 G0 : fp_M) (z p0 : Nat) (K G : fp_M) (c : Nat) : Prop := y_T K G z p0 ∧ w_O K G 12 50 c ∧ w_v K 12 c ∧ y_F K0 K ∧ y_G G0 G
/-- a piece read on both sides -/
def y_X (K0 G0 : fp_M) (z p0 : Nat) (a b : Int32 × fp_M) : Prop := (a.1 = 0 ∧ b.1 = 0 ∧ (∃ p : Nat, p ≤ 120 ∧ a.2 37 3 = nI p ∧ b.2 49 16 = nI p) ∧ y_F K0 a.2 ∧ y_G G0 b.2) ∨ (a.1 = 1 ∧ b.1 = 1 ∧ ∃ c, y_Q K0 G0 z p0 a.2 b.2 c)
theorem y_fail {K0 G0 K G G' : fp_M} {z p0 : Nat} (h : y_T K G z p0) (f : y_F K0 K) (g : y_G G0 G') (h16 : G' 49 16 = G 49 13) : y_X K0 G0 z p0 ((0, K) : Int32 × fp_M) (0, G') := by
  obtain ⟨⟨b1, -⟩, p, b, a0, a1, a2, a3, a4, -⟩ := h
  exact Or.inl ⟨rfl, rfl, ⟨p, by omega, a3, h16.trans a4⟩, f, g⟩
theorem g_fl_16 (G : fp_M) : g_fl G 49 16 = G 49 13 := fp_wr_eq
theorem y_T.wr {K G : fp_M} {z p0 kk kj gk gj : Nat} {u v : Int32} (h : y_T K G z p0) (h1 : ¬ kk = 37) (h2 : ¬ kk = 38) (h3 : ¬ gk = 54) (h4 : ¬ (gk = 49 ∧ (gj = 6 ∨ (12 ≤ gj ∧ gj ≤ 15)))) : y_T (fp_wr K kk kj u) (fp_wr G gk gj v) z p0 := h.cg (fun k j q => fp_wr_ne (by omega)) (fun k j q => by unfold fp_wr; exact if_neg (by omega))
theorem y_T.wg {K G : fp_M} {z p0 gk gj : Nat} {v : Int32} (h : y_T K G z p0) (h3 : ¬ gk = 54) (h4 : ¬ (gk = 49 ∧ (gj = 6 ∨ (12 ≤ gj ∧ gj ≤ 15)))) : y_T K (fp_wr G gk gj v) z p0 := h.cg (fun k j q => rfl) (fun k j q => by unfold fp_wr; exact if_neg (by omega))
theorem w_O.st {K G : fp_M} {c : Nat} (h : w_O K G 12 50 c) : w_O (k_step K) (g_nx G) 12 50 c := h.cg (fun k j a b => k_step_o (by omega)) (fun j => g_nx_o (by decide))
theorem w_v.st {K : fp_M} {c : Nat} (h : w_v K 12 c) (hc : c ≤ 8) : w_v (k_step K) 12 c := h.cg hc (fun k j a b => k_step_o (by omega))
theorem y_7 : (0 : Int) ≤ (7 : Int32).toInt ∧ (7 : Int32).toInt = 7 ∧ (9 : Int32).toInt = 9 ∧ (99 : Int32).toInt = 99 ∧ (999 : Int32).toInt = 999 := by decide
section Y
variable {K0 G0 K G : fp_M} {z p0 c : Nat}
/-- a law read -/
theorem y_lawX (h : y_Q K0 G0 z p0 K G c) {w : Nat} (hw : (k_word K 7 ∧ w = 0) ∨ (¬ k_word K 7 ∧ w = 1)) : y_X K0 G0 z p0 (ps_law K) (pg_law G w) := by
  obtain ⟨T, O, v, f, g⟩ := h
  have T1 := T.nx
  unfold ps_law pg_law
  rcases T1.num (most := 9) (by decide) (by decide) with ⟨n1, n2⟩ | ⟨n, n1, n2, n3, n4⟩
  · rw [if_pos n1, if_neg n2]
    exact y_fail T1 f.st (g.nx.wr (by omega)) (g_fl_16 _)
  · have n9 : n ≤ 9 := by
      rw [y_7.2.2.1] at n1
      omega
    have nn : ¬ k_num (k_step K) 9 = -1 := by
      rw [n2]
      intro q
      have := congrArg Int32.toInt q
      rw [nI_toInt (by omega), show (-1 : Int32).toInt = -1 from by decide] at this
      omega
    rw [if_neg nn, if_pos n3, n2, n4]
    obtain ⟨j, ej, hj⟩ : ∃ j, (if k_word K 7 then 2 else 3) = j ∧ j = 2 + w := by
      rcases hw with ⟨a, b⟩ | ⟨a, b⟩
      · exact ⟨2, if_pos a, by omega⟩
      · exact ⟨3, if_neg a, by omega⟩
    rw [ej, hj]
    have hw2 : w = 0 ∨ w = 1 := by
      rcases hw with ⟨-, b⟩ | ⟨-, b⟩ <;> omega
    have O1 := O.st
    have v1 := v.st O.1
    have O2 := O1.wf (ja := 2 + w) (jb := 2 + w) (v := nI n) (by omega)
    have v2 : w_v (fp_wr (k_step K) 12 (2 + w) (nI n)) 12 c := v1.wf (fun _ => ⟨nI_pos' (by omega), show nI n ≤ nI 9 from (nI_leI (by omega) (by decide)).mpr n9⟩)
    exact Or.inr ⟨rfl, rfl, c, (T1.wr (by decide) (by decide) (by decide) (by omega)).nx, O2.st, v2.st O.1, (f.st.wr (by omega)).st, (g.nx.wr (by omega)).nx⟩
/-- both towns read -/
theorem y_towns (T : y_T K G z p0) (f : y_F K0 K) (g : y_G G0 G) : (k_num (k_step K) 7 = -1 ∧ y_X K0 G0 z p0 ((0, k_step K) : Int32 × fp_M) (pg_towns G)) ∨ (¬ k_num (k_step K) 7 = -1 ∧ (k_num (k_step (k_step K)) 7 = -1 ∨ k_num (k_step (k_step K)) 7 = k_num (k_step K) 7) ∧ y_X K0 G0 z p0 ((0, k_step (k_step K)) : Int32 × fp_M) (pg_towns G)) ∨ (¬ k_num (k_step K) 7 = -1 ∧ ¬ (k_num (k_step (k_step K)) 7 = -1 ∨ k_num (k_step (k_step K)) 7 = k_num (k_step K) 7) ∧ ∃ a b : Nat, a < 8 ∧ b < 8 ∧ ¬ a = b ∧ k_num (k_step K) 7 = nI a ∧ k_num (k_step (k_step K)) 7 = nI b ∧ (pg_towns G).1 = 1 ∧ (pg_towns G).2 49 17 = nI a ∧ (pg_towns G).2 49 18 = nI b ∧ y_T (k_step (k_step (k_step K))) (pg_towns G).2 z p0 ∧ y_G G0 (pg_towns G).2) := by
  have T1 := T.nx
  have e7 : (7 : Int32).toInt = 7 := by decide
  have ne : ∀ n : Nat, n < 8 → ¬ nI n = -1 := by
    intro n hn q
    have := congrArg Int32.toInt q
    rw [nI_toInt (by omega), show (-1 : Int32).toInt = -1 from by decide] at this
    omega
  unfold pg_towns
  rcases T1.num (most := 7) (by decide) (by decide) with ⟨n1, n2⟩ | ⟨a, n1, n2, n3, n4⟩
  · rw [if_neg n2]
    exact Or.inl ⟨n1, y_fail T1 f.st (g.nx.wr (by omega)) (g_fl_16 _)⟩
  · rw [e7] at n1
    have a8 : a < 8 := by omega
    rw [if_pos n3]
    have Ta : y_T (k_step K) (pg_t2 G) z p0 := T1.wg (by decide) (by omega)
    have ga : y_G G0 (pg_t2 G) := g.nx.wr (by omega)
    have T2 := Ta.nx
    have t17 : g_nx (pg_t2 G) 49 17 = nI a := by
      rw [g_nx_oj (by omega)]
      show fp_wr (g_nx G) 49 17 (g_nx G 49 15) 49 17 = nI a
      rw [fp_wr_eq]
      exact n4
    rcases T2.num (most := 7) (by decide) (by decide) with ⟨m1, m2⟩ | ⟨b, m1, m2, m3, m4⟩
    · rw [if_neg m2]
      refine Or.inr (Or.inl ⟨by rw [n2]; exact ne a a8, Or.inl m1, y_fail T2 f.st.st ((ga.nx.wr (by omega)).wr (by omega)) ?_⟩)
      rw [g_fl_16]
      exact fp_wr_ne2 (by decide)
    · rw [e7] at m1
      have b8 : b < 8 := by omega
      rw [if_pos m3, t17, m4]
      by_cases q : nI b = nI a
      · rw [if_pos q]
        exact Or.inr (Or.inl ⟨by rw [n2]; exact ne a a8, Or.inr (by rw [m2, n2]; exact q), y_fail T2 f.st.st (ga.nx.wr (by omega)) (g_fl_16 _)⟩)
      · rw [if_neg q]
        refine Or.inr (Or.inr ⟨by rw [n2]; exact ne a a8, fun w => ?_, a, b, a8, b8, fun w => q (by rw [w]), n2, m2, rfl, ?_, ?_, (T2.wg (by decide) (by omega)).nx, (ga.nx.wr (by omega)).nx⟩)
        · rcases w with w | w
          · rw [m2] at w; exact ne b b8 w
          · rw [m2, n2] at w; exact q w
        · show g_nx (fp_wr (g_nx (pg_t2 G)) 49 18 (nI b)) 49 17 = nI a
          rw [g_nx_oj (by omega), fp_wr_ne2 (by decide)]
          exact t17
        · show g_nx (fp_wr (g_nx (pg_t2 G)) 49 18 (nI b)) 49 18 = nI b
          rw [g_nx_oj (by omega), fp_wr_eq]
/-- days read -/
theorem y_days (T : y_T K G z p0) {L : Nat} (hL : 12 ≤ L ∧ L < 23) (f : y_F K0 K) (g : y_G G0 G) : ((ps_days K L).1 = 0 ∧ (pg_days G).1 = 0 ∧ y_X K0 G0 z p0 (0, (ps_days K L).2) (0, (pg_days G).2)) ∨ ((ps_days K L).1 = 1 ∧ (pg_days G).1 = 1 ∧ ∃ d : Int32, (-99 ≤ d ∧ d ≤ 99) ∧ (∀ k j, ¬ k = 37 → (ps_days K L).2 k j = fp_wr K L 3 d k j) ∧ (pg_days G).2 49 19 = d ∧ (pg_days G).2 49 17 = G 49 17 ∧ (pg_days G).2 49 18 = G 49 18 ∧ (∀ j, (pg_days G).2 50 j = G 50 j) ∧ y_T (ps_days K L).2 (pg_days G).2 z p0 ∧ y_F K0 (ps_days K L).2 ∧ y_G G0 (pg_days G).2) := by
  have hw := T.word (show 9 < 12 by decide)
  have T1 := T.nx
  have h5 : g_nx G 49 12 = 5 ↔ k_step K 37 2 = 4 := by rw [T1.tok]; exact g_sw_5
  have TD : y_T (ps_dm K) (pg_dm G) z p0 ∧ y_F K0 (ps_dm K) ∧ y_G G0 (pg_dm G) := by
    unfold ps_dm pg_dm
    by_cases q : k_step K 37 2 = 4
    · rw [if_pos q, if_pos (h5.mpr q)]; exact ⟨T1.nx, f.st.st, g.nx.nx⟩
    · rw [if_neg q, if_neg (fun w => q (h5.mp w))]; exact ⟨T1, f.st, g.nx⟩
  obtain ⟨T2, f2, g2⟩ := TD
  have dm_o : ∀ k j, ¬ k = 37 → ps_dm K k j = K k j := fun k j q => ps_dm_o q
  have gm_o : ∀ k j, ¬ k = 49 → pg_dm G k j = G k j := fun k j q => pg_dm_o q
  have gm_j : ∀ j, ¬ (12 ≤ j ∧ j ≤ 15) → pg_dm G 49 j = G 49 j := by
    intro j q
    unfold pg_dm
    split
    · rw [g_nx_oj q, g_nx_oj q]
    · rw [g_nx_oj q]
  unfold ps_days pg_days
  by_cases q : k_word K 9
  · rw [if_pos q, if_pos (hw.mp q)]
    rcases T2.num (most := 99) (by decide) (by decide) with ⟨n1, n2⟩ | ⟨n, n1, n2, n3, n4⟩
    · rw [if_pos n1, if_neg n2]
      exact Or.inl ⟨rfl, rfl, y_fail T2 f2 (g2.wr (by omega)) (g_fl_16 _)⟩
    · have e99 : (99 : Int32).toInt = 99 := by decide
      rw [e99] at n1
      have nn : ¬ k_num (ps_dm K) 99 = -1 := by
        rw [n2]
        intro w
        have := congrArg Int32.toInt w
        rw [nI_toInt (by omega), show (-1 : Int32).toInt = -1 from by decide] at this
        omega
      rw [if_neg nn, if_pos n3, n2, n4]
      obtain ⟨d, ed, hd⟩ : ∃ d : Int32, (if k_step K 37 2 = 4 then -(nI n) else nI n) = d ∧ (-99 ≤ d ∧ d ≤ 99) := by
        have en : (nI n).toInt = n := nI_toInt (by omega)
        by_cases w : k_step K 37 2 = 4
        · refine ⟨-(nI n), if_pos w, ?_⟩
          have e : (-(nI n)).toInt = -(n : Int) := q_neg en (by omega)
          rw [Int32.le_iff_toInt_le, Int32.le_iff_toInt_le, e, e99, show (-99 : Int32).toInt = -99 from by decide]
          omega
        · refine ⟨nI n, if_neg w, ?_⟩
          rw [Int32.le_iff_toInt_le, Int32.le_iff_toInt_le, en, e99, show (-99 : Int32).toInt = -99 from by decide]
          omega
      have ed' : (if g_nx G 49 12 = 5 then -(nI n) else nI n) = d := by
        rw [← ed]
        by_cases w : k_step K 37 2 = 4
        · rw [if_pos w, if_pos (h5.mpr w)]
        · rw [if_neg w, if_neg (fun y => w (h5.mp y))]
      rw [ed, ed']
      refine Or.inr ⟨rfl, rfl, d, hd, fun k j w => ?_, ?_, ?_, ?_, fun j => ?_, (T2.wr (by omega) (by omega) (by decide) (by omega)).nx, (f2.wr (by omega)).st, (g2.wr (by omega)).nx⟩
      · show k_step (fp_wr (ps_dm K) L 3 d) k j = _
        rw [k_step_o w]
        unfold fp_wr
        rw [dm_o k j w]
      · show g_nx (fp_wr (pg_dm G) 49 19 d) 49 19 = d
        rw [g_nx_oj (by omega), fp_wr_eq]
      · show g_nx (fp_wr (pg_dm G) 49 19 d) 49 17 = _
        rw [g_nx_oj (by omega), fp_wr_ne2 (by decide)]
        exact gm_j 17 (by omega)
      · show g_nx (fp_wr (pg_dm G) 49 19 d) 49 18 = _
        rw [g_nx_oj (by omega), fp_wr_ne2 (by decide)]
        exact gm_j 18 (by omega)
      · show g_nx (fp_wr (pg_dm G) 49 19 d) 50 j = _
        rw [g_nx_o (by decide), fp_wr_ne (by decide)]
        exact gm_o 50 j (by decide)
  · rw [if_neg q, if_neg (fun w => q (hw.mpr w))]
    exact Or.inl ⟨rfl, rfl, y_fail T f (g.wr (by omega)) (g_fl_16 _)⟩
/-- the mark, and whether it's struck -/
theorem y_ms (h : y_Q K0 G0 z p0 K G (c + 1)) (hc : c < 8) : y_X K0 G0 z p0 (if (ps_mark K (14 + c)).1 = 0 then (0, (ps_mark K (14 + c)).2) else (1, ps_struck (ps_mark K (14 + c)).2 (14 + c))) (pg_ms G c) := by
  have st : ∀ K1 G1 : fp_M, y_Q K0 G0 z p0 K1 G1 (c + 1) → y_X K0 G0 z p0 ((1, ps_struck K1 (14 + c)) : Int32 × fp_M) (1, pg_struck G1 c) := by
    intro K1 G1 h1
    obtain ⟨T, O, v, f, g⟩ := h1
    have hw := T.word (show 11 < 12 by decide)
    unfold ps_struck pg_struck
    by_cases q : k_word K1 11
    · rw [if_pos q, if_pos (hw.mp q)]
      have O' := O.wl (i := c) (f := 5) (v := 1) (by omega) (by decide)
      have v' := v.wl (i := c) (f := 5) (v := 1) O.1 (by omega) (by
        obtain ⟨l1, ⟨ff, t, l2, l3, l4, l5, l6⟩, l7, l8⟩ := v.2.1 c (by omega)
        exact ⟨l1, ⟨ff, t, l2, l3, l4, l5, l6⟩, l7, Or.inr rfl⟩)
      exact Or.inr ⟨rfl, rfl, c + 1, (T.wr (by omega) (by omega) (by decide) (by omega)).nx, O'.st, v'.st O.1, (f.wr (by omega)).st, (g.wr (by omega)).nx⟩
    · rw [if_neg q, if_neg (fun w => q (hw.mpr w))]
      exact Or.inr ⟨rfl, rfl, c + 1, T, O, v, f, g⟩
  obtain ⟨T, O, v, f, g⟩ := h
  have hw := T.word (show 10 < 12 by decide)
  have T1 := T.nx
  unfold pg_ms ps_mark pg_mark
  by_cases q : k_word K 10
  · rw [if_pos q, if_pos (hw.mp q)]
    rcases T1.num (most := 999) (by decide) (by decide) with ⟨n1, n2⟩ | ⟨n, n1, n2, n3, n4⟩
    · rw [if_pos n1, if_neg n2, if_pos rfl, if_pos rfl]
      exact y_fail T1 f.st (g.nx.wr (by omega)) (show g_fl (g_nx G) 49 16 = g_nx G 49 13 from g_fl_16 _)
    · have e999 : (999 : Int32).toInt = 999 := by decide
      rw [e999] at n1
      have nn : ¬ k_num (k_step K) 999 = -1 := by
        rw [n2]
        intro w
        have := congrArg Int32.toInt w
        rw [nI_toInt (by omega), show (-1 : Int32).toInt = -1 from by decide] at this
        omega
      rw [if_neg nn, if_pos n3, n2, n4, if_neg (show ¬ (1 : Int32) = 0 by decide), if_neg (show ¬ (1 : Int32) = 0 by decide)]
      refine st _ _ ?_
      have O1 := O.st
      have v1 := v.st O.1
      have O' := O1.wl (i := c) (f := 4) (v := nI n) (by omega) (by decide)
      have v' := v1.wl (i := c) (f := 4) (v := nI n) O.1 (by omega) (by
        obtain ⟨l1, ⟨ff, t, l2, l3, l4, l5, l6⟩, l7, l8⟩ := v1.2.1 c (by omega)
        exact ⟨l1, ⟨ff, t, l2, l3, l4, l5, l6⟩, l7, l8⟩)
      exact ⟨(T1.wr (by omega) (by omega) (by decide) (by omega)).nx, O'.st, v'.st O.1, (f.st.wr (by omega)).st, (g.nx.wr (by omega)).nx⟩
  · rw [if_neg q, if_neg (fun w => q (hw.mpr w)), if_neg (show ¬ (1 : Int32) = 0 by decide), if_neg (show ¬ (1 : Int32) = 0 by decide)]
    exact st K G ⟨T, O, v, f, g⟩
/-- a letter read -/
theorem y_let (h : y_Q K0 G0 z p0 K G c) {kind : Int32} (hk : 0 ≤ kind ∧ kind ≤ 6) (hc : c < 8) : y_X K0 G0 z p0 (ps_letter K c kind) (pg_let G c kind) := by
  obtain ⟨T, O, v, f, g⟩ := h
  have hcn : ¬ c = 8 := by omega
  unfold ps_letter pg_let
  rw [if_neg hcn]
  rcases y_towns T f g with ⟨n1, hx⟩ | ⟨n1, n2, hx⟩ | ⟨n1, n2, a, b, a8, b8, hab, ea, eb, t1, t17, t18, T3, g3⟩
  · rw [if_pos n1]
    rcases hx with ⟨x1, x2, x3⟩ | ⟨x1, -⟩
    · rw [if_pos x2]
      exact Or.inl ⟨rfl, rfl, x3⟩
    · exact absurd (show (0 : Int32) = 1 from x1) (by decide)
  · rw [if_neg n1, if_pos n2]
    rcases hx with ⟨x1, x2, x3⟩ | ⟨x1, -⟩
    · rw [if_pos x2]
      exact Or.inl ⟨rfl, rfl, x3⟩
    · exact absurd (show (0 : Int32) = 1 from x1) (by decide)
  · rw [if_neg n1, if_neg n2, if_neg (show ¬ (pg_towns G).1 = 0 by rw [t1]; decide), ea, eb]
    have O3 : w_O (k_step (k_step (k_step K))) (pg_towns G).2 12 50 c := O.cg (fun k j q1 q2 => by rw [k_step_o (by omega), k_step_o (by omega), k_step_o (by omega)]) (fun j => pg_towns_o (by decide))
    have v3 : w_v (k_step (k_step (k_step K))) 12 c := ((v.st O.1).st O.1).st O.1
    have f3 : y_F K0 (k_step (k_step (k_step K))) := f.st.st.st
    have rc_o : ∀ k j, ¬ k = 12 → ¬ k = 14 + c → k_recv (k_step (k_step (k_step K))) 12 c kind (nI a) (nI b) 0 0 k j = k_step (k_step (k_step K)) k j := fun k j q1 q2 => by
      rw [k_recv_at, if_neg (by omega), if_neg (by omega)]
    have TR : y_T (k_recv (k_step (k_step (k_step K))) 12 c kind (nI a) (nI b) 0 0) (pg_towns G).2 z p0 := T3.cg (fun k j q => rc_o k j (by omega) (by omega)) (fun _ _ _ => rfl)
    have fR : y_F K0 (k_recv (k_step (k_step (k_step K))) 12 c kind (nI a) (nI b) 0 0) := fun k j q1 q2 => (rc_o k j (by omega) (by omega)).trans (f3 k j q1 q2)
    unfold ps_tail
    rcases y_days TR (L := 14 + c) (by omega) fR g3 with ⟨d1, d2, d3⟩ | ⟨d1, d2, d, hd, e1, e19, e17, e18, e50, T4, f4, g4⟩
    · rw [if_pos d1, if_pos d2]
      exact d3
    · rw [if_neg (show ¬ (ps_days _ (14 + c)).1 = 0 by rw [d1]; decide), if_neg (show ¬ (pg_days (pg_towns G).2).1 = 0 by rw [d2]; decide)]
      have eR : pg_rc (pg_days (pg_towns G).2).2 c kind = g_recv (pg_days (pg_towns G).2).2 c kind (nI a) (nI b) d 0 := by
        unfold pg_rc
        rw [e19, e17, e18, t17, t18]
      rw [eR]
      have O4 : w_O (k_step (k_step (k_step K))) (pg_days (pg_towns G).2).2 12 50 c := O3.cg (fun _ _ _ _ => rfl) e50
      have ek : ∀ k j, 12 ≤ k → k < 12 + 11 → (ps_days (k_recv (k_step (k_step (k_step K))) 12 c kind (nI a) (nI b) 0 0) (14 + c)).2 k j = k_recv (k_step (k_step (k_step K))) 12 c kind (nI a) (nI b) d 0 k j := by
        intro k j q1 q2
        rw [e1 k j (by omega)]
        unfold fp_wr
        rw [k_recv_at, k_recv_at]
        by_cases w : k = 14 + c ∧ j = 3
        · obtain ⟨rfl, rfl⟩ := w
          rw [if_pos ⟨rfl, rfl⟩, if_neg (by omega), if_pos ⟨by omega, by decide⟩]
          rfl
        · rw [if_neg w]
          by_cases w1 : k = 12 ∧ j = 1
          · rw [if_pos w1, if_pos w1]
          · rw [if_neg w1, if_neg w1]
            by_cases w2 : k = 12 + 2 + c ∧ j < 6
            · rw [if_pos w2, if_pos w2]
              obtain ⟨w3, w4⟩ := w2
              match j, w4 with
              | 0, _ => rfl
              | 1, _ => rfl
              | 2, _ => rfl
              | 3, _ => exact absurd ⟨by omega, rfl⟩ w
              | 4, _ => rfl
              | 5, _ => rfl
            · rw [if_neg w2, if_neg w2]
      have O5 := (O4.recv (v0 := kind) (v1 := nI a) (v2 := nI b) (v3 := d) (v4 := 0) hc).cg (A' := (ps_days (k_recv (k_step (k_step (k_step K))) 12 c kind (nI a) (nI b) 0 0) (14 + c)).2) (B' := g_recv (pg_days (pg_towns G).2).2 c kind (nI a) (nI b) d 0) ek (fun _ => rfl)
      have v5 := (v3.recv (v0 := kind) (v1 := nI a) (v2 := nI b) (v3 := d) (v4 := 0) hc ⟨hk, ⟨a, b, a8, b8, hab, rfl, rfl⟩, hd, Or.inl rfl⟩).cg (A' := (ps_days (k_recv (k_step (k_step (k_step K))) 12 c kind (nI a) (nI b) 0 0) (14 + c)).2) hc ek
      refine y_ms ⟨T4.cg (fun _ _ _ => rfl) (fun k j q => ?_), O5, v5, f4, fun k j q1 q2 => ?_⟩ hc
      · rw [g_recv_at, if_neg (by omega), if_neg (by omega)]
      · rw [g_recv_at, if_neg (by omega), if_neg (by omega)]
        exact g4 k j q1 q2
/-- an item read -/
theorem y_item (h : y_Q K0 G0 z p0 K G c) : y_X K0 G0 z p0 (ps_item K c) (pg_item G c) := by
  have h' := h
  obtain ⟨T, O, v, f, g⟩ := h
  have w7 := T.word (show 7 < 12 by decide)
  have w8 := T.word (show 8 < 12 by decide)
  have hc := O.1
  unfold ps_item pg_item
  rw [T.kt]
  by_cases q : k_word K 7 ∨ k_word K 8
  · have e := y_law (q.imp w7.mp w8.mp)
    rw [if_pos q, e, if_neg (show ¬ (0 : Int32) ≤ -1 by decide)]
    by_cases q7 : k_word K 7
    · rw [if_pos (w7.mp q7)]
      exact y_lawX h' (Or.inl ⟨q7, rfl⟩)
    · rw [if_neg (fun w => q7 (w7.mpr w)), if_pos (w8.mp (q.resolve_left q7))]
      exact y_lawX h' (Or.inr ⟨q7, rfl⟩)
  · rw [if_neg q]
    rcases g_kt_v G with e | ⟨kk, k7, e⟩
    · rw [e, if_pos rfl, if_neg (show ¬ (0 : Int32) ≤ -1 by decide), if_neg (fun w => q (Or.inl (w7.mpr w))), if_neg (fun w => q (Or.inr (w8.mpr w)))]
      exact y_fail T f (g.wr (by omega)) (g_fl_16 _)
    · have k0 : (0 : Int32) ≤ nI kk := nI_pos' (by omega)
      have kn : ¬ nI kk = -1 := by
        intro w
        rw [w] at k0
        exact absurd k0 (by decide)
      rw [e, if_neg kn, if_pos k0, O.2.1]
      by_cases c8 : c < 8
      · rw [if_pos (show nI c < 8 from show nI c < nI 8 from (nI_ltI (by omega) (by decide)).mpr c8)]
        exact y_let h' ⟨k0, show nI kk ≤ nI 6 from (nI_leI (by omega) (by decide)).mpr (by omega)⟩ c8
      · have ec : c = 8 := by omega
        rw [if_neg (show ¬ nI c < 8 by rw [ec]; decide)]
        unfold pg_let
        rw [if_pos ec]
        exact y_fail T f (g.wr (by omega)) (g_fl_16 _)
end Y
