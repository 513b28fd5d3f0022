/-! ===== calls told alike 9: texts ===== -/
theorem y_T.tl {K G : fp_M} {z p0 : Nat} (h : y_T K G z p0) : ∃ p, p0 ≤ p ∧ K 37 3 = nI p ∧ g_tl G z p := by
  obtain ⟨⟨b1, b2, b3, b4⟩, p, b, a0, a1, a2, a3, a4, a5, a6, a7, a8, a9⟩ := h
  refine ⟨p, a0, a3, ⟨b1, b3, fun i hi => (b4 i hi).2⟩, p, b, a4, a6, Nat.le_refl p, a1, a2, fun q => a8 fun w => q ?_⟩
  rw [a7, w]
  rfl
/-- the same readers, from a later place on -/
theorem y_T.up {K G : fp_M} {z p0 p1 : Nat} (h : y_T K G z p0) (hl : g_tl G z p1) : y_T K G z p1 := by
  obtain ⟨hB, p, b, a0, a1, a2, a3, a4, a5⟩ := h
  obtain ⟨-, q, b', c1, c2, c3, c4, c5, c6⟩ := hl
  have e : p = q := by
    have := hB.1
    exact (nI_eq (by omega) (by omega)).mp (a4.symm.trans c1)
  exact ⟨hB, p, b, by omega, a1, a2, a3, a4, a5⟩
section Y2
variable {K0 G0 : fp_M} {z : Nat}
/-- a whole text read on both sides -/
def y_E (K0 G0 : fp_M) (z : Nat) (a : Int32 × fp_M) (R : (Bool × Nat) × fp_M) : Prop := (R.1.1 = true ∧ R.1.2 ≤ 121 ∧ a.1 = nI R.1.2 ∧ ∃ c, y_Q K0 G0 z 0 a.2 R.2 c) ∨ (R.1.1 = false ∧ ∃ p : Nat, p ≤ 120 ∧ a.1 = -1 - nI p ∧ R.2 49 16 = nI p ∧ y_F K0 a.2 ∧ y_G G0 R.2)
theorem y_loop : ∀ (n i m p : Nat) (K G : fp_M) (c : Nat), n + i = 121 → m + i = 123 → 1 ≤ i → i ≤ p + 1 → y_Q K0 G0 z p K G c → y_E K0 G0 z (ps_onto n i K) (pg_rd m i (pg_item G c).1 (pg_item G c).2) := by
  intro n
  induction n with
  | zero =>
    intro i m p K G c hn hm h1 hp h
    obtain ⟨T, O, v, f, g⟩ := h
    obtain ⟨q, q0, q1, ⟨⟨z1, z2, z3⟩, q', b, a4, a6, l1, l2, l3, l4⟩⟩ := T.tl
    have e0 : K 37 2 = 0 := by
      obtain ⟨-, pp, bb, b0, b1, b2, b3, b4, b5, b6, b7, b8, b9⟩ := T
      exact Classical.byContradiction fun w => by
        have := b8 w
        omega
    have t0 : G 49 12 = 0 := by rw [T.tok, e0]; rfl
    have no : ∀ j, ¬ g_word G j := fun j w => by
      have := w.1
      rw [t0] at this
      exact absurd this (by decide)
    have ek : g_kt G = -1 := by
      unfold g_kt
      rw [if_neg (no 0), if_neg (no 1), if_neg (no 2), if_neg (no 3), if_neg (no 4), if_neg (no 5), if_neg (no 6)]
    have ei : pg_item G c = (0, g_fl G) := by
      unfold pg_item
      rw [ek, if_neg (show ¬ (0 : Int32) ≤ -1 by decide), if_neg (no 7), if_neg (no 8)]
    have em : m = 1 + 1 := by omega
    rw [ei, em]
    have er : pg_rd (1 + 1) i 0 (g_fl G) = ((false, i), g_fl G) := if_pos rfl
    show y_E K0 G0 z (-1 - K 37 3, K) (pg_rd (1 + 1) i 0 (g_fl G))
    rw [er]
    refine Or.inr ⟨rfl, q, by omega, by rw [q1], ?_, f, g.wr (by omega)⟩
    show g_fl G 49 16 = nI q
    rw [g_fl_16, ← T.at, q1]
  | succ n ih =>
    intro i m p K G c hn hm h1 hp h
    have hc : k_v (K 12 1) = c := by
      rw [h.2.1.2.1]
      have := h.2.1.1
      exact nI_clamp (by omega)
    obtain ⟨m', em⟩ : ∃ m', m = m' + 1 := ⟨m - 1, by omega⟩
    subst em
    have hx := y_item h
    obtain ⟨q, q0, q1, htl⟩ := h.1.tl
    have htl' := pg_item_tl (c := c) htl
    unfold ps_onto
    rw [hc]
    rcases hx with ⟨x1, x2, ⟨pp, x3, x4, x5⟩, x6, x7⟩ | ⟨x1, x2, c', hQ⟩
    · rw [if_pos x1]
      have er : pg_rd (m' + 1) i (pg_item G c).1 (pg_item G c).2 = ((false, i), (pg_item G c).2) := if_pos x2
      rw [er]
      exact Or.inr ⟨rfl, pp, x3, by rw [x4], x5, x6, x7⟩
    · rw [if_neg (show ¬ (ps_item K c).1 = 0 by rw [x1]; decide)]
      have hg0 : ¬ (pg_item G c).1 = 0 := by rw [x2]; decide
      have hT := hQ.1
      have tk := hT.tok
      have er : pg_rd (m' + 1) i (pg_item G c).1 (pg_item G c).2 = if (pg_item G c).2 49 12 = 3 then pg_rd m' (i + 1) (pg_item (g_nx (pg_item G c).2) (k_v ((pg_item G c).2 50 0))).1 (pg_item (g_nx (pg_item G c).2) (k_v ((pg_item G c).2 50 0))).2 else if (pg_item G c).2 49 12 = 0 then ((true, i), (pg_item G c).2) else ((false, i), g_fl (pg_item G c).2) := if_neg hg0
      rw [er, tk]
      have hc' : k_v ((pg_item G c).2 50 0) = c' := by
        rw [hQ.2.1.2.2.1]
        have := hQ.2.1.1
        exact nI_clamp (by omega)
      have h8 := hQ.2.1.1
      by_cases t0 : (ps_item K c).2 37 2 = 0
      · rw [if_pos t0, if_neg (fun w => absurd ((g_sw_3.mp w).symm.trans t0) (by decide)), if_pos (g_sw_0.mpr t0)]
        refine Or.inl ⟨rfl, by show i ≤ 121; omega, rfl, c', ?_⟩
        obtain ⟨hB, r1, r2, r3, r4⟩ := hQ.1
        exact ⟨⟨hB, r1, r2, Nat.zero_le _, r4⟩, hQ.2⟩
      · rw [if_neg t0]
        by_cases t3 : (ps_item K c).2 37 2 = 3
        · rw [if_pos t3, if_pos (g_sw_3.mpr t3), hc']
          have hTq := hT.up htl'
          obtain ⟨hB, r1, r2, s0, s1, s2, s3, s4, s5, s6, s7, s8, s9⟩ := hTq
          have s10 := s8 t0
          have hS := y_step0 hB s5 s6 s2
          refine ih (i + 1) m' r2 _ _ c' (by omega) (by omega) (by omega) ?_ ⟨hS, hQ.2.1.st, hQ.2.2.1.st hQ.2.1.1, hQ.2.2.2.1.st, hQ.2.2.2.2.nx⟩
          obtain ⟨hB0, u1, u2, v0, v1, v2, v3, -⟩ := h.1
          have e : q = u1 := by
            have := hB0.1
            exact (nI_eq (by omega) (by omega)).mp (q1.symm.trans v3)
          omega
        · rw [if_neg t3, if_neg (fun w => t3 (g_sw_3.mp w)), if_neg (fun w => t0 (g_sw_0.mp w))]
          obtain ⟨⟨b1, -⟩, r1, r2, s0, s1, s2, s3, s4, -⟩ := hT
          refine Or.inr ⟨rfl, r1, by omega, by rw [s3], ?_, hQ.2.2.2.1, hQ.2.2.2.2.wr (by omega)⟩
          show g_fl (pg_item G c).2 49 16 = nI r1
          rw [g_fl_16, s4]
end Y2
theorem w_text {A B : fp_M} {c : Nat} (R : w_Rc A B c) : w_St A B (sp_text A) (sg_text B c) := by
  have R' := R
  obtain ⟨O, v, hK, ⟨z, z1, z2, z3, z4⟩, hs, hF⟩ := R
  have h8 := O.1
  -- the start
  have g50 : ∀ M : fp_M, ∀ j, g_rowi M 50 50 63 50 j = M 50 j := fun M j => by
    unfold g_rowi
    split <;> rfl
  have O0 : w_O (k_off A 12 1) B 12 50 c := (O.off (a := 12) (ra := 50)).cg (fun _ _ _ _ => rfl) (fun j => (g50 B j).symm)
  have v0 : w_v (k_off A 12 1) 12 c := v.off O.1
  obtain ⟨K1, eK1⟩ : ∃ K1, K1 = fp_wr (k_off A 12 1) 37 4 0 := ⟨_, rfl⟩
  obtain ⟨G1, eG1⟩ : ∃ G1, G1 = fp_wr (g_rowi B 50 52 63) 49 14 0 := ⟨_, rfl⟩
  have k1o : ∀ k j, ¬ (k = 37 ∧ j = 4) → ¬ (12 ≤ k ∧ k < 23) → K1 k j = A k j := fun k j q q2 => by
    rw [eK1]
    unfold fp_wr
    rw [if_neg q]
    exact k_off_o (by omega)
  have k1d : ∀ k j, 12 ≤ k → k < 23 → K1 k j = k_off A 12 1 k j := fun k j q q2 => by
    rw [eK1]
    exact fp_wr_ne (by omega)
  have g1o : ∀ k j, ¬ (k = 49 ∧ j = 14) → ¬ k = 52 → G1 k j = B k j := fun k j q q2 => by
    rw [eG1]
    unfold fp_wr
    rw [if_neg q]
    exact g_row_o q2
  have O1 : w_O K1 G1 12 50 c := O0.cg (fun k j q q2 => k1d k j q (by omega)) (fun j => g1o 50 j (by omega) (by decide))
  have v1 : w_v K1 12 c := v0.cg O.1 (fun k j q q2 => k1d k j q (by omega))
  have b1 : y_B K1 G1 z := ⟨z1, (k1o 37 0 (by omega) (by omega)).trans z2, (g1o 49 6 (by omega) (by decide)).trans z3, fun i hi => by
    rw [k1o 38 i (by omega) (by omega), g1o 54 i (by omega) (by decide)]
    exact z4 i hi⟩
  have T1 := y_step0 (b := 0) b1 (show K1 37 4 = nI 0 by rw [eK1]; exact fp_wr_eq) (show G1 49 14 = nI 0 by rw [eG1]; exact fp_wr_eq) (Nat.zero_le z)
  have hQ : y_Q K1 G1 z 0 (k_step K1) (g_nx G1) c := ⟨T1, O1.st, v1.st O.1, (y_F.rf K1).st, (y_G.rf G1).nx⟩
  have hL := y_loop 120 1 122 0 _ _ c (by decide) (by decide) (by decide) (by decide) hQ
  have ea : sp_text A = ((ps_onto 120 1 (k_step K1)).1, fp_wr (if (ps_onto 120 1 (k_step K1)).1 < 0 then (ps_onto 120 1 (k_step K1)).2 else k_off (ps_onto 120 1 (k_step K1)).2 1 12) 37 0 0) := by
    rw [eK1]
    rfl
  have eb : sg_text B c = pg_tend (pg_rd 122 1 (pg_item (g_nx G1) c).1 (pg_item (g_nx G1) c).2) := by
    rw [eG1]
    rfl
  rw [ea, eb]
  obtain ⟨a, ea'⟩ : ∃ a, a = ps_onto 120 1 (k_step K1) := ⟨_, rfl⟩
  obtain ⟨Rr, eR'⟩ : ∃ Rr, Rr = pg_rd 122 1 (pg_item (g_nx G1) c).1 (pg_item (g_nx G1) c).2 := ⟨_, rfl⟩
  rw [← ea', ← eR'] at hL ⊢
  -- what stays, whatever was read
  have fin : ∀ (A' B' : fp_M) (c' : Nat), w_O A' B' 1 50 c' → w_v A' 1 c' → (∀ k j, ¬ (1 ≤ k ∧ k < 23) → ¬ k = 37 → A' k j = A k j) → A' 37 0 = 0 → (∀ k j, ¬ k = 50 → ¬ (k = 49 ∧ 12 ≤ j) → ¬ (k = 49 ∧ j = 6) → ¬ k = 52 → B' k j = B k j) → B' 49 6 = 0 → w_Rc A' B' c' := by
    intro A' B' c' O' v' ha ha0 hb hb0
    exact ⟨O', v', hK.cg (fun k j _ q => ha k j (by omega) (by omega)) (ha 0 3 (by omega) (by decide)) (fun j => hb 51 j (by decide) (by omega) (by omega) (by decide)) (hb 49 3 (by decide) (by omega) (by omega) (by decide)), ⟨0, by decide, ha0, hb0, fun i hi => absurd hi (Nat.not_lt_zero i)⟩, fun k hk => (hs k hk).cg (fun j => ha _ j (by omega) (by omega)) (fun j => ha _ j (by omega) (by omega)) (hb 55 k (by decide) (by omega) (by omega) (by decide)) (hb 56 k (by decide) (by omega) (by omega) (by decide)) (fun i _ => hb 57 _ (by decide) (by omega) (by omega) (by decide)), hF.cg (fun w => ha 40 w (by omega) (by decide)) (fun j => hb 53 j (by decide) (by omega) (by omega) (by decide))⟩
  rcases hL with ⟨r1, r2, r3, c', T', O', v', f', g'⟩ | ⟨r1, p, p1, p2, p3, f', g'⟩
  · have ha0 : ¬ a.1 < 0 := by rw [r3]; exact nI_pos (by omega)
    have et : pg_tend Rr = (nI Rr.1.2, fp_wr Rr.2 49 6 0) := by
      unfold pg_tend
      rw [if_pos r1]
    rw [if_neg ha0, et]
    have ao : ∀ k j, ¬ (1 ≤ k ∧ k < 23) → ¬ k = 37 → fp_wr (k_off a.2 1 12) 37 0 0 k j = A k j := fun k j q q2 => by
      rw [fp_wr_ne q2, k_off_o (by omega), f' k j (by omega) q2]
      exact k1o k j (by omega) (by omega)
    have bo : ∀ k j, ¬ k = 50 → ¬ (k = 49 ∧ 12 ≤ j) → ¬ (k = 49 ∧ j = 6) → ¬ k = 52 → fp_wr Rr.2 49 6 0 k j = B k j := fun k j q q2 q3 q4 => by
      unfold fp_wr
      rw [if_neg q3, g' k j q q2]
      exact g1o k j (by omega) q4
    have O2 : w_O (fp_wr (k_off a.2 1 12) 37 0 0) (fp_wr Rr.2 49 6 0) 1 50 c' := (O'.off (a := 1) (ra := 50)).cg (fun k j q q2 => fp_wr_ne (by omega)) (fun j => (fp_wr_ne (by decide)).trans (g50 Rr.2 j).symm)
    have v2 : w_v (fp_wr (k_off a.2 1 12) 37 0 0) 1 c' := (v'.off O'.1 (a := 1)).cg O'.1 (fun k j q q2 => fp_wr_ne (by omega))
    refine w_mk r3 (fin _ _ c' O2 v2 ao fp_wr_eq bo fp_wr_eq).r (fun k j q => ao k j (by omega) (by omega)) (fun k j q => ?_)
    rw [fp_wr_ne (by omega), g' k j (by omega) (by omega)]
    exact g1o k j (by omega) (by omega)
  · have ha0 : a.1 < 0 := by
      rw [p2, Int32.lt_iff_toInt_lt]
      have e : ((-1 : Int32) - nI p).toInt = -1 - p := q_sub (show (-1 : Int32).toInt = -1 from by decide) (nI_toInt (by omega)) (by omega)
      rw [e, show (0 : Int32).toInt = 0 from by decide]
      omega
    have et : pg_tend Rr = (-1 - Rr.2 49 16, g_rowi (fp_wr Rr.2 49 6 0) 52 50 63) := by
      unfold pg_tend
      rw [if_neg (by rw [r1]; decide)]
    rw [if_pos ha0, et]
    have ao : ∀ k j, ¬ (12 ≤ k ∧ k < 23) → ¬ k = 37 → fp_wr a.2 37 0 0 k j = A k j := fun k j q q2 => by
      rw [fp_wr_ne q2, f' k j q q2]
      exact k1o k j (by omega) q
    have bo : ∀ k j, ¬ k = 50 → ¬ (k = 49 ∧ 12 ≤ j) → ¬ (k = 49 ∧ j = 6) → ¬ k = 52 → g_rowi (fp_wr Rr.2 49 6 0) 52 50 63 k j = B k j := fun k j q q2 q3 q4 => by
      rw [g_row_o q]
      unfold fp_wr
      rw [if_neg q3, g' k j q q2]
      exact g1o k j (by omega) q4
    have b50 : ∀ j, j < 63 → g_rowi (fp_wr Rr.2 49 6 0) 52 50 63 50 j = B 50 j := fun j hj => by
      unfold g_rowi
      rw [if_pos ⟨rfl, hj⟩, fp_wr_ne (by decide), g' 52 j (by decide) (by omega), eG1, fp_wr_ne (by decide)]
      exact if_pos ⟨rfl, hj⟩
    have O2 : w_O (fp_wr a.2 37 0 0) (g_rowi (fp_wr Rr.2 49 6 0) 52 50 63) 1 50 c := O.cg' (fun k j q q2 => ao k j (by omega) (by omega)) b50
    have v2 : w_v (fp_wr a.2 37 0 0) 1 c := v.cg O.1 (fun k j q q2 => ao k j (by omega) (by omega))
    have b6 : g_rowi (fp_wr Rr.2 49 6 0) 52 50 63 49 6 = 0 := by
      rw [g_row_o (by decide)]
      exact fp_wr_eq
    refine w_mk (by rw [p2, p3]) (fin _ _ c O2 v2 (fun k j q q2 => ao k j (by omega) q2) fp_wr_eq bo b6).r (fun k j q => ao k j (by omega) (by omega)) (fun k j q => ?_)
    rw [g_row_o (by omega), fp_wr_ne (by omega), g' k j (by omega) (by omega)]
    exact g1o k j (by omega) (by omega)
