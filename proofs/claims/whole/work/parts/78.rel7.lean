/-! ===== calls told alike 5: draws, the tape, images ===== -/
section WI
variable {A B : fp_M} {c : Nat}
theorem w_oneC {n : Nat} (R : w_Rc A B c) (hn : n < c) : w_Rc (fp_wr A (3 + n) 5 1) (fp_wr B 50 (5 + 6 * n + 5) 1) c := by
  have er : 1 + 2 + n = 3 + n := by omega
  have h8 := R.1.1
  have hl := R.2.1.2.1 n hn
  have O' := R.1.wl (v := 1) hn (show 5 < 6 by decide)
  have v' := R.2.1.wl (f := 5) (v := 1) h8 hn (by
    obtain ⟨l1, ⟨f, t, l2, l3, l4, l5, l6⟩, l7, l8⟩ := hl
    exact ⟨l1, ⟨f, t, l2, l3, l4, l5, l6⟩, l7, Or.inr rfl⟩)
  rw [er] at O' v'
  exact w_upd R O' v' (fun k j q => fp_wr_ne (by omega)) (fun k j q => fp_wr_ne q)
theorem w_zC {z : Int32} (R : w_Rc A B c) : w_Rc (fp_wr A 1 5 z) (fp_wr B 50 4 z) c := w_upd R (R.1.wf (ja := 5) (jb := 4) (by decide)) (R.2.1.wf (fun z => absurd z (by decide))) (fun k j q => fp_wr_ne (by omega)) (fun k j q => fp_wr_ne q)
theorem w_loseC (i i' : Nat) (R : w_Rc A B c) : w_Rc (k_lose i A) (g_lose i' B) c ∧ w_c A (k_lose i A) ∧ w_g B (g_lose i' B) := by
  have ez : A 1 5 = B 50 4 := R.1.2.2.2.2.2.2.1
  unfold k_lose g_lose
  rw [← ez]
  by_cases q : v_let A (k_r16 (k_zd (A 1 5)))
  · rw [if_pos q, if_pos ((w_let R).mp q)]
    have R1 := w_zC (z := k_zn (A 1 5)) R
    have hn := (w_lv R q).2
    have h8 := R.1.1
    exact ⟨w_oneC R1 hn, ((w_c.rf A).wr (by decide)).wr (by omega), ((w_g.rf B).wr (by decide)).wr (by decide)⟩
  · rw [if_neg q, if_neg (fun z => q ((w_let R).mpr z))]
    exact ⟨w_zC R, (w_c.rf A).wr (by decide), (w_g.rf B).wr (by decide)⟩
theorem w_loses_it : ∀ (n i : Nat) (A B : fp_M), w_Rc A B c → w_Rc (k_it k_lose n i A) (k_it g_lose n i B) c ∧ w_c A (k_it k_lose n i A) ∧ w_g B (k_it g_lose n i B) := by
  intro n
  induction n with
  | zero => intro i A B R; exact ⟨R, w_c.rf A, w_g.rf B⟩
  | succ n ih =>
    intro i A B R
    obtain ⟨r1, r2, r3⟩ := w_loseC i i R
    obtain ⟨s1, s2, s3⟩ := ih (i + 1) _ _ r1
    rw [k_it_s, k_it_s]
    exact ⟨s1, r2.tr s2, r3.tr s3⟩
theorem w_loses (R : w_Rc A B c) {n : Int32} : w_St A B (sp_loses A c n) (sg_loses B c n) := by
  unfold sp_loses sg_loses
  by_cases h : 1 ≤ n ∧ n ≤ 20
  · rw [if_pos h, if_pos h]
    obtain ⟨r1, r2, r3⟩ := w_loses_it (k_v n) 0 A B R
    exact ⟨by rw [w_str r1.1], r1.r, r2, r3⟩
  · rw [if_neg h, if_neg h]
    exact w_fd0 R.r (by decide) (by decide)
theorem w_oddsT : ∀ b, b < 256 → ∀ n, n < 15 → k_pow (k_cut 4 (16 - k_bc (nI b), 16)).1 n = lN (g_red 60 ((16 - k_v (k_bc (nI b))) ^ n, 16 ^ n)).1 ∧ k_pow (k_cut 4 (16 - k_bc (nI b), 16)).2 n = lN (g_red 60 ((16 - k_v (k_bc (nI b))) ^ n, 16 ^ n)).2 := by decide +kernel
theorem w_odds (R : w_Rc A B c) {n w : Int32} : w_St A B (sp_odds A c n w) (sg_odds B c n w) := by
  unfold sp_odds sg_odds
  rw [show g_cn B c = k_cn A c from w_cn R.1]
  by_cases h : (0 ≤ n ∧ n ≤ 14) ∧ (0 ≤ w ∧ w ≤ 1)
  · rw [if_pos h, if_pos h]
    obtain ⟨m, m1, m2⟩ := k_rng (N := 14) (K := 14) (by decide) h.1
    have em : k_v n = m := by rw [m2]; exact nI_clamp (by omega)
    have e := w_oddsT _ (k_con_lt A 1 (c := c) (A 1 4) R.1.1) m (by omega)
    rw [em]
    refine ⟨?_, R.r, w_c.rf A, w_g.rf B⟩
    by_cases q : w = 0
    · rw [if_pos q, if_pos q]; exact e.1
    · rw [if_neg q, if_neg q]; exact e.2
  · rw [if_neg h, if_neg h]
    exact ⟨show (k_lo 0).toInt64 = (-1000001 : Int32).toInt64 by decide, R.r.fd (by decide), (w_c.rf A).fd, (w_g.rf B).fd⟩
/-- the tape alone is new -/
theorem w_updT {A' B' : fp_M} (R : w_Rc A B c) (T' : w_T A' B') (ha : ∀ k j, ¬ (k = 37 ∧ j = 0) → ¬ k = 38 → A' k j = A k j) (hb : ∀ k j, ¬ (k = 49 ∧ j = 6) → ¬ k = 54 → B' k j = B k j) : w_Rc A' B' c := by
  obtain ⟨h1, h2, h3, -, h5, h6⟩ := R
  exact ⟨h1.cg (fun k j _ q => ha k j (by omega) (by omega)) (fun j => hb _ j (by omega) (by decide)), h2.cg h1.1 (fun k j _ q => ha k j (by omega) (by omega)), h3.cg (fun k j _ q => ha k j (by omega) (by omega)) (ha 0 3 (by omega) (by decide)) (fun j => hb _ j (by omega) (by decide)) (hb 49 3 (by omega) (by decide)), T', fun k hk => (h5 k hk).cg (fun j => ha _ j (by omega) (by omega)) (fun j => ha _ j (by omega) (by omega)) (hb 55 k (by omega) (by decide)) (hb 56 k (by omega) (by decide)) (fun i _ => hb 57 _ (by omega) (by decide)), h6.cg (fun w => ha 40 w (by omega) (by decide)) (fun j => hb 53 j (by omega) (by decide))⟩
theorem w_wipe (R : w_Rc A B c) : w_St A B (sp_wipe A) (B 49 6, fp_wr B 49 6 0) := by
  obtain ⟨z, z1, z2, z3, z4⟩ := R.2.2.2.1
  refine ⟨z2.trans z3.symm, (w_updT R ⟨0, by decide, fp_wr_eq, fp_wr_eq, fun i hi => absurd hi (Nat.not_lt_zero i)⟩ (fun k j q _ => ?_) (fun k j q _ => ?_)).r, (w_c.rf A).wr (by decide), (w_g.rf B).wr (by decide)⟩
  · show (if k = 37 ∧ j = 0 then 0 else A k j) = A k j
    exact if_neg q
  · show (if k = 49 ∧ j = 6 then 0 else B k j) = B k j
    exact if_neg q
theorem w_b255 : ∀ i, i < 32 → (255#32).getLsbD i = decide (i < 8) := by decide +kernel
theorem w_shr (x : BitVec 32) (k : Nat) (hk : k ≤ 24) : (x >>> k) &&& 255#32 = (x.sshiftRight k) &&& 255#32 := by
  refine BitVec.eq_of_getLsbD_eq fun i hi => ?_
  rw [BitVec.getLsbD_and, BitVec.getLsbD_and, w_b255 i hi]
  by_cases h : i < 8
  · rw [BitVec.getLsbD_ushiftRight, BitVec.getLsbD_sshiftRight, if_pos (by omega), decide_eq_false (show ¬ 32 ≤ i by omega)]
    rfl
  · rw [decide_eq_false h, Bool.and_false, Bool.and_false]
theorem w_byte (b : Int32) : ∀ i, i < 4 → ((b.toUInt32 >>> ((8 * nI i).toUInt32 &&& Int32.toUInt32 31)).toInt32 &&& 255) = ((b >>> (8 * nI i &&& 31)) &&& 255) := by
  intro i hi
  refine Int32.toBitVec_inj.mp ?_
  match i, hi with
  | 0, _ => exact w_shr b.toBitVec 0 (by decide)
  | 1, _ => exact w_shr b.toBitVec 8 (by decide)
  | 2, _ => exact w_shr b.toBitVec 16 (by decide)
  | 3, _ => exact w_shr b.toBitVec 24 (by decide)
theorem w_255 (x : Int32) : 0 ≤ x &&& 255 := by
  have m : (x &&& 255).toBitVec.msb = false := by
    rw [Int32.toBitVec_and, BitVec.msb_and]
    exact Bool.and_false _
  rw [Int32.le_iff_toInt_le]
  exact BitVec.toInt_nonneg_of_msb_false m
theorem w_appC {x : Int32} {z : Nat} (R : w_Rc A B c) (hz : A 37 0 = nI z) (hz1 : z < 120) (hx : 0 ≤ x) : w_Rc (k_app A x) (g_app B x) c ∧ k_app A x 37 0 = nI (z + 1) ∧ w_c A (k_app A x) ∧ w_g B (g_app B x) := by
  obtain ⟨z', z1, z2, z3, z4⟩ := R.2.2.2.1
  have ez : z' = z := (nI_eq (by omega) (by omega)).mp (z2.symm.trans hz)
  subst ez
  have k1 : k_v (A 37 0) = z' := by rw [z2]; exact nI_clamp (by omega)
  have k2 : k_v (B 49 6) = z' := by rw [z3]; exact nI_clamp (by omega)
  have a0 : k_app A x 37 0 = nI (z' + 1) := by unfold k_app; rw [fp_wr_eq, z2, nI_1]
  have b0 : g_app B x 49 6 = nI (z' + 1) := by unfold g_app; rw [fp_wr_eq, z3, nI_1]
  refine ⟨w_updT R ⟨z' + 1, hz1, a0, b0, fun i hi => ?_⟩ (fun k j q1 q2 => ?_) (fun k j q1 q2 => ?_), a0, ((w_c.rf A).wr (by decide)).wr (by decide), ((w_g.rf B).wr (by decide)).wr (by decide)⟩
  · unfold k_app g_app
    rw [fp_wr_ne (show ¬ 38 = 37 by decide), fp_wr_ne (show ¬ 54 = 49 by decide), k1, k2]
    by_cases q : i = z'
    · subst q
      rw [fp_wr_eq, fp_wr_eq]
      exact ⟨rfl, hx⟩
    · rw [fp_wr_ne2 q, fp_wr_ne2 q]
      exact z4 i (by omega)
  · unfold k_app
    show (if k = 37 ∧ j = 0 then _ else fp_wr A 38 _ _ k j) = _
    rw [if_neg q1, fp_wr_ne q2]
  · unfold g_app
    show (if k = 49 ∧ j = 6 then _ else fp_wr B 54 _ _ k j) = _
    rw [if_neg q1, fp_wr_ne q2]
theorem w_feed_it (b : Int32) : ∀ (n z : Nat) (A B : fp_M), n ≤ 4 → w_Rc A B c → A 37 0 = nI z → z + n ≤ 120 → w_Rc (k_feed b n A) (g_feed b n B) c ∧ w_c A (k_feed b n A) ∧ w_g B (g_feed b n B) := by
  intro n
  induction n with
  | zero => intro z A B _ R _ _; exact ⟨R, w_c.rf A, w_g.rf B⟩
  | succ n ih =>
    intro z A B hn R hz hle
    have e := w_byte b n (by omega)
    obtain ⟨r1, r2, r3, r4⟩ := w_appC (x := (b >>> (8 * nI n &&& 31)) &&& 255) R hz (by omega) (w_255 _)
    obtain ⟨s1, s2, s3⟩ := ih (z + 1) _ _ (by omega) r1 r2 (by omega)
    show w_Rc (k_feed b n (k_app A _)) (g_feed b n (g_app B _)) c ∧ w_c A (k_feed b n (k_app A _)) ∧ _
    rw [e]
    exact ⟨s1, r3.tr s2, r4.tr s3⟩
theorem w_feed (R : w_Rc A B c) {b n : Int32} : w_St A B (sp_feed A b n) (sg_feed B b n) := by
  unfold sp_feed sg_feed
  obtain ⟨z, z1, z2, z3, z4⟩ := R.2.2.2.1
  by_cases h : 1 ≤ n ∧ n ≤ 4
  · rw [if_pos h, if_pos h]
    have h0 : 0 ≤ n ∧ n ≤ 4 := ⟨by
      have := Int32.le_iff_toInt_le.mp h.1
      rw [show (1 : Int32).toInt = 1 from by decide] at this
      rw [Int32.le_iff_toInt_le, show (0 : Int32).toInt = 0 from by decide]
      omega, h.2⟩
    obtain ⟨m, m1, m2⟩ := k_rng (N := 4) (K := 4) (by decide) h0
    have em : k_v n = m := by rw [m2]; exact nI_clamp (by omega)
    rw [z2, z3, em, m2, nI_add]
    by_cases q : nI (z + m) ≤ 120
    · rw [if_pos q, if_pos q]
      have q' : z + m ≤ 120 := (nI_leI (b := 120) (by omega) (by decide)).mp q
      obtain ⟨s1, s2, s3⟩ := w_feed_it b m z A B m1 R z2 q'
      obtain ⟨z', -, t2, t3, -⟩ := s1.2.2.2.1
      exact ⟨t2.trans t3.symm, s1.r, s2, s3⟩
    · rw [if_neg q, if_neg q]
      exact w_fd0 R.r (by decide) (by decide)
  · rw [if_neg h, if_neg h]
    exact w_fd0 R.r (by decide) (by decide)
/-- an office copied on both sides -/
theorem k_off_at {M : fp_M} {a b : Nat} (k j : Nat) : k_off M a b k j = if (a + 2 ≤ k ∧ k < a + 10) ∧ j < 6 then M (k - a + b) j else if k = a ∧ 1 ≤ j ∧ j ≤ 5 then M b j else if k = a + 10 ∧ j < 10 then M (b + 10) j else M k j := rfl
theorem w_O.off {a b ra rb : Nat} (h : w_O A B b rb c) : w_O (k_off A a b) (g_rowi B rb ra 63) a ra c := by
  obtain ⟨h1, h2, h3, h4, h5, h6, h7, h8, h9⟩ := h
  have f : ∀ j, 1 ≤ j → j ≤ 5 → k_off A a b a j = A b j := fun j j1 j2 => by
    rw [k_off_at, if_neg (by omega), if_pos ⟨rfl, j1, j2⟩]
  have g : ∀ j, j < 63 → g_rowi B rb ra 63 ra j = B rb j := fun j hj => if_pos ⟨rfl, hj⟩
  refine ⟨h1, ?_, ?_, ?_, ?_, ?_, ?_, fun i hi k hk => ?_, fun k hk => ?_⟩
  · rw [f 1 (by decide) (by decide)]; exact h2
  · rw [g 0 (by decide)]; exact h3
  · rw [f 4 (by decide) (by decide), g 1 (by decide)]; exact h4
  · rw [f 2 (by decide) (by decide), g 2 (by decide)]; exact h5
  · rw [f 3 (by decide) (by decide), g 3 (by decide)]; exact h6
  · rw [f 5 (by decide) (by decide), g 4 (by decide)]; exact h7
  · rw [g _ (by omega), k_off_at, if_pos ⟨by omega, hk⟩, show a + 2 + i - a + b = b + 2 + i by omega]; exact h8 i hi k hk
  · rw [g _ (by omega), k_off_at, if_neg (by omega), if_neg (by omega), if_pos ⟨rfl, hk⟩]; exact h9 k hk
theorem w_v.off {a b : Nat} (h : w_v A b c) (hc : c ≤ 8) : w_v (k_off A a b) a c := by
  obtain ⟨h1, h2, h3⟩ := h
  refine ⟨?_, fun i hi => ?_, fun k hk => ?_⟩
  · rw [k_off_at, if_neg (by omega), if_pos ⟨rfl, by decide, by decide⟩]; exact h1
  · have e : ∀ f, f < 6 → k_off A a b (a + 2 + i) f = A (b + 2 + i) f := fun f hf => by
      rw [k_off_at, if_pos ⟨by omega, hf⟩, show a + 2 + i - a + b = b + 2 + i by omega]
    unfold w_l
    rw [e 0 (by decide), e 1 (by decide), e 2 (by decide), e 3 (by decide), e 5 (by decide)]
    exact h2 i hi
  · rw [k_off_at, if_neg (by omega), if_neg (by omega), if_pos ⟨rfl, hk⟩]; exact h3 k hk
theorem k_off_o {a b k j : Nat} (h : k < a ∨ a + 11 ≤ k) : k_off A a b k j = A k j := by
  rw [k_off_at, if_neg (by omega), if_neg (by omega), if_neg (by omega)]
theorem g_row_o {a b n k j : Nat} (h : ¬ k = b) : g_rowi B a b n k j = B k j := if_neg (fun q => h q.1)
theorem w_undo (R : w_Rc A B c) : w_St A B (sp_undo A) (sg_undo B) := by
  have R' := R
  obtain ⟨O, v, ⟨K1, K2, K3⟩, -⟩ := R
  unfold sp_undo sg_undo
  rw [← K1]
  by_cases q : A 0 3 = 0
  · rw [if_pos q, if_pos q]
    exact w_fd0 R'.r (by decide) (by decide)
  · rw [if_neg q, if_neg q]
    obtain ⟨c', O2, v2⟩ := K3 q
    have O' := O2.off (a := 1) (ra := 50)
    refine w_updS R' O' (v2.off O2.1) (fun k j z => k_off_o (by omega)) (fun k j z => g_row_o z) ?_
    rw [O'.2.2.2.1]
    exact if_pos ⟨rfl, by decide⟩
theorem w_image (R : w_Rc A B c) : w_St A B (sp_image A) (1, fp_wr (g_rowi B 50 51 63) 49 3 1) := by
  have R' := R
  obtain ⟨O, v, K, h4, h5, h6⟩ := R
  have ha : ∀ k j, (k < 23 ∨ 34 ≤ k) → ¬ k = 0 → fp_wr (k_off A 23 1) 0 3 1 k j = A k j := fun k j q q2 => (fp_wr_ne q2).trans (k_off_o (by omega))
  have hb : ∀ k j, ¬ k = 49 → ¬ k = 51 → fp_wr (g_rowi B 50 51 63) 49 3 1 k j = B k j := fun k j q q2 => (fp_wr_ne q).trans (g_row_o q2)
  have O2 : w_O (fp_wr (k_off A 23 1) 0 3 1) (fp_wr (g_rowi B 50 51 63) 49 3 1) 23 51 c := (O.off (a := 23) (ra := 51)).cg (fun k j q _ => fp_wr_ne (by omega)) (fun j => fp_wr_ne (by decide))
  have v2 : w_v (fp_wr (k_off A 23 1) 0 3 1) 23 c := (v.off (a := 23) O.1).cg O.1 (fun k j q _ => fp_wr_ne (by omega))
  have t1 : fp_wr (k_off A 23 1) 0 3 1 0 3 = fp_wr (g_rowi B 50 51 63) 49 3 1 49 3 := by rw [fp_wr_eq, fp_wr_eq]
  have t2 : fp_wr (k_off A 23 1) 0 3 1 0 3 = 0 ∨ fp_wr (k_off A 23 1) 0 3 1 0 3 = 1 := Or.inr fp_wr_eq
  have t3 : fp_wr (g_rowi B 50 51 63) 49 3 1 49 6 = B 49 6 := by
    rw [fp_wr_ne2 (show ¬ 6 = 3 by decide)]
    exact g_row_o (show ¬ 49 = 51 by decide)
  exact ⟨rfl, ⟨c, O.cg (fun k j q1 q2 => ha k j (by omega) (by omega)) (fun j => hb 50 j (by decide) (by decide)), v.cg O.1 (fun k j q1 q2 => ha k j (by omega) (by omega)), ⟨t1, t2, fun _ => ⟨c, O2, v2⟩⟩, h4.cg (ha 37 0 (by omega) (by decide)) (fun i => ha 38 i (by omega) (by decide)) t3 (fun i => hb 54 i (by decide) (by decide)), fun k hk => (h5 k hk).cg (fun j => ha _ j (by omega) (by omega)) (fun j => ha _ j (by omega) (by omega)) (hb 55 k (by decide) (by decide)) (hb 56 k (by decide) (by decide)) (fun i _ => hb 57 _ (by decide) (by decide)), h6.cg (fun w => ha 40 w (by omega) (by decide)) (fun j => hb 53 j (by decide) (by decide))⟩, fun k j q => ha k j (by omega) (by omega), fun k j q => hb k j (by omega) (by omega)⟩
theorem w_tear (R : w_Rc A B c) : w_St A B (sp_tear A) ((if B 49 3 = 0 then 0 else 1), fp_wr B 49 3 0) := by
  have R' := R
  obtain ⟨O, v, ⟨K1, K2, K3⟩, h4, h5, h6⟩ := R
  have ha : ∀ k j, ¬ k = 0 → fp_wr A 0 3 0 k j = A k j := fun k j q => fp_wr_ne q
  have hb : ∀ k j, ¬ (k = 49 ∧ j = 3) → fp_wr B 49 3 0 k j = B k j := fun k j q => if_neg q
  have t0 : (if A 0 3 = 0 then (0 : Int32) else 1) = if B 49 3 = 0 then 0 else 1 := by rw [K1]
  have t1 : fp_wr A 0 3 0 0 3 = fp_wr B 49 3 0 49 3 := by rw [fp_wr_eq, fp_wr_eq]
  have t2 : fp_wr A 0 3 0 0 3 = 0 := fp_wr_eq
  exact ⟨t0, ⟨c, O.cg (fun k j q1 q2 => ha k j (by omega)) (fun j => hb 50 j (by omega)), v.cg O.1 (fun k j q1 q2 => ha k j (by omega)), ⟨t1, Or.inl t2, fun z => absurd t2 z⟩, h4.cg (ha 37 0 (by omega)) (fun i => ha 38 i (by omega)) (hb 49 6 (by omega)) (fun i => hb 54 i (by omega)), fun k hk => (h5 k hk).cg (fun j => ha _ j (by omega)) (fun j => ha _ j (by omega)) (hb 55 k (by omega)) (hb 56 k (by omega)) (fun i _ => hb 57 _ (by omega)), h6.cg (fun w => ha 40 w (by omega)) (fun j => hb 53 j (by omega))⟩, fun k j q => ha k j (by omega), fun k j q => hb k j (by omega)⟩
end WI
