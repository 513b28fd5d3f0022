/-! ===== calls told alike 4: the dearest, tight, guesses ===== -/
section WH
variable {A B : fp_M} {c : Nat}
def w_de (P : Nat → Prop) (i : Nat) (s t : Int32 × Int32) : Prop := s.2 = t.2 ∧ ((s.1 = 0 ∧ t.1 = -1 ∧ t.2 = -1) ∨ (s.1 = t.1 ∧ 0 ≤ t.2.toInt ∧ ∃ j, j < 8 ∧ t.1 = nI j)) ∧ ∀ j, j < i → P j → 0 ≤ t.2.toInt
theorem w_dear_it (O : w_O A B 1 50 c) (v : w_v A 1 c) (set : Int32) : ∀ n, n ≤ c → w_de (fun j => g_wout B c set j) n (k_it (k_dear A c set) n 0 (0, -1)) (k_it (g_dear B c set) n 0 (-1, -1)) := by
  have h8 := O.1
  intro n
  induction n with
  | zero => exact fun _ => ⟨rfl, Or.inl ⟨rfl, rfl, rfl⟩, fun j hj => absurd hj (Nat.not_lt_zero j)⟩
  | succ n ih =>
    intro hn
    obtain ⟨h1, h2, h3⟩ := ih (by omega)
    rw [k_it_add (k_dear A c set) n 1 0, k_it_add (g_dear B c set) n 1 0, Nat.zero_add]
    obtain ⟨s, hs⟩ : ∃ s, s = k_it (k_dear A c set) n 0 (0, -1) := ⟨_, rfl⟩
    obtain ⟨t, ht⟩ : ∃ t, t = k_it (g_dear B c set) n 0 (-1, -1) := ⟨_, rfl⟩
    rw [← hs, ← ht] at h1 h2 ⊢
    rw [← ht] at h3
    show w_de _ (n + 1) (k_dear A c set n s) (g_dear B c set n t)
    have t2 : -1 ≤ t.2.toInt := by
      rcases h2 with ⟨-, -, z⟩ | ⟨-, z, -⟩
      · rw [z]; decide
      · omega
    by_cases q : g_wout B c set n
    · have q' : k_isin set n ∧ k_can A c (k_wo set n) := ⟨q.1, (w_can O v _).mpr q.2⟩
      have ew : g_dv B c set n = k_allw (k_wid (k_ch A c (k_wo set n))) := by
        unfold g_dv
        rw [if_pos q]
        exact k_allw_cg fun a b ha hb => w_wid O v q'.2 ha hb
      have w0 : 0 ≤ (k_allw (k_wid (k_ch A c (k_wo set n)))).toInt := w_allw _ fun a b ha hb => w_wid1 O v q'.2 ha hb
      unfold k_dear g_dear
      rw [ew, h1]
      by_cases l : t.2 < k_allw (k_wid (k_ch A c (k_wo set n)))
      · rw [if_pos ⟨q', l⟩, if_pos l]
        exact ⟨rfl, Or.inr ⟨rfl, w0, n, by omega, rfl⟩, fun _ _ _ => w0⟩
      · rw [if_neg (fun z => l z.2), if_neg l]
        have l' : ¬ t.2.toInt < (k_allw (k_wid (k_ch A c (k_wo set n)))).toInt := fun z => l (Int32.lt_iff_toInt_lt.mpr z)
        exact ⟨h1, h2, fun _ _ _ => by omega⟩
    · have ew : g_dv B c set n = -1 := by
        unfold g_dv
        rw [if_neg q]
      unfold k_dear g_dear
      have l : ¬ t.2 < -1 := fun z => by
        have := Int32.lt_iff_toInt_lt.mp z
        rw [show (-1 : Int32).toInt = -1 from by decide] at this
        omega
      rw [ew, if_neg (fun z => q ⟨z.1.1, (w_can O v _).mp z.1.2⟩), if_neg l]
      refine ⟨h1, h2, fun j hj hP => ?_⟩
      by_cases e : j = n
      · subst e; exact absurd hP q
      · exact h3 j (by omega) hP
theorem w_dearest (R : w_Rc A B c) : w_St A B (sp_dearest A c) (sg_dearest B c) := by
  unfold sp_dearest sg_dearest
  rw [show g_cn B c = k_cn A c from w_cn R.1]
  have h8 := R.1.1
  by_cases q : k_can A c (k_cn A c)
  · rw [if_pos ((w_can R.1 R.2.1 _).mp q)]
    obtain ⟨d1, d2, d3⟩ := w_dear_it R.1 R.2.1 (k_cn A c) c (Nat.le_refl c)
    by_cases z : k_cn A c = 0
    · rw [if_neg (fun w => w.1 z)]
      have hb : (k_it (g_dear B c (k_cn A c)) c 0 (-1, -1)) = (-1, -1) := by
        refine k_it_ind (fun s => s = ((-1, -1) : Int32 × Int32)) (fun i s hs => ?_) c 0 _ rfl
        rw [hs, z]
        have no : ¬ g_wout B c 0 i := fun w => by
          have := w.1
          unfold k_isin at this
          rw [Int32.zero_shiftRight] at this
          exact absurd this (by decide)
        unfold g_dear g_dv
        rw [if_neg no]
        rfl
      rw [hb, if_neg (show ¬ (0 : Int32) ≤ -1 by decide)]
      show w_St A B _ (_, g_db B (-1))
      rw [show g_db B (-1) = g_fd B 3 from if_neg (by decide)]
      exact w_fd0 R.r (by decide) (by decide)
    · rw [if_pos ⟨z, q⟩]
      have hS : ¬ k_con A 1 c (A 1 4) = 0 := fun w => z (by show nI (k_con A 1 c (A 1 4)) = 0; rw [w]; rfl)
      obtain ⟨i, hi⟩ := Nat.exists_testBit_of_ne_zero hS
      have hi' := hi
      unfold k_con at hi'
      rw [k_bn_bit, Bool.and_eq_true] at hi'
      have hic : i < c := of_decide_eq_true hi'.1
      have hin : k_isin (k_cn A c) i := (w_isT (k_con_lt A 1 (A 1 4) h8) (by omega)).mpr hi
      have hwo : g_wout B c (k_cn A c) i := ⟨hin, (w_can R.1 R.2.1 _).mp (w_sub R.1 R.2.1 (fun j hj hs => ((w_wos (k_con_lt A 1 (A 1 4) h8) (by omega) (by omega)).mp hs).1) q)⟩
      have h0 := d3 i hic hwo
      rcases d2 with ⟨-, -, w⟩ | ⟨w1, -, j, j1, j2⟩
      · rw [w] at h0
        exact absurd h0 (by decide)
      · have hp : (0 : Int32) ≤ (k_it (g_dear B c (k_cn A c)) c 0 (-1, -1)).1 := by rw [j2]; exact nI_pos' (by omega)
        rw [if_pos hp, show g_db B (k_it (g_dear B c (k_cn A c)) c 0 (-1, -1)).1 = B from if_pos hp]
        exact w_St.id R.r w1
  · rw [if_neg (fun w => q w.2), if_neg (fun w => q ((w_can R.1 R.2.1 _).mpr w))]
    exact w_fd0 R.r (by decide) (by decide)
theorem w_cnS {s : Int32} : k_cn (fp_wr A 1 2 s) c = k_cn A c := by
  refine congrArg nI (k_bn_cg c fun i _ => decide_eq_decide.mpr ?_)
  have e : fp_wr A 1 2 s (1 + 2 + i) = A (1 + 2 + i) := fp_wr_row (by omega)
  show k_cnt (fp_wr A 1 2 s) (1 + 2 + i) (fp_wr A 1 2 s 1 3) (fp_wr A 1 2 s 1 4) ↔ _
  unfold k_cnt
  rw [e, fp_wr_ne2 (show ¬ 3 = 2 by decide), fp_wr_ne2 (show ¬ 4 = 2 by decide)]
theorem w_9 : ∀ n, n < 10 → 0 ≤ (9 : Int32) - nI n ∧ (9 : Int32) - nI n ≤ 9 := by decide +kernel
theorem w_tightE (R : w_Rc A B c) : g_tight B c 10 0 = k_tight A c (k_cn A c) 10 0 := by
  refine k_first_cg' 10 0 fun n _ hn => decide_eq_decide.mpr ?_
  have hs := w_9 n (by omega)
  have O' := R.1.wf (ja := 2) (jb := 2) (v := 9 - nI n) (by decide)
  have v' : w_v (fp_wr A 1 2 (9 - nI n)) 1 c := R.2.1.wf (fun _ => hs)
  have e := q_same (w_kJ R.1 R.2.1 hs (k_cn A c)) (w_gL O' v' (k_cn A c)) (q_P_cg fun i _ => by
    have er : fp_wr A 1 2 (9 - nI n) (3 + i) = A (3 + i) := fp_wr_row (by omega)
    unfold q_f q_t q_lo q_hi
    rw [er, fp_wr_eq]
    exact ⟨rfl, rfl, rfl, rfl, Iff.rfl⟩)
  show ¬ g_hold (fp_wr B 50 2 (9 - nI n)) c (g_cn (fp_wr B 50 2 (9 - nI n)) c) ↔ _
  rw [show g_cn (fp_wr B 50 2 (9 - nI n)) c = k_cn A c from (w_cn O').trans w_cnS]
  constructor
  · intro z
    exact Classical.byContradiction fun w => z (e.1.mp w)
  · intro z w
    exact (e.1.mpr w) z
theorem w_tight (R : w_Rc A B c) : w_St A B ((k_wv (k_tight A c (k_cn A c) 10 0) (fun n => 9 - nI n) 3, k_wb A (k_tight A c (k_cn A c) 10 0) 3) : Int32 × fp_M) (g_tv B (g_tight B c 10 0)) := by
  rw [w_tightE R]
  cases k_tight A c (k_cn A c) 10 0 with
  | none => exact w_fd0 R.r (by decide) (by decide)
  | some n => exact w_St.id R.r rfl
/-- a guess fits in both offices alike -/
theorem w_gfit (R : w_Rc A B c) {n j : Nat} {x : Int32} (hn : n < c) (hj : (j = 0 ∧ 0 ≤ x ∧ x ≤ 6) ∨ (j = 3 ∧ -99 ≤ x ∧ x ≤ 99)) : ¬ k_gf (fp_wr (k_gs A c n) 36 j x) = 0 ↔ g_fit (fp_wr B 50 (5 + 6 * n + j) x) c := by
  have h8 := R.1.1
  have j6 : j < 6 := by omega
  have er : 1 + 2 + n = 3 + n := by omega
  -- the letter changed in both offices
  have O' : w_O (fp_wr A (3 + n) j x) (fp_wr B 50 (5 + 6 * n + j) x) 1 50 c := by
    have := R.1.wl (v := x) hn j6
    rw [er] at this
    exact this
  have hl := R.2.1.2.1 n hn
  rw [er] at hl
  have v' : w_v (fp_wr A (3 + n) j x) 1 c := by
    have key : w_l (fun k => if k = j then x else A (1 + 2 + n) k) := by
      rw [er]
      obtain ⟨l1, ⟨f, t, l2, l3, l4, l5, l6⟩, l7, l8⟩ := hl
      rcases hj with ⟨rfl, z⟩ | ⟨rfl, z⟩
      · exact ⟨z, ⟨f, t, l2, l3, l4, l5, l6⟩, l7, l8⟩
      · exact ⟨l1, ⟨f, t, l2, l3, l4, l5, l6⟩, z, l8⟩
    have := R.2.1.wl (f := j) (v := x) h8 hn key
    rw [er] at this
    exact this
  -- the chart of the others
  have eL : ∀ k i, 1 ≤ k → k < 1 + 11 → k_let A 36 (3 + n) k i = A k i := fun k i _ hk => if_neg (by omega)
  have OL : w_O (k_let A 36 (3 + n)) B 1 50 c := R.1.cg eL (fun _ => rfl)
  have vL : w_v (k_let A 36 (3 + n)) 1 c := R.2.1.cg h8 eL
  have JG : q_J (k_gs A c n) (w_P A c (A 1 2) (k_wo (k_cn A c) n)) := by
    refine (w_kJ OL vL R.2.1.1 (k_wo (k_cn A c) n)).cg (q_P_cg fun i hi => ?_)
    have e : k_let A 36 (3 + n) (3 + i) = A (3 + i) := funext fun k => eL _ _ (by omega) (by omega)
    unfold q_f q_t q_lo q_hi
    rw [e]
    exact ⟨rfl, rfl, rfl, rfl, Iff.rfl⟩
  have eo : ∀ i, i < c → ¬ i = n → fp_wr A (3 + n) j x (3 + i) = A (3 + i) := fun i _ hin => fp_wr_row (by omega)
  have e13 : fp_wr A (3 + n) j x 1 3 = A 1 3 := fp_wr_ne (by omega)
  have e14 : fp_wr A (3 + n) j x 1 4 = A 1 4 := fp_wr_ne (by omega)
  have e12 : fp_wr A (3 + n) j x 1 2 = A 1 2 := fp_wr_ne (by omega)
  have hS := k_con_lt A 1 (c := c) (A 1 4) h8
  have isn : ∀ i, i < c → ¬ i = n → (k_isin (k_cn (fp_wr A (3 + n) j x) c) i ↔ k_isin (k_wo (k_cn A c) n) i) := by
    intro i hi hin
    rw [w_cnI O' hi, w_wos hS (by omega) (by omega), w_cnI R.1 hi, e13, e14]
    unfold k_cnt
    rw [eo i hi hin]
    exact ⟨fun z => ⟨z, hin⟩, fun z => z.1⟩
  have hP : ∀ y, w_P (fp_wr A (3 + n) j x) c (fp_wr A (3 + n) j x 1 2) (k_cn (fp_wr A (3 + n) j x) c) y ↔ (w_P A c (A 1 2) (k_wo (k_cn A c) n) y ∧ (k_isin (k_cn (fp_wr A (3 + n) j x) c) n → q_lo (fp_wr A (3 + n) j x) (A 1 2) n ≤ y (q_t (fp_wr A (3 + n) j x) n) - y (q_f (fp_wr A (3 + n) j x) n) ∧ y (q_t (fp_wr A (3 + n) j x) n) - y (q_f (fp_wr A (3 + n) j x) n) ≤ q_hi (fp_wr A (3 + n) j x) (A 1 2) n)) := by
    intro y
    rw [e12]
    constructor
    · rintro ⟨a1, a2⟩
      refine ⟨⟨a1, fun i hi his => ?_⟩, a2 n hn⟩
      have hin : ¬ i = n := fun z => by
        have := ((w_wos hS (by omega) (by omega)).mp his).2
        exact this z
      have := a2 i hi ((isn i hi hin).mpr his)
      unfold q_f q_t q_lo q_hi at this
      rw [eo i hi hin] at this
      exact this
    · rintro ⟨⟨a1, a2⟩, a3⟩
      refine ⟨a1, fun i hi his => ?_⟩
      by_cases hin : i = n
      · subst hin; exact a3 his
      · have := a2 i hi ((isn i hi hin).mp his)
        unfold q_f q_t q_lo q_hi
        rw [eo i hi hin]
        exact this
  have hfit : g_fit (fp_wr B 50 (5 + 6 * n + j) x) c ↔ ∃ y, w_P (fp_wr A (3 + n) j x) c (fp_wr A (3 + n) j x 1 2) (k_cn (fp_wr A (3 + n) j x) c) y := by
    show g_hold _ c (g_cn _ c) ↔ _
    rw [show g_cn (fp_wr B 50 (5 + 6 * n + j) x) c = k_cn (fp_wr A (3 + n) j x) c from w_cn O', ← w_can O' v']
    exact (w_kJ O' v' v'.1 _).ex
  rw [hfit]
  -- the guess itself
  have g36 : ∀ f, f < 6 → fp_wr (k_gs A c n) 36 j x 36 f = fp_wr A (3 + n) j x (3 + n) f := by
    intro f hf
    by_cases z : f = j
    · subst z; rw [fp_wr_eq, fp_wr_eq]
    · rw [fp_wr_ne2 z, fp_wr_ne2 z]; exact k_gs_36 A c n f hf
  have gE := k_gs_eg A c n
  have g12 : fp_wr (k_gs A c n) 36 j x 1 2 = A 1 2 := (fp_wr_ne (by decide)).trans (gE 1 2 (by decide) (by decide) (by decide))
  have g13 : fp_wr (k_gs A c n) 36 j x 1 3 = A 1 3 := (fp_wr_ne (by decide)).trans (gE 1 3 (by decide) (by decide) (by decide))
  have g14 : fp_wr (k_gs A c n) 36 j x 1 4 = A 1 4 := (fp_wr_ne (by decide)).trans (gE 1 4 (by decide) (by decide) (by decide))
  have g34 : fp_wr (k_gs A c n) 36 j x 34 0 = k_gs A c n 34 0 := fp_wr_ne (by decide)
  have gT : ∀ a b, k_T (fp_wr (k_gs A c n) 36 j x) a b = k_T (k_gs A c n) a b := fun a b => fp_wr_ne (by decide)
  have hcnt : k_cnt (fp_wr (k_gs A c n) 36 j x) 36 (fp_wr (k_gs A c n) 36 j x 1 3) (fp_wr (k_gs A c n) 36 j x 1 4) ↔ k_isin (k_cn (fp_wr A (3 + n) j x) c) n := by
    rw [w_cnI O' hn, e13, e14, g13, g14]
    unfold k_cnt
    rw [g36 0 (by decide), g36 3 (by decide), g36 4 (by decide), g36 5 (by decide)]
  obtain ⟨w1, w2, w3, w4, w5⟩ := w_gl O' v' n hn
  have bd := w_lb v' R.2.1.1 n hn
  unfold k_gf
  rw [g34]
  rcases JG with ⟨a1, a2, a3, a4⟩ | ⟨a1, a2⟩
  · have bT := a2.bd a3
    by_cases hc : k_cnt (fp_wr (k_gs A c n) 36 j x) 36 (fp_wr (k_gs A c n) 36 j x 1 3) (fp_wr (k_gs A c n) 36 j x 1 4)
    · have hin := hcnt.mp hc
      rw [if_neg (fun z => z.elim (fun z => absurd (a1.symm.trans z) (by decide)) (fun z => z hc)), bi_1, g12, gT, gT, g36 0 (by decide), g36 1 (by decide), g36 2 (by decide), g36 3 (by decide)]
      have b1 := bT _ _ w3 w4
      have b2 := bT _ _ w4 w3
      have en : (-(k_T (k_gs A c n) (k_v (fp_wr A (3 + n) j x (3 + n) 2)) (k_v (fp_wr A (3 + n) j x (3 + n) 1)))).toInt = -(q_T (k_gs A c n) (q_t (fp_wr A (3 + n) j x) n) (q_f (fp_wr A (3 + n) j x) n)) := q_neg rfl (by omega)
      rw [Int32.le_iff_toInt_le, Int32.le_iff_toInt_le, en]
      constructor
      · rintro ⟨z1, z2⟩
        have z1' : q_lo (fp_wr A (3 + n) j x) (A 1 2) n ≤ q_T (k_gs A c n) (q_f (fp_wr A (3 + n) j x) n) (q_t (fp_wr A (3 + n) j x) n) := z1
        have z2' : -(q_T (k_gs A c n) (q_t (fp_wr A (3 + n) j x) n) (q_f (fp_wr A (3 + n) j x) n)) ≤ q_hi (fp_wr A (3 + n) j x) (A 1 2) n := z2
        have cl := a2.2 _ _ _ w3 w3 w4
        have c0 := a2.1 _ w3
        by_cases le : q_lo (fp_wr A (3 + n) j x) (A 1 2) n ≤ -(q_T (k_gs A c n) (q_t (fp_wr A (3 + n) j x) n) (q_f (fp_wr A (3 + n) j x) n))
        · obtain ⟨y, y1, y2⟩ := a2.mid w3 w4 (Int.le_refl _) (by omega)
          exact ⟨y, (hP y).mpr ⟨(a4 y).mp y1, fun _ => by omega⟩⟩
        · obtain ⟨y, y1, y2⟩ := a2.mid w3 w4 (v := q_lo (fp_wr A (3 + n) j x) (A 1 2) n) (by omega) z1'
          exact ⟨y, (hP y).mpr ⟨(a4 y).mp y1, fun _ => by omega⟩⟩
      · rintro ⟨y, hy⟩
        obtain ⟨y1, y2⟩ := (hP y).mp hy
        have y3 := y2 hin
        have y4 := (a4 y).mpr y1
        have y5 := y4 _ _ w3 w4
        have y6 := y4 _ _ w4 w3
        constructor
        · show q_lo (fp_wr A (3 + n) j x) (A 1 2) n ≤ q_T (k_gs A c n) (q_f (fp_wr A (3 + n) j x) n) (q_t (fp_wr A (3 + n) j x) n)
          omega
        · show -(q_T (k_gs A c n) (q_t (fp_wr A (3 + n) j x) n) (q_f (fp_wr A (3 + n) j x) n)) ≤ q_hi (fp_wr A (3 + n) j x) (A 1 2) n
          omega
    · rw [if_pos (Or.inr hc), a1]
      refine ⟨fun _ => ?_, fun _ => by decide⟩
      have y1 := (a4 _).mp (a2.pt (show 0 < 8 by decide))
      exact ⟨_, (hP _).mpr ⟨y1, fun z => absurd (hcnt.mpr z) hc⟩⟩
  · rw [if_pos (Or.inl a1)]
    exact ⟨fun z => absurd a1 z, fun ⟨y, hy⟩ => absurd ((hP y).mp hy).1 (a2 y)⟩
theorem w_kv (R : w_Rc A B c) {l : Int32} (h : v_let A l) : k_v l < c := (w_lv R h).2
theorem w_6 : ∀ i, i < 7 → 0 ≤ nI i ∧ nI i ≤ 6 := by decide +kernel
theorem w_99 : ∀ i, i < 199 → -99 ≤ nI i - 99 ∧ nI i - 99 ≤ 99 := by decide +kernel
theorem w_kinds (R : w_Rc A B c) {l : Int32} : w_St A B (sp_kinds A c l) (sg_kinds B c l) := by
  unfold sp_kinds sg_kinds
  by_cases h : v_let A l
  · rw [if_pos h, if_pos ((w_let R).mp h)]
    refine w_St.id R.r (congrArg nI (k_bn_cg 7 fun i hi => decide_eq_decide.mpr ?_))
    exact w_gfit R (w_kv R h) (Or.inl ⟨rfl, w_6 i hi⟩)
  · rw [if_neg h, if_neg (fun z => h ((w_let R).mpr z))]
    exact w_fd0 R.r (by decide) (by decide)
theorem w_daysC (R : w_Rc A B c) {l : Int32} : w_St A B (sp_days A c l) (sg_days B c l) := by
  unfold sp_days sg_days
  by_cases h : v_let A l
  · rw [if_pos h, if_pos ((w_let R).mp h)]
    refine w_St.id R.r (k_it_cg 199 0 (fun i _ hi z => ?_) 0)
    have e := w_gfit R (w_kv R h) (Or.inr ⟨rfl, w_99 i (by omega)⟩)
    unfold k_dayn g_dayn
    by_cases q : k_gf (fp_wr (k_gs A c (k_v l)) 36 3 (nI i - 99)) = 0
    · rw [if_pos q, if_neg (fun w => e.mpr w q), Int32.add_zero]
    · rw [if_neg q, if_pos (e.mp q)]
  · rw [if_neg h, if_neg (fun z => h ((w_let R).mpr z))]
    exact w_fd0 R.r (by decide) (by decide)
theorem w_fewest (R : w_Rc A B c) {l : Int32} : w_St A B (sp_fewest A c l) (sg_fewest B c l) := by
  unfold sp_fewest sg_fewest
  by_cases h : v_let A l
  · rw [if_pos h, if_pos ((w_let R).mp h)]
    have e : g_dayf B c (k_v l) 199 0 = k_dayf (k_gs A c (k_v l)) 199 0 := by
      refine k_first_cg' 199 0 fun i _ hi => decide_eq_decide.mpr ?_
      exact (w_gfit R (w_kv R h) (Or.inr ⟨rfl, w_99 i (by omega)⟩)).symm
    rw [e]
    exact w_wb R _ _
  · rw [if_neg h, if_neg (fun z => h ((w_let R).mpr z))]
    exact w_fd0 R.r (by decide) (by decide)
end WH
