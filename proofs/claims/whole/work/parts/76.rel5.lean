/-! ===== calls told alike 3: the fewest, the dearest ===== -/
theorem w_pop : ∀ o, o < 256 → ∃ p : Nat, p < 9 ∧ k_bc (nI o) = nI p := by decide +kernel
theorem w_popS : ∀ o, o < 256 → nI o &&& (nI o ^^^ (-1)) = 0 ∧ nI o &&& (nI o ^^^ (-1)) = 0 := by decide +kernel
section WF
variable {A B : fp_M} {c S : Nat} {stay : Int32}
/-- how many as few do so, up to o -/
def w_cnt (P : Nat → Bool) : Nat → Int32
  | 0 => 0
  | n + 1 => if P n = true then w_cnt P n + 1 else w_cnt P n
theorem k_first_s (P : Nat → Bool) : ∀ (n i : Nat), k_first P (n + 1) i = match k_first P n i with
    | some x => some x
    | none => if P (i + n) = true then some (i + n) else none
  | 0, i => by
    show (if P i = true then some i else none) = _
    rfl
  | n + 1, i => by
    have h := k_first_s P n (i + 1)
    show (if P i = true then some i else k_first P (n + 1) (i + 1)) = match (if P i = true then some i else k_first P n (i + 1)) with
      | some x => some x
      | none => if P (i + (n + 1)) = true then some (i + (n + 1)) else none
    by_cases q : P i = true
    · rw [if_pos q, if_pos q]
    · rw [if_neg q, if_neg q, h, show i + 1 + n = i + (n + 1) by omega]
theorem k_first_at (P : Nat → Bool) : ∀ (n i x : Nat), k_first P n i = some x → P x = true ∧ i ≤ x ∧ x < i + n
  | 0, i, x, h => by cases h
  | n + 1, i, x, h => by
    unfold k_first at h
    split at h
    · cases h
      exact ⟨by assumption, Nat.le_refl _, by omega⟩
    · obtain ⟨a, b, d⟩ := k_first_at P n (i + 1) x h
      exact ⟨a, by omega, by omega⟩
theorem k_first_no (P : Nat → Bool) : ∀ (n i : Nat), k_first P n i = none → ∀ x, i ≤ x → x < i + n → P x = false
  | 0, i, _, x, a, b => by omega
  | n + 1, i, h, x, a, b => by
    unfold k_first at h
    split at h
    · cases h
    · rename_i q
      by_cases e : x = i
      · subst e; simpa using q
      · exact k_first_no P n (i + 1) h x (by omega) (by omega)
/-- a set that would do -/
abbrev w_ok (A : fp_M) (c : Nat) (stay : Int32) (S o : Nat) : Prop := nI o &&& (nI S ^^^ (-1)) = 0 ∧ k_can A c (k_rest stay S o)
theorem w_rest (stay : Int32) (S o : Nat) : g_rest S o stay = k_rest stay S o := Int32.or_comm _ _
theorem w_few_it (O : w_O A B 1 50 c) (v : w_v A 1 c) {few : Nat} (hS : S < 256) (hf : few < 9) (hmin : ∀ o p, o ≤ S → w_ok A c stay S o → p < 9 → k_bc (nI o) = nI p → few ≤ p) : ∀ n, n ≤ S + 1 → (k_first (k_fop A c stay S (nI few)) n 0 = none ∧ w_cnt (k_fop A c stay S (nI few)) n = 0 ∧ ((k_it (g_fs B c S stay) n 0 (none, 0)).1 = none ∨ ∃ x p, (k_it (g_fs B c S stay) n 0 (none, 0)).1 = some x ∧ p < 9 ∧ k_bc (nI x) = nI p ∧ few < p)) ∨ (∃ x, k_first (k_fop A c stay S (nI few)) n 0 = some x ∧ k_it (g_fs B c S stay) n 0 (none, 0) = (some x, w_cnt (k_fop A c stay S (nI few)) n) ∧ k_bc (nI x) = nI few) := by
  intro n
  induction n with
  | zero => exact fun _ => Or.inl ⟨rfl, rfl, Or.inl rfl⟩
  | succ n ih =>
    intro hn
    have e1 := k_first_s (k_fop A c stay S (nI few)) n 0
    have e2 : k_it (g_fs B c S stay) (n + 1) 0 (none, 0) = g_fs B c S stay n (k_it (g_fs B c S stay) n 0 (none, 0)) := by
      rw [k_it_add (g_fs B c S stay) n 1 0, Nat.zero_add]
      rfl
    rw [Nat.zero_add] at e1
    rw [e2]
    obtain ⟨p, hp9, hp⟩ := w_pop n (by omega)
    have hH : g_hold B c (g_rest S n stay) ↔ k_can A c (k_rest stay S n) := by
      rw [w_rest]; exact (w_can O v _).symm
    have hP : k_fop A c stay S (nI few) n = true ↔ (w_ok A c stay S n ∧ p = few) := by
      unfold k_fop
      rw [decide_eq_true_iff]
      show ((nI n &&& (nI S ^^^ (-1)) = 0 ∧ k_bc (nI n) = nI few) ∧ k_can A c (k_rest stay S n)) ↔ _
      rw [hp]
      constructor
      · rintro ⟨⟨z1, z2⟩, z3⟩
        exact ⟨⟨z1, z3⟩, (nI_eq (by omega) (by omega)).mp z2⟩
      · rintro ⟨⟨z1, z3⟩, z2⟩
        exact ⟨⟨z1, by rw [z2]⟩, z3⟩
    have hc : w_cnt (k_fop A c stay S (nI few)) (n + 1) = if k_fop A c stay S (nI few) n = true then w_cnt (k_fop A c stay S (nI few)) n + 1 else w_cnt (k_fop A c stay S (nI few)) n := rfl
    rcases ih (by omega) with ⟨h1, h2, h3⟩ | ⟨x, h1, h2, h3⟩
    · rw [h1] at e1
      by_cases q : k_fop A c stay S (nI few) n = true
      · have q' := hP.mp q
        have e1' : k_first (k_fop A c stay S (nI few)) (n + 1) 0 = some n := by rw [e1]; exact if_pos q
        have l1 : g_le1 n (k_it (g_fs B c S stay) n 0 (none, 0)).1 ∧ g_lt1 n (k_it (g_fs B c S stay) n 0 (none, 0)).1 := by
          rcases h3 with z | ⟨x, p', z1, z2, z3, z4⟩
          · rw [z]; exact ⟨trivial, trivial⟩
          · rw [z1]
            show k_bc (nI n) ≤ k_bc (nI x) ∧ k_bc (nI n) < k_bc (nI x)
            rw [hp, z3]
            have := q'.2
            exact ⟨(nI_leI (by omega) (by omega)).mpr (by omega), (nI_ltI (by omega) (by omega)).mpr (by omega)⟩
        refine Or.inr ⟨n, e1', ?_, by rw [hp, q'.2]⟩
        rw [g_fs_lt ⟨q'.1.1, l1.1, hH.mpr q'.1.2⟩ l1.2, hc, if_pos q, h2]
        rfl
      · have e1' : k_first (k_fop A c stay S (nI few)) (n + 1) 0 = none := by rw [e1]; exact if_neg q
        refine Or.inl ⟨e1', by rw [hc, if_neg q]; exact h2, ?_⟩
        by_cases r : g_sub S n ∧ g_le1 n (k_it (g_fs B c S stay) n 0 (none, 0)).1 ∧ g_hold B c (g_rest S n stay)
        · have ok : w_ok A c stay S n := ⟨r.1, hH.mp r.2.2⟩
          have hlt : few < p := by
            have := hmin n p (by omega) ok hp9 hp
            rcases Nat.lt_or_eq_of_le this with z | z
            · exact z
            · exact absurd (hP.mpr ⟨ok, z.symm⟩) q
          by_cases r2 : g_lt1 n (k_it (g_fs B c S stay) n 0 (none, 0)).1
          · rw [g_fs_lt r r2]
            exact Or.inr ⟨n, p, rfl, hp9, hp, hlt⟩
          · rw [g_fs_eq r r2]
            exact h3
        · rw [g_fs_no r]
          exact h3
    · rw [h1] at e1
      have e1' : k_first (k_fop A c stay S (nI few)) (n + 1) 0 = some x := e1
      refine Or.inr ⟨x, e1', ?_, h3⟩
      rw [h2]
      by_cases q : k_fop A c stay S (nI few) n = true
      · have q' := hP.mp q
        have ex : k_bc (nI n) = k_bc (nI x) := by rw [hp, h3, q'.2]
        rw [g_fs_eq ⟨q'.1.1, ?_, hH.mpr q'.1.2⟩ ?_, hc, if_pos q]
        · show k_bc (nI n) ≤ k_bc (nI x)
          rw [ex]
          exact Int32.le_refl _
        · show ¬ k_bc (nI n) < k_bc (nI x)
          rw [ex]
          exact fun z => by
            have := Int32.lt_iff_toInt_lt.mp z
            omega
      · rw [g_fs_no, hc, if_neg q]
        rintro ⟨r1, r2, r3⟩
        have ok : w_ok A c stay S n := ⟨r1, hH.mp r3⟩
        have r2' : k_bc (nI n) ≤ k_bc (nI x) := r2
        rw [hp, h3] at r2'
        have l1 := (nI_leI (by omega) (by omega)).mp r2'
        have l2 := hmin n p (by omega) ok hp9 hp
        exact q (hP.mpr ⟨ok, by omega⟩)
/-- what FarPost finds: the first of the fewest -/
theorem w_fo_at (hS : S < 256) (hst : k_can A c stay) : ∀ (n few : Nat), few + n = 9 → (∀ o p, o ≤ S → w_ok A c stay S o → p < 9 → k_bc (nI o) = nI p → few ≤ p) → ∃ few', few' < 9 ∧ (∀ o p, o ≤ S → w_ok A c stay S o → p < 9 → k_bc (nI o) = nI p → few' ≤ p) ∧ k_first (k_fop A c stay S (nI few')) (S + 1) 0 = some (k_fo A c stay S n few) := by
  intro n
  induction n with
  | zero =>
    intro few hf hmin
    exfalso
    obtain ⟨p, hp9, hp⟩ := w_pop S hS
    have z := (w_popS S hS).1
    have ok : w_ok A c stay S S := by
      refine ⟨z, ?_⟩
      show k_can A c (stay ||| (nI S &&& (nI S ^^^ (-1))))
      rw [z, Int32.or_zero]
      exact hst
    have := hmin S p (Nat.le_refl S) ok hp9 hp
    omega
  | succ n ih =>
    intro few hf hmin
    unfold k_fo
    cases hk : k_first (k_fop A c stay S (nI few)) (S + 1) 0 with
    | some x => exact ⟨few, by omega, hmin, hk⟩
    | none =>
      refine ih (few + 1) (by omega) ?_
      intro o p ho ok hp9 hp
      have h1 := hmin o p ho ok hp9 hp
      have h2 := k_first_no _ _ _ hk o (Nat.zero_le o) (by omega)
      rcases Nat.lt_or_eq_of_le h1 with z | z
      · exact z
      · exfalso
        subst z
        unfold k_fop at h2
        have := of_decide_eq_false h2
        exact this ⟨⟨ok.1, hp⟩, ok.2⟩
theorem w_few (O : w_O A B 1 50 c) (v : w_v A 1 c) (hS : S < 256) (hst : k_can A c stay) : k_fo A c stay S 9 0 ≤ S ∧ g_few B c S stay = (some (k_fo A c stay S 9 0), w_cnt (k_fop A c stay S (k_bc (nI (k_fo A c stay S 9 0)))) (S + 1)) := by
  obtain ⟨few, hf, hmin, hfo⟩ := w_fo_at hS hst 9 0 (by omega) (fun o p _ _ _ _ => Nat.zero_le p)
  obtain ⟨a1, a2, a3⟩ := k_first_at _ _ _ _ hfo
  refine ⟨by omega, ?_⟩
  rcases w_few_it O v hS hf hmin (S + 1) (Nat.le_refl _) with ⟨h1, -, -⟩ | ⟨x, h1, h2, h3⟩
  · rw [h1] at hfo
    cases hfo
  · rw [h1] at hfo
    have e := Option.some.inj hfo
    rw [← e, h3]
    exact h2
theorem w_stp (few : Int32) : ∀ n, k_it (k_stp A c S few) n 0 0 = w_cnt (k_fop A c 0 S few) n := by
  intro n
  induction n with
  | zero => rfl
  | succ n ih =>
    rw [k_it_add (k_stp A c S few) n 1 0, ih, Nat.zero_add]
    show k_stp A c S few n (w_cnt (k_fop A c 0 S few) n) = if k_fop A c 0 S few n = true then _ else _
    unfold k_stp k_fop
    rw [show k_rest 0 S n = nI S &&& (nI n ^^^ (-1)) from Int32.zero_or]
    by_cases q : k_pk S few n ∧ k_can A c (nI S &&& (nI n ^^^ (-1)))
    · rw [if_pos q, if_pos (decide_eq_true q)]
    · rw [if_neg q, if_neg (fun z => q (of_decide_eq_true z))]
end WF
section WG
variable {A B : fp_M} {c : Nat}
theorem w_gcS (R : w_Rc A B c) : g_con B (B 50 1 + 0) c = k_con A 1 c (A 1 4) := by rw [Int32.add_zero, ← R.1.2.2.2.1, w_con R.1]
theorem w_strike (R : w_Rc A B c) : w_St A B ((nI (k_fo A c 0 (k_con A 1 c (A 1 4)) 9 0), A) : Int32 × fp_M) (g_ob (g_few B c (g_con B (B 50 1 + 0) c) 0).1, B) := by
  refine w_St.id R.r ?_
  rw [w_gcS R, (w_few R.1 R.2.1 (k_con_lt A 1 (A 1 4) R.1.1) (k_can_0 A c R.1.1)).2]
  rfl
theorem w_strikes (R : w_Rc A B c) : w_St A B ((k_it (k_stp A c (k_con A 1 c (A 1 4)) (k_bc (nI (k_fo A c 0 (k_con A 1 c (A 1 4)) 9 0)))) (k_con A 1 c (A 1 4) + 1) 0 0, A) : Int32 × fp_M) ((if 0 ≤ g_ob (g_few B c (g_con B (B 50 1 + 0) c) 0).1 then (g_few B c (g_con B (B 50 1 + 0) c) 0).2 else 0), B) := by
  refine w_St.id R.r ?_
  have hS := k_con_lt A 1 (c := c) (A 1 4) R.1.1
  obtain ⟨h1, h2⟩ := w_few R.1 R.2.1 hS (k_can_0 A c R.1.1)
  rw [w_gcS R, h2, w_stp]
  exact (if_pos (nI_pos' (by omega))).symm
theorem w_merge (R : w_Rc A B c) {a b : Int32} : w_St A B (sp_merge A c a b) (sg_merge B c a b) := by
  unfold sp_merge sg_merge
  by_cases h : v_set A a ∧ v_set A b
  · have hg : g_set B a ∧ g_set B b := ⟨(w_set R).mp h.1, (w_set R).mp h.2⟩
    rw [if_pos h, if_pos hg]
    by_cases q : k_can A c a
    · rw [if_pos q, if_pos ((w_can R.1 R.2.1 _).mp q)]
      refine w_St.id R.r ?_
      obtain ⟨s, hs, rfl⟩ := k_bs (w_kwf R.1 R.2.1) h.2
      have hs8 : s < 256 := Nat.lt_of_lt_of_le hs (g_p8 R.1.1)
      obtain ⟨S, hS, eS⟩ := k_and256 (b := a ^^^ (-1)) hs8
      have ek : k_v (nI s &&& (a ^^^ (-1))) = S := by rw [eS]; exact nI_clamp (by omega)
      rw [ek, (w_few R.1 R.2.1 (by omega) q).2]
      rfl
    · rw [if_neg q, if_neg (fun z => q ((w_can R.1 R.2.1 _).mpr z))]
      exact w_fd0 R.r (by decide) (by decide)
  · rw [if_neg h, if_neg (fun z => h ⟨(w_set R).mpr z.1, (w_set R).mpr z.2⟩)]
    exact w_fd0 R.r (by decide) (by decide)
/-- fewer letters hold the more -/
theorem w_sub (O : w_O A B 1 50 c) (v : w_v A 1 c) {s1 s2 : Int32} (h : ∀ i, i < c → k_isin s2 i → k_isin s1 i) (h1 : k_can A c s1) : k_can A c s2 := by
  obtain ⟨x, hx⟩ := (w_kJ O v v.1 s1).ex.mp h1
  exact (w_kJ O v v.1 s2).ex.mpr ⟨x, hx.1, fun i hi hs => hx.2 i hi (h i hi hs)⟩
theorem w_wo : ∀ S, S < 256 → ∀ i, i < 8 → (S &&& (255 - 2 ^ i)) < 256 ∧ k_wo (nI S) i = nI (S &&& (255 - 2 ^ i)) ∧ ∀ j, j < 8 → (S &&& (255 - 2 ^ i)).testBit j = (S.testBit j && !decide (j = i)) := by decide +kernel
theorem w_isT {S i : Nat} (hS : S < 256) (hi : i < 8) : k_isin (nI S) i ↔ S.testBit i = true := by
  show (nI S >>> (nI i &&& 31)) &&& 1 = 1 ↔ _
  rw [w_isin S hS i hi]
  by_cases q : S.testBit i = true
  · rw [if_pos q]; exact ⟨fun _ => q, fun _ => rfl⟩
  · rw [if_neg q]; exact ⟨fun z => absurd z (by decide), fun z => absurd z q⟩
theorem w_wos {S i j : Nat} (hS : S < 256) (hi : i < 8) (hj : j < 8) : k_isin (k_wo (nI S) i) j ↔ (k_isin (nI S) j ∧ ¬ j = i) := by
  obtain ⟨hT, e, hb⟩ := w_wo S hS i hi
  rw [e, w_isT hT hj, w_isT hS hj, hb j hj, Bool.and_eq_true]
  by_cases q : j = i
  · rw [decide_eq_true q]
    exact ⟨fun z => absurd z.2 (by decide), fun z => absurd q z.2⟩
  · rw [decide_eq_false q]
    exact ⟨fun z => ⟨z.1, q⟩, fun z => ⟨z.1, rfl⟩⟩
theorem w_cnI {i : Nat} (O : w_O A B 1 50 c) (hi : i < c) : k_isin (k_cn A c) i ↔ k_cnt A (3 + i) (A 1 3) (A 1 4) := by
  rw [w_isT (k_con_lt A 1 (A 1 4) O.1) (by have := O.1; omega)]
  unfold k_con
  rw [k_bn_bit, decide_eq_true hi, Bool.true_and]
  show decide (k_cnt A (3 + i) (A 1 3) (A 1 4)) = true ↔ _
  rw [decide_eq_true_iff]
/-- the sum of widths: at least 0 -/
theorem w_allw (w : Nat → Nat → Int32) (h : ∀ a b, a < 8 → b < 8 → 1 ≤ (w a b).toInt ∧ (w a b).toInt ≤ 1999) : 0 ≤ (k_allw w).toInt := by
  have inner : ∀ (n a b : Nat), a < 8 → b + n = 8 → ∀ (s : Int32) (u : Int), u + 2000 * n ≤ 1000000 → 0 ≤ s.toInt → s.toInt ≤ u → 0 ≤ (k_it (fun b s => s + w a b) n b s).toInt ∧ (k_it (fun b s => s + w a b) n b s).toInt ≤ u + 2000 * n := by
    intro n
    induction n with
    | zero => intro a b _ _ s u _ h3 h4; exact ⟨h3, by show s.toInt ≤ _; omega⟩
    | succ n ih =>
      intro a b ha hb s u h1 h3 h4
      rw [k_it_s]
      have hw := h a b ha (by omega)
      have e : (s + w a b).toInt = s.toInt + (w a b).toInt := q_add rfl rfl (by omega)
      obtain ⟨r1, r2⟩ := ih a (b + 1) ha (by omega) (s + w a b) (u + 2000) (by omega) (by rw [e]; omega) (by rw [e]; omega)
      exact ⟨r1, by omega⟩
  have outer : ∀ (n a : Nat), a + n = 8 → ∀ s : Int32, 0 ≤ s.toInt → s.toInt ≤ 16000 * a → 0 ≤ (k_it (fun a s => k_it (fun b s => s + w a b) (7 - a) (a + 1) s) n a s).toInt := by
    intro n
    induction n with
    | zero => intro a _ s h1 _; exact h1
    | succ n ih =>
      intro a ha s h1 h2
      rw [k_it_s]
      obtain ⟨r1, r2⟩ := inner (7 - a) a (a + 1) (by omega) (by omega) s (16000 * a) (by omega) h1 h2
      exact ih (a + 1) (by omega) _ r1 (by omega)
  exact outer 8 0 (by omega) 0 (by decide) (by decide)
end WG
