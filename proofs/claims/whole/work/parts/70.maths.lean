/-! ===== maps: what a matrix of limits says, over whole numbers ===== -/
abbrev q_M : Type := Nat → Nat → Int
abbrev q_x : Type := Nat → Int
def q_S (D : q_M) (x : q_x) : Prop := ∀ a b, a < 8 → b < 8 → x b - x a ≤ D a b
def q_C (D : q_M) : Prop := (∀ a, a < 8 → D a a = 0) ∧ ∀ a b k, a < 8 → b < 8 → k < 8 → D a b ≤ D a k + D k b
theorem q_C.pt {D : q_M} (h : q_C D) {a : Nat} (ha : a < 8) : q_S D (fun k => D a k) := by
  intro i j hi hj
  have h1 := h.2 a j i ha hj hi
  show D a j - D a i ≤ D i j
  omega
theorem q_C.le {D E : q_M} (h : q_C D) (hs : ∀ x, q_S D x → q_S E x) {a b : Nat} (ha : a < 8) (hb : b < 8) : D a b ≤ E a b := by
  have h1 : D a b - D a a ≤ E a b := hs _ (h.pt ha) a b ha hb
  have h2 := h.1 a ha
  omega
theorem q_C.eq {D E : q_M} (h : q_C D) (h' : q_C E) (hs : ∀ x, q_S D x ↔ q_S E x) {a b : Nat} (ha : a < 8) (hb : b < 8) : D a b = E a b := Int.le_antisymm (h.le (fun x => (hs x).mp) ha hb) (h'.le (fun x => (hs x).mpr) ha hb)
/-- one limit more -/
def q_lim (T : q_M) (a b : Nat) (m : Int) : q_M := fun i j => if T i a + m + T b j < T i j then T i a + m + T b j else T i j
theorem q_lim_C {T : q_M} {a b : Nat} {m : Int} (h : q_C T) (ha : a < 8) (hb : b < 8) (hm : -(T b a) ≤ m) : q_C (q_lim T a b m) := by
  refine ⟨fun i hi => ?_, fun p q k hp hq hk => ?_⟩
  · have h1 := h.2 b a i hb ha hi
    have h2 := h.1 i hi
    unfold q_lim
    split <;> omega
  · have h1 := h.2 p q k hp hq hk
    have h2 := h.2 p a k hp ha hk
    have h3 := h.2 b q k hb hq hk
    have h4 := h.2 b a k hb ha hk
    unfold q_lim
    split <;> split <;> split <;> omega
theorem q_lim_S {T : q_M} {a b : Nat} {m : Int} (h : q_C T) (ha : a < 8) (hb : b < 8) (x : q_x) : q_S (q_lim T a b m) x ↔ (q_S T x ∧ x b - x a ≤ m) := by
  constructor
  · intro hs
    refine ⟨fun i j hi hj => ?_, ?_⟩
    · have h1 := hs i j hi hj
      unfold q_lim at h1
      split at h1 <;> omega
    · have h1 := hs a b ha hb
      have h2 := h.1 a ha
      have h3 := h.1 b hb
      unfold q_lim at h1
      split at h1 <;> omega
  · intro hs i j hi hj
    have h1 := hs.1 i j hi hj
    have h2 := hs.1 i a hi ha
    have h3 := hs.1 b j hb hj
    have h4 := hs.2
    unfold q_lim
    split <;> omega
theorem q_add {x y : Int32} {a b : Int} (hx : x.toInt = a) (hy : y.toInt = b) (h : -2147483648 ≤ a + b ∧ a + b < 2147483648) : (x + y).toInt = a + b := by
  rw [Int32.toInt_add, hx, hy]
  exact Int.bmod_eq_of_le (by omega) (by omega)
theorem q_sub {x y : Int32} {a b : Int} (hx : x.toInt = a) (hy : y.toInt = b) (h : -2147483648 ≤ a - b ∧ a - b < 2147483648) : (x - y).toInt = a - b := by
  rw [Int32.toInt_sub, hx, hy]
  exact Int.bmod_eq_of_le (by omega) (by omega)
theorem q_neg {x : Int32} {a : Int} (hx : x.toInt = a) (h : -2147483648 < a ∧ a < 2147483648) : (-x).toInt = -a := by
  rw [Int32.toInt_neg, hx]
  exact Int.bmod_eq_of_le (by omega) (by omega)
/-! ===== the chart ===== -/
def q_T (M : fp_M) : q_M := fun a b => (M 35 (8 * a + b)).toInt
theorem q_limj_it {F : q_M} {a b i : Nat} {m : Int} {tb : Int32} (ha : a < 8) (hb : b < 8) (hi : i < 8) (hF : ∀ p q, p < 8 → q < 8 → -999 ≤ F p q ∧ F p q ≤ 999) (htb : tb.toInt = F i a + m) (hm : -(F b a) ≤ m ∧ m ≤ 999) : ∀ (n j : Nat), j + n = 8 → ∀ N : fp_M, (∀ p q, p < 8 → q < 8 → (N 35 (8 * p + q)).toInt = if p < i ∨ (p = i ∧ q < j) then q_lim F a b m p q else F p q) → ∀ p q, p < 8 → q < 8 → (k_it (k_limj i b tb) n j N 35 (8 * p + q)).toInt = if p < i + 1 then q_lim F a b m p q else F p q := by
  intro n
  induction n with
  | zero =>
    intro j hj N H p q hp hq
    show (N 35 (8 * p + q)).toInt = _
    rw [H p q hp hq]
    by_cases h1 : p < i + 1
    · rw [if_pos h1, if_pos (by omega)]
    · rw [if_neg h1, if_neg (by omega)]
  | succ n ih =>
    intro j hj N H
    rw [k_it_s]
    refine ih (j + 1) (by omega) _ ?_
    have hj8 : j < 8 := by omega
    have hbj : q_lim F a b m b j = F b j := by
      unfold q_lim
      rw [if_neg]
      omega
    have e1 : (k_T N b j).toInt = F b j := by
      show (N 35 (8 * b + j)).toInt = _
      rw [H b j hb hj8, hbj, ite_self]
    have e2 : (k_T N i j).toInt = F i j := by
      show (N 35 (8 * i + j)).toInt = _
      rw [H i j hi hj8, if_neg (by omega)]
    have f1 := hF i a hi ha
    have f2 := hF b j hb hj8
    have f3 := hF b a hb ha
    have e3 : (tb + k_T N b j).toInt = F i a + m + F b j := q_add htb e1 (by omega)
    intro p q hp hq
    by_cases hpq : p = i ∧ q = j
    · obtain ⟨rfl, rfl⟩ := hpq
      rw [if_pos (by omega)]
      unfold k_limj q_lim
      by_cases hc : tb + k_T N b q < k_T N p q
      · have hc' := Int32.lt_iff_toInt_lt.mp hc
        rw [e3, e2] at hc'
        rw [if_pos hc, if_pos hc', fp_wr_eq, e3]
      · have hc' : ¬ F p a + m + F b q < F p q := fun z => hc (Int32.lt_iff_toInt_lt.mpr (by rw [e3, e2]; exact z))
        rw [if_neg hc, if_neg hc']
        exact e2
    · have hne : k_limj i b tb j N 35 (8 * p + q) = N 35 (8 * p + q) := by
        unfold k_limj
        split
        · exact fp_wr_ne2 (by omega)
        · rfl
      rw [hne, H p q hp hq]
      by_cases h1 : p < i ∨ (p = i ∧ q < j)
      · rw [if_pos h1, if_pos (by omega)]
      · rw [if_neg h1, if_neg (by omega)]
theorem q_limi_it {F : q_M} {a b : Nat} {m : Int32} (ha : a < 8) (hb : b < 8) (hF : ∀ p q, p < 8 → q < 8 → -999 ≤ F p q ∧ F p q ≤ 999) (hm : -(F b a) ≤ m.toInt ∧ m.toInt ≤ 999) : ∀ (n i : Nat), i + n = 8 → ∀ N : fp_M, (∀ p q, p < 8 → q < 8 → (N 35 (8 * p + q)).toInt = if p < i then q_lim F a b m.toInt p q else F p q) → ∀ p q, p < 8 → q < 8 → (k_it (k_limi a b m) n i N 35 (8 * p + q)).toInt = q_lim F a b m.toInt p q := by
  intro n
  induction n with
  | zero =>
    intro i hi N H p q hp hq
    show (N 35 (8 * p + q)).toInt = _
    rw [H p q hp hq, if_pos (by omega)]
  | succ n ih =>
    intro i hi N H
    rw [k_it_s]
    refine ih (i + 1) (by omega) _ ?_
    have hi8 : i < 8 := by omega
    have f1 := hF i a hi8 ha
    have f3 := hF b a hb ha
    have e1 : (k_T N i a).toInt = F i a := by
      show (N 35 (8 * i + a)).toInt = _
      rw [H i a hi8 ha, if_neg (by omega)]
    have htb : (k_T N i a + m).toInt = F i a + m.toInt := q_add e1 rfl (by omega)
    unfold k_limi
    refine q_limj_it ha hb hi8 hF htb hm 8 0 (by omega) N ?_
    intro p q hp hq
    rw [H p q hp hq]
    by_cases h1 : p < i
    · rw [if_pos h1, if_pos (by omega)]
    · rw [if_neg h1, if_neg (by omega)]
theorem q_limi_34 (a b : Nat) (m : Int32) (n i : Nat) (M : fp_M) : k_it (k_limi a b m) n i M 34 0 = M 34 0 := by
  refine k_it_ind (fun N : fp_M => N 34 0 = M 34 0) ?_ n i M rfl
  intro i N h
  unfold k_limi
  refine k_it_ind (fun S : fp_M => S 34 0 = M 34 0) ?_ 8 0 N h
  intro j S h
  unfold k_limj
  split
  · rw [fp_wr_ne (by decide)]; exact h
  · exact h
/-- the chart tells what P says -/
def q_J (M : fp_M) (P : q_x → Prop) : Prop := (M 34 0 = 1 ∧ q_C (q_T M) ∧ (∀ a b, a < 8 → b < 8 → q_T M a b ≤ 999) ∧ ∀ x, q_S (q_T M) x ↔ P x) ∨ (M 34 0 = 0 ∧ ∀ x, ¬ P x)
theorem q_J.cg {M : fp_M} {P Q : q_x → Prop} (h : q_J M P) (e : ∀ x, P x ↔ Q x) : q_J M Q := by
  rcases h with ⟨h1, h2, h3, h4⟩ | ⟨h1, h2⟩
  · exact Or.inl ⟨h1, h2, h3, fun x => (h4 x).trans (e x)⟩
  · exact Or.inr ⟨h1, fun x hx => h2 x ((e x).mpr hx)⟩
theorem q_C.bd {T : q_M} (h : q_C T) (h9 : ∀ a b, a < 8 → b < 8 → T a b ≤ 999) : ∀ a b, a < 8 → b < 8 → -999 ≤ T a b ∧ T a b ≤ 999 := by
  intro a b ha hb
  have h1 := h.2 a a b ha ha hb
  have h2 := h.1 a ha
  have h3 := h9 b a hb ha
  have h4 := h9 a b ha hb
  omega
theorem q_lim_J {M : fp_M} {a b : Nat} {m : Int32} {P : q_x → Prop} (ha : a < 8) (hb : b < 8) (h : q_J M P) : q_J (k_lim M a b m) (fun x => P x ∧ x b - x a ≤ m.toInt) := by
  unfold k_lim
  rcases h with ⟨h1, h2, h3, h4⟩ | ⟨h1, h2⟩
  · have hbd := h2.bd h3
    have b1 := hbd a b ha hb
    have b2 := hbd b a hb ha
    have en : (-(k_T M b a)).toInt = -(q_T M b a) := q_neg rfl (by omega)
    by_cases c1 : k_T M a b ≤ m
    · have c1' : q_T M a b ≤ m.toInt := Int32.le_iff_toInt_le.mp c1
      rw [if_pos (Or.inr c1)]
      refine Or.inl ⟨h1, h2, h3, fun x => ⟨fun hx => ⟨(h4 x).mp hx, ?_⟩, fun hx => (h4 x).mpr hx.1⟩⟩
      have := hx a b ha hb
      omega
    · have c1' : ¬ q_T M a b ≤ m.toInt := fun z => c1 (Int32.le_iff_toInt_le.mpr z)
      rw [if_neg (fun z => z.elim (fun z => absurd (h1.symm.trans z) (by decide)) c1)]
      by_cases c2 : m < -(k_T M b a)
      · have c2' := Int32.lt_iff_toInt_lt.mp c2
        rw [en] at c2'
        rw [if_pos c2]
        refine Or.inr ⟨fp_wr_eq, fun x hx => ?_⟩
        have h5 := (h4 x).mpr hx.1 b a hb ha
        have h6 := hx.2
        omega
      · have c2' : ¬ m.toInt < -(q_T M b a) := fun z => c2 (Int32.lt_iff_toInt_lt.mpr (by rw [en]; exact z))
        rw [if_neg c2]
        have hm : -(q_T M b a) ≤ m.toInt ∧ m.toInt ≤ 999 := by omega
        have key : ∀ p q, p < 8 → q < 8 → q_T (k_it (k_limi a b m) 8 0 M) p q = q_lim (q_T M) a b m.toInt p q := q_limi_it ha hb hbd hm 8 0 (by omega) M (fun p q hp hq => by rw [if_neg (by omega)]; rfl)
        have hC := q_lim_C h2 ha hb hm.1
        refine Or.inl ⟨(q_limi_34 a b m 8 0 M).trans h1, ⟨fun p hp => ?_, fun p q k hp hq hk => ?_⟩, fun p q hp hq => ?_, fun x => ?_⟩
        · rw [key p p hp hp]; exact hC.1 p hp
        · rw [key p q hp hq, key p k hp hk, key k q hk hq]; exact hC.2 p q k hp hq hk
        · rw [key p q hp hq]
          have h5 := h3 p q hp hq
          unfold q_lim
          split <;> omega
        · refine Iff.trans ⟨fun hx p q hp hq => ?_, fun hx p q hp hq => ?_⟩ ((q_lim_S (m := m.toInt) h2 ha hb x).trans ⟨fun hx => ⟨(h4 x).mp hx.1, hx.2⟩, fun hx => ⟨(h4 x).mpr hx.1, hx.2⟩⟩)
          · have := hx p q hp hq
            rw [key p q hp hq] at this
            exact this
          · rw [key p q hp hq]; exact hx p q hp hq
  · rw [if_pos (Or.inl h1)]
    exact Or.inr ⟨h1, fun x hx => h2 x hx.1⟩
theorem q_nar_J {M : fp_M} {a b : Nat} {l m : Int32} {P : q_x → Prop} (ha : a < 8) (hb : b < 8) (hl : -2147483648 < l.toInt) (h : q_J M P) : q_J (k_nar M a b l m) (fun x => P x ∧ (l.toInt ≤ x b - x a ∧ x b - x a ≤ m.toInt)) := by
  refine (q_lim_J hb ha (q_lim_J ha hb h)).cg fun x => ?_
  have h2 := Int32.toInt_lt l
  have en : (-l).toInt = -l.toInt := q_neg rfl (by omega)
  rw [en]
  constructor
  · rintro ⟨⟨z1, z2⟩, z3⟩
    exact ⟨z1, by omega, z2⟩
  · rintro ⟨z1, z2, z3⟩
    exact ⟨⟨z1, z3⟩, by omega⟩
/-- all the limits of a set of letters -/
def q_P (f t : Nat → Nat) (lo hi : Nat → Int) (S : Nat → Prop) (n : Nat) (x : q_x) : Prop := (∀ a b, a < 8 → b < 8 → ¬ a = b → x b - x a ≤ 999) ∧ ∀ i, i < n → S i → (lo i ≤ x (t i) - x (f i) ∧ x (t i) - x (f i) ≤ hi i)
theorem q_P_s {f t : Nat → Nat} {lo hi : Nat → Int} {S : Nat → Prop} {n : Nat} {x : q_x} : q_P f t lo hi S (n + 1) x ↔ (q_P f t lo hi S n x ∧ (S n → (lo n ≤ x (t n) - x (f n) ∧ x (t n) - x (f n) ≤ hi n))) := by
  constructor
  · rintro ⟨h1, h2⟩
    exact ⟨⟨h1, fun i hi => h2 i (by omega)⟩, h2 n (by omega)⟩
  · rintro ⟨⟨h1, h2⟩, h3⟩
    refine ⟨h1, fun i hi => ?_⟩
    by_cases e : i = n
    · subst e; exact h3
    · exact h2 i (by omega)
abbrev q_f (M : fp_M) (i : Nat) : Nat := k_v (M (3 + i) 1)
abbrev q_t (M : fp_M) (i : Nat) : Nat := k_v (M (3 + i) 2)
abbrev q_lo (M : fp_M) (s : Int32) (i : Nat) : Int := (k_least (M (3 + i) 0) (M (3 + i) 3) s).toInt
abbrev q_hi (M : fp_M) (s : Int32) (i : Nat) : Int := (k_most (M (3 + i) 0) (M (3 + i) 3) s).toInt
theorem q_clr_J (M : fp_M) {f t : Nat → Nat} {lo hi : Nat → Int} {S : Nat → Prop} : q_J (k_clr M) (q_P f t lo hi S 0) := by
  have e : ∀ a b, a < 8 → b < 8 → q_T (k_clr M) a b = if a = b then 0 else 999 := by
    intro a b ha hb
    show (k_T (k_clr M) a b).toInt = _
    rw [k_clr_T M ha hb]
    split <;> rfl
  refine Or.inl ⟨k_clr_p M, ⟨fun a ha => by rw [e a a ha ha, if_pos rfl], fun a b k ha hb hk => ?_⟩, fun a b ha hb => ?_, fun x => ⟨fun h => ⟨fun a b ha hb hne => ?_, fun i hi => absurd hi (Nat.not_lt_zero i)⟩, fun h a b ha hb => ?_⟩⟩
  · rw [e a b ha hb, e a k ha hk, e k b hk hb]
    split <;> split <;> split <;> omega
  · rw [e a b ha hb]
    split <;> omega
  · have := h a b ha hb
    rw [e a b ha hb, if_neg hne] at this
    exact this
  · rw [e a b ha hb]
    split
    · rename_i q
      subst q
      omega
    · exact h.1 a b ha hb (by assumption)
theorem q_dr_J {M : fp_M} {c : Nat} {set s : Int32} (hw : k_wf M 1 c) (hlo : ∀ i, i < c → -2147483648 < q_lo M s i) : ∀ (n i : Nat), i + n = c → ∀ N : fp_M, k_ech M N → q_J N (q_P (q_f M) (q_t M) (q_lo M s) (q_hi M s) (k_isin set) i) → q_J (k_it (k_dr set s) n i N) (q_P (q_f M) (q_t M) (q_lo M s) (q_hi M s) (k_isin set) c) := by
  intro n
  induction n with
  | zero =>
    intro i hi N _ h
    have e : i = c := by omega
    subst e
    exact h
  | succ n ih =>
    intro i hi N hN h
    rw [k_it_s]
    refine ih (i + 1) (by omega) _ (hN.tr (k_dr_ech set s i N)) ?_
    obtain ⟨hc8, -, hl⟩ := hw
    obtain ⟨f, t, hf8, ht8, ef, et, -⟩ := hl i (by omega)
    have r : ∀ j, N (3 + i) j = M (3 + i) j := fun j => hN (3 + i) j (by omega) (by omega)
    unfold k_dr
    rcases h with h | ⟨h1, h2⟩
    · have hp := h.1
      rw [if_neg (by rw [hp]; decide)]
      by_cases hS : (set >>> (nI i &&& 31)) &&& 1 = 1
      · rw [if_pos hS, r 0, r 1, r 2, r 3]
        have e1 : (M (3 + i) 1).toNatClampNeg < 8 := by rw [show M (3 + i) 1 = nI f from ef, nI_clamp (by omega)]; exact hf8
        have e2 : (M (3 + i) 2).toNatClampNeg < 8 := by rw [show M (3 + i) 2 = nI t from et, nI_clamp (by omega)]; exact ht8
        refine (q_nar_J e1 e2 (hlo i (by omega)) (Or.inl h)).cg fun x => ?_
        rw [q_P_s]
        exact ⟨fun z => ⟨z.1, fun _ => z.2⟩, fun z => ⟨z.1, z.2 hS⟩⟩
      · rw [if_neg hS]
        exact (show q_J N _ from Or.inl h).cg fun x => by
          rw [q_P_s]
          exact ⟨fun z => ⟨z, fun w => absurd w hS⟩, fun z => z.1⟩
    · rw [if_pos h1]
      exact Or.inr ⟨h1, fun x hx => h2 x (q_P_s.mp hx).1⟩
theorem q_draw_J {M : fp_M} {c : Nat} {set s : Int32} (hw : k_wf M 1 c) (hlo : ∀ i, i < c → -2147483648 < q_lo M s i) : q_J (k_draw M c set s) (q_P (q_f M) (q_t M) (q_lo M s) (q_hi M s) (k_isin set) c) := q_dr_J hw hlo c 0 (by omega) _ (k_clr_ech M) (q_clr_J M)
