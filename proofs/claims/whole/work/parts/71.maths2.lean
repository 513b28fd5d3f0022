/-! ===== the other one's matrix: laid, followed ===== -/
abbrev q_e (N : fp_M) (j : Nat) : Int := (N 58 j).toInt
def q_D (M : fp_M) : q_M := fun a b => (M 58 (8 * a + b)).toInt
/-- one stage's inner loop, up to cell i -/
def q_I (N0 : fp_M) (b : Nat) (B : Int) (i : Nat) (N : fp_M) : Prop := ∀ j, j < 64 → (i ≤ j → q_e N j = q_e N0 j) ∧ q_e N j ≤ q_e N0 j ∧ -(6 * B) ≤ q_e N j ∧ (j = 9 * b → -(2 * B) ≤ q_e N j) ∧ ((j / 8 = b ∨ j % 8 = b) → -(3 * B) ≤ q_e N j) ∧ (q_e N0 (9 * b) = 0 → j < i → q_e N j ≤ q_e N0 (8 * (j / 8) + b) + q_e N0 (8 * b + j % 8) ∧ (q_e N j = q_e N0 j ∨ q_e N j = q_e N0 (8 * (j / 8) + b) + q_e N0 (8 * b + j % 8))) ∧ (∀ x : q_x, (∀ k, k < 64 → x (k % 8) - x (k / 8) ≤ q_e N0 k) → x (j % 8) - x (j / 8) ≤ q_e N j)
theorem q_fw_s {N0 N : fp_M} {b i : Nat} {B : Int} (hb : b < 8) (hB : 0 ≤ B ∧ 6 * B ≤ 2147483647) (h0 : ∀ j, j < 64 → -B ≤ q_e N0 j ∧ q_e N0 j ≤ 999) (hi : i < 64) (h : q_I N0 b B i N) : q_I N0 b B (i + 1) (g_fw b i N) := by
  have lu : 8 * (i / 8) + b < 64 := by omega
  have lw : 8 * b + i % 8 < 64 := by omega
  obtain ⟨i1, i2, i3, -, -, -, i7⟩ := h i hi
  obtain ⟨u1, u2, u3, u4, u5, u6, u7⟩ := h _ lu
  obtain ⟨w1, w2, w3, w4, w5, w6, w7⟩ := h _ lw
  have u5' := u5 (Or.inr (by omega))
  have w5' := w5 (Or.inl (by omega))
  have bu := h0 _ lu
  have bw := h0 _ lw
  have bi := h0 i hi
  have ei := i1 (Nat.le_refl i)
  have es : (N 58 (8 * (i / 8) + b) + N 58 (8 * b + i % 8)).toInt = q_e N (8 * (i / 8) + b) + q_e N (8 * b + i % 8) := q_add rfl rfl (by omega)
  have en : q_e (g_fw b i N) i = if q_e N (8 * (i / 8) + b) + q_e N (8 * b + i % 8) < q_e N i then q_e N (8 * (i / 8) + b) + q_e N (8 * b + i % 8) else q_e N i := by
    unfold g_fw
    show (fp_wr N 58 i _ 58 i).toInt = _
    rw [fp_wr_eq]
    by_cases c : N 58 (8 * (i / 8) + b) + N 58 (8 * b + i % 8) < N 58 i
    · have c' := Int32.lt_iff_toInt_lt.mp c
      rw [es] at c'
      rw [if_pos c, if_pos c', es]
    · have c' : ¬ q_e N (8 * (i / 8) + b) + q_e N (8 * b + i % 8) < q_e N i := fun z => c (Int32.lt_iff_toInt_lt.mpr (by rw [es]; exact z))
      rw [if_neg c, if_neg c']
  have eo : ∀ j, ¬ j = i → q_e (g_fw b i N) j = q_e N j := by
    intro j hj
    unfold g_fw
    show (fp_wr N 58 i _ 58 j).toInt = _
    rw [fp_wr_ne2 hj]
  intro j hj
  by_cases hji : j = i
  · subst hji
    rw [en]
    refine ⟨fun q => by omega, ?_, ?_, ?_, ?_, ?_, ?_⟩
    · split <;> omega
    · split <;> omega
    · intro q
      have a1 : 8 * (j / 8) + b = j := by omega
      have a2 : 8 * b + j % 8 = j := by omega
      rw [a1, a2]
      split <;> omega
    · intro q
      by_cases q2 : j % 8 = b
      · have a1 : 8 * (j / 8) + b = j := by omega
        have a2 : 8 * b + j % 8 = 9 * b := by omega
        have w4' := w4 (by omega)
        rw [a1]
        split <;> omega
      · have a1 : 8 * (j / 8) + b = 9 * b := by omega
        have a2 : 8 * b + j % 8 = j := by omega
        have u4' := u4 (by omega)
        rw [a2]
        split <;> omega
    · intro z _
      have fu : q_e N (8 * (j / 8) + b) = q_e N0 (8 * (j / 8) + b) := by
        by_cases c : j ≤ 8 * (j / 8) + b
        · exact u1 c
        · have r := (u6 z (by omega)).2
          have a1 : 8 * ((8 * (j / 8) + b) / 8) + b = 8 * (j / 8) + b := by omega
          have a2 : 8 * b + (8 * (j / 8) + b) % 8 = 9 * b := by omega
          rw [a1, a2] at r
          omega
      have fw : q_e N (8 * b + j % 8) = q_e N0 (8 * b + j % 8) := by
        by_cases c : j ≤ 8 * b + j % 8
        · exact w1 c
        · have r := (w6 z (by omega)).2
          have a1 : 8 * ((8 * b + j % 8) / 8) + b = 9 * b := by omega
          have a2 : 8 * b + (8 * b + j % 8) % 8 = 8 * b + j % 8 := by omega
          rw [a1, a2] at r
          omega
      rw [fu, fw]
      split <;> omega
    · intro x hx
      have r1 := i7 x hx
      have r2 := u7 x hx
      have r3 := w7 x hx
      have a1 : (8 * (j / 8) + b) % 8 = b := by omega
      have a2 : (8 * (j / 8) + b) / 8 = j / 8 := by omega
      have a3 : (8 * b + j % 8) % 8 = j % 8 := by omega
      have a4 : (8 * b + j % 8) / 8 = b := by omega
      rw [a1, a2] at r2
      rw [a3, a4] at r3
      split <;> omega
  · rw [eo j hji]
    obtain ⟨j1, j2, j3, j4, j5, j6, j7⟩ := h j hj
    exact ⟨fun q => j1 (by omega), j2, j3, j4, j5, fun z q => j6 z (by omega), j7⟩
theorem q_fw_it {N0 : fp_M} {b : Nat} {B : Int} (hb : b < 8) (hB : 0 ≤ B ∧ 6 * B ≤ 2147483647) (h0 : ∀ j, j < 64 → -B ≤ q_e N0 j ∧ q_e N0 j ≤ 999) : ∀ (n i : Nat), i + n = 64 → ∀ N : fp_M, q_I N0 b B i N → q_I N0 b B 64 (k_it (g_fw b) n i N) := by
  intro n
  induction n with
  | zero =>
    intro i hi N h
    have e : i = 64 := by omega
    subst e
    exact h
  | succ n ih =>
    intro i hi N h
    rw [k_it_s]
    exact ih (i + 1) (by omega) _ (q_fw_s hb hB h0 (by omega) h)
theorem q_fw_stage {N : fp_M} {b : Nat} {B : Int} (hb : b < 8) (hB : 0 ≤ B ∧ 6 * B ≤ 2147483647) (h0 : ∀ j, j < 64 → -B ≤ q_e N j ∧ q_e N j ≤ 999) : q_I N b B 64 (k_it (g_fw b) 64 0 N) := by
  refine q_fw_it hb hB h0 64 0 (by omega) N fun j hj => ?_
  have := h0 j hj
  refine ⟨fun _ => rfl, Int.le_refl _, by omega, fun _ => by omega, fun _ => by omega, fun _ q => absurd q (Nat.not_lt_zero j), fun x hx => hx j hj⟩
def q_B : Nat → Int
  | 0 => 999
  | n + 1 => 6 * q_B n
theorem q_B_le : ∀ b, b < 8 → 0 ≤ q_B b ∧ 6 * q_B b ≤ 2147483647 := by decide +kernel
/-- all stages, up to b -/
def q_O (N0 : fp_M) (b : Nat) (N : fp_M) : Prop := (∀ j, j < 64 → -(q_B b) ≤ q_e N j ∧ q_e N j ≤ q_e N0 j ∧ q_e N j ≤ 999) ∧ (∀ x : q_x, (∀ k, k < 64 → x (k % 8) - x (k / 8) ≤ q_e N0 k) → ∀ k, k < 64 → x (k % 8) - x (k / 8) ≤ q_e N k) ∧ ((∀ a, a < 8 → q_e N (9 * a) = 0) → ∀ p, p < b → ∀ i j, i < 8 → j < 8 → q_e N (8 * i + j) ≤ q_e N (8 * i + p) + q_e N (8 * p + j))
theorem q_O_s {N0 N : fp_M} {b : Nat} (hb : b < 8) (hd : ∀ a, a < 8 → q_e N0 (9 * a) = 0) (h : q_O N0 b N) : q_O N0 (b + 1) (k_it (g_fw b) 64 0 N) := by
  obtain ⟨h1, h2, h3⟩ := h
  have hB := q_B_le b hb
  have st := q_fw_stage hb hB (fun j hj => ⟨(h1 j hj).1, (h1 j hj).2.2⟩)
  refine ⟨fun j hj => ?_, fun x hx k hk => ?_, fun hz => ?_⟩
  · obtain ⟨-, s2, s3, -⟩ := st j hj
    obtain ⟨a1, a2, a3⟩ := h1 j hj
    have : q_B (b + 1) = 6 * q_B b := rfl
    omega
  · obtain ⟨-, -, -, -, -, -, s7⟩ := st k hk
    exact s7 x (h2 x hx)
  · have hzN : ∀ a, a < 8 → q_e N (9 * a) = 0 := by
      intro a ha
      obtain ⟨-, s2, -⟩ := st (9 * a) (by omega)
      have a2 := (h1 (9 * a) (by omega)).2.1
      have a3 := hz a ha
      have a4 := hd a ha
      omega
    have hcl := h3 hzN
    have zb := hzN b hb
    have ex : ∀ i j, i < 8 → j < 8 → q_e (k_it (g_fw b) 64 0 N) (8 * i + j) ≤ q_e N (8 * i + b) + q_e N (8 * b + j) ∧ q_e (k_it (g_fw b) 64 0 N) (8 * i + j) ≤ q_e N (8 * i + j) ∧ (q_e (k_it (g_fw b) 64 0 N) (8 * i + j) = q_e N (8 * i + j) ∨ q_e (k_it (g_fw b) 64 0 N) (8 * i + j) = q_e N (8 * i + b) + q_e N (8 * b + j)) := by
      intro i j hi hj
      obtain ⟨-, s2, -, -, -, s6, -⟩ := st (8 * i + j) (by omega)
      have r := s6 zb (by omega)
      rw [show (8 * i + j) / 8 = i by omega, show (8 * i + j) % 8 = j by omega] at r
      exact ⟨r.1, s2, r.2⟩
    have z9 : 9 * b = 8 * b + b := by omega
    rw [z9] at zb
    intro p hp i j hi hj
    by_cases hpb : p = b
    · subst hpb
      obtain ⟨e1, -, -⟩ := ex i j hi hj
      obtain ⟨-, -, f3⟩ := ex i p hi hb
      obtain ⟨-, -, g3⟩ := ex p j hb hj
      omega
    · have hp8 : p < 8 := by omega
      have hpb' : p < b := by omega
      obtain ⟨e1, e2, -⟩ := ex i j hi hj
      obtain ⟨-, -, f3⟩ := ex i p hi hp8
      obtain ⟨-, -, g3⟩ := ex p j hp8 hj
      have c1 := hcl p hpb' i j hi hj
      have c2 := hcl p hpb' b j hb hj
      have c3 := hcl p hpb' i b hi hb
      have c4 := hcl p hpb' b b hb hb
      omega
theorem q_O_it {N0 : fp_M} (hd : ∀ a, a < 8 → q_e N0 (9 * a) = 0) : ∀ (n b : Nat), b + n = 8 → ∀ N : fp_M, q_O N0 b N → q_O N0 8 (k_it (fun b M => k_it (g_fw b) 64 0 M) n b N) := by
  intro n
  induction n with
  | zero =>
    intro b hb N h
    have e : b = 8 := by omega
    subst e
    exact h
  | succ n ih =>
    intro b hb N h
    rw [k_it_s]
    exact ih (b + 1) (by omega) _ (q_O_s (by omega) hd h)
theorem q_ok_it (M : fp_M) : ∀ n i (s : Int32), s = 0 ∨ s = 1 → (¬ k_it (fun t s => s &&& bi (0 ≤ M 58 (8 * t + t))) n i s = 0 ↔ (¬ s = 0 ∧ ∀ t, i ≤ t → t < i + n → 0 ≤ q_e M (8 * t + t))) := by
  intro n
  induction n with
  | zero =>
    intro i s _
    exact ⟨fun h => ⟨h, fun t a b => by omega⟩, fun h => h.1⟩
  | succ n ih =>
    intro i s hs
    rw [k_it_s]
    have h0 : (0 ≤ M 58 (8 * i + i)) ↔ 0 ≤ q_e M (8 * i + i) := by
      rw [Int32.le_iff_toInt_le]
      exact Iff.rfl
    by_cases hc : 0 ≤ M 58 (8 * i + i)
    · rw [bi_t hc, show s &&& 1 = s from by rcases hs with rfl | rfl <;> rfl]
      refine (ih (i + 1) s hs).trans ⟨fun h => ⟨h.1, fun t a b => ?_⟩, fun h => ⟨h.1, fun t a b => h.2 t (by omega) (by omega)⟩⟩
      by_cases e : t = i
      · subst e; exact h0.mp hc
      · exact h.2 t (by omega) (by omega)
    · rw [bi_f hc, show s &&& 0 = 0 from by rcases hs with rfl | rfl <;> rfl]
      refine (ih (i + 1) 0 (Or.inl rfl)).trans ⟨fun h => absurd rfl h.1, fun h => absurd (h0.mpr (h.2 i (Nat.le_refl i) (by omega))) hc⟩
theorem q_ok (M : fp_M) : ¬ g_ok M = 0 ↔ ∀ t, t < 8 → 0 ≤ q_e M (8 * t + t) := by
  refine (q_ok_it M 8 0 1 (Or.inr rfl)).trans ⟨fun h t ht => h.2 t (Nat.zero_le t) (by omega), fun h => ⟨by decide, fun t _ ht => h t (by omega)⟩⟩
/-- a matrix laid: it tells what P says -/
def q_L (G : fp_M) (P : q_x → Prop) : Prop := (∀ a, a < 8 → q_D G a a = 0) ∧ (∀ a b, a < 8 → b < 8 → -999 ≤ q_D G a b ∧ q_D G a b ≤ 999) ∧ ∀ x, q_S (q_D G) x ↔ P x
theorem q_L.cg {G : fp_M} {P Q : q_x → Prop} (h : q_L G P) (e : ∀ x, P x ↔ Q x) : q_L G Q := ⟨h.1, h.2.1, fun x => (h.2.2 x).trans (e x)⟩
theorem q_bind_L {G : fp_M} {a b : Nat} {v : Int32} {P : q_x → Prop} (ha : a < 8) (hb : b < 8) (hv : -999 ≤ v.toInt) (hab : a = b → 0 ≤ v.toInt) (h : q_L G P) : q_L (g_bind G a b v) (fun x => P x ∧ x b - x a ≤ v.toInt) := by
  obtain ⟨h1, h2, h3⟩ := h
  have en : q_D (g_bind G a b v) a b = if v.toInt < q_D G a b then v.toInt else q_D G a b := by
    show (g_bind G a b v 58 (8 * a + b)).toInt = _
    unfold g_bind
    rw [fp_wr_eq]
    by_cases c : v < G 58 (8 * a + b)
    · rw [if_pos c]
      exact (if_pos (show v.toInt < q_D G a b from Int32.lt_iff_toInt_lt.mp c)).symm
    · rw [if_neg c]
      exact (if_neg (show ¬ v.toInt < q_D G a b from fun z => c (Int32.lt_iff_toInt_lt.mpr z))).symm
  have eo : ∀ p q, p < 8 → q < 8 → ¬ (p = a ∧ q = b) → q_D (g_bind G a b v) p q = q_D G p q := by
    intro p q hp hq hne
    show (g_bind G a b v 58 (8 * p + q)).toInt = _
    unfold g_bind
    rw [fp_wr_ne2 (by omega)]
    rfl
  have b1 := h2 a b ha hb
  refine ⟨fun p hp => ?_, fun p q hp hq => ?_, fun x => ?_⟩
  · by_cases e : p = a ∧ p = b
    · obtain ⟨rfl, rfl⟩ := e
      rw [en]
      have := h1 p hp
      have := hab rfl
      split <;> omega
    · rw [eo p p hp hp e]; exact h1 p hp
  · by_cases e : p = a ∧ q = b
    · obtain ⟨rfl, rfl⟩ := e
      rw [en]
      split <;> omega
    · rw [eo p q hp hq e]; exact h2 p q hp hq
  · show q_S (q_D (g_bind G a b v)) x ↔ (P x ∧ x b - x a ≤ v.toInt)
    rw [← h3 x]
    constructor
    · intro hs
      have hab' := hs a b ha hb
      rw [en] at hab'
      refine ⟨fun p q hp hq => ?_, ?_⟩
      · by_cases e : p = a ∧ q = b
        · obtain ⟨rfl, rfl⟩ := e
          split at hab' <;> omega
        · have := hs p q hp hq
          rw [eo p q hp hq e] at this
          exact this
      · split at hab' <;> omega
    · rintro ⟨hs, hx⟩ p q hp hq
      by_cases e : p = a ∧ q = b
      · obtain ⟨rfl, rfl⟩ := e
        have := hs p q hp hq
        rw [en]
        split <;> omega
      · rw [eo p q hp hq e]; exact hs p q hp hq
theorem q_L_e {G : fp_M} {P : q_x → Prop} (x : q_x) : q_S (q_D G) x ↔ ∀ k, k < 64 → x (k % 8) - x (k / 8) ≤ q_e G k := by
  constructor
  · intro h k hk
    have := h (k / 8) (k % 8) (by omega) (by omega)
    have e : q_D G (k / 8) (k % 8) = q_e G k := by
      show (G 58 (8 * (k / 8) + k % 8)).toInt = (G 58 k).toInt
      rw [show 8 * (k / 8) + k % 8 = k by omega]
    rw [e] at this
    exact this
  · intro h a b ha hb
    have := h (8 * a + b) (by omega)
    rw [show (8 * a + b) % 8 = b by omega, show (8 * a + b) / 8 = a by omega] at this
    exact this
/-- a matrix followed -/
theorem q_fol {G : fp_M} {P : q_x → Prop} (h : q_L G P) : (¬ g_ok (g_fol G) = 0 ∧ q_C (q_D (g_fol G)) ∧ (∀ a b, a < 8 → b < 8 → q_D (g_fol G) a b ≤ 999) ∧ ∀ x, q_S (q_D (g_fol G)) x ↔ P x) ∨ (g_ok (g_fol G) = 0 ∧ ∀ x, ¬ P x) := by
  obtain ⟨h1, h2, h3⟩ := h
  have e9 : ∀ a, 9 * a = 8 * a + a := fun a => by omega
  have hd : ∀ a, a < 8 → q_e G (9 * a) = 0 := fun a ha => by rw [e9]; exact h1 a ha
  have hO : q_O G 8 (g_fol G) := q_O_it hd 8 0 (by omega) G ⟨fun j hj => by
    have r := h2 (j / 8) (j % 8) (by omega) (by omega)
    have e : q_D G (j / 8) (j % 8) = q_e G j := by
      show (G 58 (8 * (j / 8) + j % 8)).toInt = (G 58 j).toInt
      rw [show 8 * (j / 8) + j % 8 = j by omega]
    rw [e] at r
    have : q_B 0 = 999 := rfl
    omega, fun x hx => hx, fun _ p hp => absurd hp (Nat.not_lt_zero p)⟩
  obtain ⟨o1, o2, o3⟩ := hO
  by_cases hg : g_ok (g_fol G) = 0
  · refine Or.inr ⟨hg, fun x hx => ?_⟩
    refine absurd hg ((q_ok (g_fol G)).mpr fun t ht => ?_)
    have := o2 x ((q_L_e (P := P) x).mp ((h3 x).mpr hx)) (8 * t + t) (by omega)
    rw [show (8 * t + t) % 8 = t by omega, show (8 * t + t) / 8 = t by omega] at this
    omega
  · have hp := (q_ok (g_fol G)).mp hg
    have hz : ∀ a, a < 8 → q_e (g_fol G) (9 * a) = 0 := fun a ha => by
      have r1 := hp a ha
      have r2 := (o1 (9 * a) (by omega)).2.1
      have r3 := hd a ha
      rw [e9] at r2 r3 ⊢
      omega
    refine Or.inl ⟨hg, ⟨fun a ha => ?_, fun a b k ha hb hk => o3 hz k hk a b ha hb⟩, fun a b ha hb => (o1 (8 * a + b) (by omega)).2.2, fun x => ?_⟩
    · have := hz a ha
      rw [e9] at this
      exact this
    · rw [← h3 x]
      refine ⟨fun hs a b ha hb => ?_, fun hs => (q_L_e (P := P) x).mpr (o2 x ((q_L_e (P := P) x).mp hs))⟩
      have r1 := hs a b ha hb
      have r2 := (o1 (8 * a + b) (by omega)).2.1
      have r3 : x b - x a ≤ q_e (g_fol G) (8 * a + b) := r1
      have r4 : q_D G a b = q_e G (8 * a + b) := rfl
      omega
/-- chart and matrix, told the same -/
theorem q_same {N G : fp_M} {P Q : q_x → Prop} (h1 : q_J N P) (h2 : q_L G Q) (e : ∀ x, P x ↔ Q x) : (¬ N 34 0 = 0 ↔ ¬ g_ok (g_fol G) = 0) ∧ (¬ N 34 0 = 0 → ∀ a b, a < 8 → b < 8 → N 35 (8 * a + b) = g_fol G 58 (8 * a + b)) := by
  rcases h1 with ⟨a1, a2, a3, a4⟩ | ⟨a1, a2⟩
  · rcases q_fol h2 with ⟨b1, b2, b3, b4⟩ | ⟨b1, b2⟩
    · refine ⟨⟨fun _ => b1, fun _ => by rw [a1]; decide⟩, fun _ a b ha hb => Int32.toInt_inj.mp ?_⟩
      exact a2.eq b2 (fun x => ((a4 x).trans (e x)).trans (b4 x).symm) ha hb
    · exact absurd ((e _).mp ((a4 _).mp (a2.pt (show 0 < 8 by decide)))) (b2 _)
  · rcases q_fol h2 with ⟨b1, b2, b3, b4⟩ | ⟨b1, b2⟩
    · exact absurd ((e _).mpr ((b4 _).mp (b2.pt (show 0 < 8 by decide)))) (a2 _)
    · exact ⟨⟨fun z => absurd a1 z, fun z => absurd b1 z⟩, fun z => absurd a1 z⟩
