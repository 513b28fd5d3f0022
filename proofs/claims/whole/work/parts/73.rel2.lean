/-! ===== both charts, told the same ===== -/
theorem w_lm (k d s : Int32) : (k_least k d s = -999 ∧ (k_most k d s = d + s ∨ k_most k d s = d + s + 5)) ∨ (k_least k d s = d ∧ k_most k d s = d) ∨ (k_least k d s = -d ∧ k_most k d s = -d) ∨ (k_least k d s = -d - 1 ∧ k_most k d s = -d + 1) ∨ (k_least k d s = d - s - s ∧ k_most k d s = d + s + s) ∨ (k_least k d s = d - s ∧ k_most k d s = d + s) := by
  unfold k_least k_most
  by_cases c1 : k = 1
  · subst c1; exact Or.inl ⟨rfl, Or.inl rfl⟩
  · by_cases c6 : k = 6
    · subst c6; exact Or.inl ⟨rfl, Or.inr rfl⟩
    · rw [if_neg (fun q => q.elim c1 c6), if_neg c6]
      by_cases c2 : k = 2
      · subst c2; exact Or.inr (Or.inl ⟨rfl, rfl⟩)
      · by_cases c3 : k = 3
        · subst c3; exact Or.inr (Or.inr (Or.inl ⟨rfl, rfl⟩))
        · by_cases c4 : k = 4
          · subst c4; exact Or.inr (Or.inr (Or.inr (Or.inl ⟨rfl, rfl⟩)))
          · by_cases c5 : k = 5
            · subst c5; exact Or.inr (Or.inr (Or.inr (Or.inr (Or.inl ⟨rfl, rfl⟩))))
            · rw [if_neg c2, if_neg c3, if_neg c4, if_neg c5, if_neg c5, if_neg c2, if_neg c3, if_neg c4]
              exact Or.inr (Or.inr (Or.inr (Or.inr (Or.inr ⟨rfl, rfl⟩))))
theorem w_bd {k d s : Int32} (hd : -99 ≤ d ∧ d ≤ 99) (hs : 0 ≤ s ∧ s ≤ 9) : (-999 ≤ (k_least k d s).toInt ∧ (k_least k d s).toInt ≤ 200) ∧ (-200 ≤ (k_most k d s).toInt ∧ (k_most k d s).toInt ≤ 200) ∧ (k_least k d s).toInt ≤ (k_most k d s).toInt := by
  have d1 := Int32.le_iff_toInt_le.mp hd.1
  have d2 := Int32.le_iff_toInt_le.mp hd.2
  have s1 := Int32.le_iff_toInt_le.mp hs.1
  have s2 := Int32.le_iff_toInt_le.mp hs.2
  rw [show (-99 : Int32).toInt = -99 from by decide] at d1
  rw [show (99 : Int32).toInt = 99 from by decide] at d2
  rw [show (0 : Int32).toInt = 0 from by decide] at s1
  rw [show (9 : Int32).toInt = 9 from by decide] at s2
  have e1 : (d - s).toInt = d.toInt - s.toInt := q_sub rfl rfl (by omega)
  have e2 : (d - s - s).toInt = d.toInt - s.toInt - s.toInt := q_sub e1 rfl (by omega)
  have e3 : (-d).toInt = -d.toInt := q_neg rfl (by omega)
  have e4 : (-d - 1).toInt = -d.toInt - 1 := q_sub e3 (show (1 : Int32).toInt = 1 from by decide) (by omega)
  have e5 : (-d + 1).toInt = -d.toInt + 1 := q_add e3 (show (1 : Int32).toInt = 1 from by decide) (by omega)
  have e6 : (d + s).toInt = d.toInt + s.toInt := q_add rfl rfl (by omega)
  have e7 : (d + s + s).toInt = d.toInt + s.toInt + s.toInt := q_add e6 rfl (by omega)
  have e8 : (d + s + 5).toInt = d.toInt + s.toInt + 5 := q_add e6 (show (5 : Int32).toInt = 5 from by decide) (by omega)
  have e9 : (-999 : Int32).toInt = -999 := by decide
  rcases w_lm k d s with ⟨a, b | b⟩ | ⟨a, b⟩ | ⟨a, b⟩ | ⟨a, b⟩ | ⟨a, b⟩ | ⟨a, b⟩ <;> rw [a, b]
  · rw [e9, e6]; omega
  · rw [e9, e8]; omega
  · omega
  · rw [e3]; omega
  · rw [e4, e5]; omega
  · rw [e2, e7]; omega
  · rw [e1, e6]; omega
abbrev q_gf (M : fp_M) (i : Nat) : Nat := k_v (M 50 (5 + 6 * i + 1))
abbrev q_gt (M : fp_M) (i : Nat) : Nat := k_v (M 50 (5 + 6 * i + 2))
theorem q_dg : ∀ a, a < 8 → ∀ b, b < 8 → ((nI (8 * a + b) / 8 = nI (8 * a + b) - nI (8 * a + b) / 8 * 8) ↔ a = b) := by decide +kernel
theorem q_clr_L (B : fp_M) {f t : Nat → Nat} {lo hi : Nat → Int} {S : Nat → Prop} : q_L (k_it g_c1 64 0 B) (q_P f t lo hi S 0) := by
  have e : ∀ a b, a < 8 → b < 8 → q_D (k_it g_c1 64 0 B) a b = if a = b then 0 else 999 := by
    intro a b ha hb
    show (k_it g_c1 64 0 B 58 (8 * a + b)).toInt = _
    rw [g_c1_at 64 0 B 58 (8 * a + b), if_pos ⟨rfl, Nat.zero_le _, by omega⟩]
    by_cases q : a = b
    · rw [if_pos ((q_dg a ha b hb).mpr q), if_pos q]; rfl
    · rw [if_neg (fun z => q ((q_dg a ha b hb).mp z)), if_neg q]; rfl
  refine ⟨fun a ha => by rw [e a a ha ha, if_pos rfl], fun a b ha hb => ?_, fun x => ⟨fun h => ⟨fun a b ha hb hne => ?_, fun i hi => absurd hi (Nat.not_lt_zero i)⟩, fun h a b ha hb => ?_⟩⟩
  · rw [e a b ha hb]
    split <;> omega
  · have := h a b ha hb
    rw [e a b ha hb, if_neg hne] at this
    exact this
  · rw [e a b ha hb]
    split
    · rename_i q
      subst q
      omega
    · exact h.1 a b ha hb (by assumption)
theorem q_dr_L {B : fp_M} {c : Nat} {set : Int32} (hb : ∀ i, i < c → q_gf B i < 8 ∧ q_gt B i < 8 ∧ ¬ q_gf B i = q_gt B i ∧ -999 ≤ (g_most B i).toInt ∧ -999 ≤ (g_least B i).toInt ∧ (g_least B i).toInt ≤ 999) : ∀ (n i : Nat), i + n = c → ∀ N : fp_M, N 50 = B 50 → q_L N (q_P (q_gf B) (q_gt B) (fun i => (g_least B i).toInt) (fun i => (g_most B i).toInt) (k_isin set) i) → q_L (k_it (g_dr set) n i N) (q_P (q_gf B) (q_gt B) (fun i => (g_least B i).toInt) (fun i => (g_most B i).toInt) (k_isin set) c) := by
  intro n
  induction n with
  | zero =>
    intro i hi N _ h
    have e : i = c := by omega
    subst e
    exact h
  | succ n ih =>
    intro i hi N hN h
    rw [k_it_s]
    obtain ⟨f8, t8, hne, b1, b2, b3⟩ := hb i (by omega)
    have eg : g_dr set i N = if (set >>> (nI i &&& 31)) &&& 1 = 1 then g_bind (g_bind N (q_gf B i) (q_gt B i) (g_most B i)) (q_gt B i) (q_gf B i) (-(g_least B i)) else N := by
      unfold g_dr g_most g_least q_gf q_gt
      rw [hN]
    refine ih (i + 1) (by omega) _ ?_ ?_
    · rw [eg]
      split
      · exact (fp_wr_row (by decide)).trans ((fp_wr_row (by decide)).trans hN)
      · exact hN
    · rw [eg]
      by_cases hS : (set >>> (nI i &&& 31)) &&& 1 = 1
      · rw [if_pos hS]
        have en : (-(g_least B i)).toInt = -(g_least B i).toInt := q_neg rfl (by omega)
        refine (q_bind_L t8 f8 (by rw [en]; omega) (fun q => absurd q.symm hne) (q_bind_L f8 t8 b1 (fun q => absurd q hne) h)).cg fun x => ?_
        rw [q_P_s, en]
        constructor
        · rintro ⟨⟨z1, z2⟩, z3⟩
          exact ⟨z1, fun _ => ⟨by omega, z2⟩⟩
        · rintro ⟨z1, z2⟩
          have z3 := z2 hS
          exact ⟨⟨z1, z3.2⟩, by omega⟩
      · rw [if_neg hS]
        exact h.cg fun x => by
          rw [q_P_s]
          exact ⟨fun z => ⟨z, fun w => absurd w hS⟩, fun z => z.1⟩
theorem q_P_cg {f t f' t' : Nat → Nat} {lo hi lo' hi' : Nat → Int} {S S' : Nat → Prop} {n : Nat} (h : ∀ i, i < n → f i = f' i ∧ t i = t' i ∧ lo i = lo' i ∧ hi i = hi' i ∧ (S i ↔ S' i)) (x : q_x) : q_P f t lo hi S n x ↔ q_P f' t' lo' hi' S' n x := by
  constructor
  · rintro ⟨h1, h2⟩
    refine ⟨h1, fun i hi' hs => ?_⟩
    obtain ⟨a, b, c, d, e⟩ := h i hi'
    rw [← a, ← b, ← c, ← d]
    exact h2 i hi' (e.mpr hs)
  · rintro ⟨h1, h2⟩
    refine ⟨h1, fun i hi' hs => ?_⟩
    obtain ⟨a, b, c, d, e⟩ := h i hi'
    rw [a, b, c, d]
    exact h2 i hi' (e.mp hs)
section WJ
variable {A B : fp_M} {c : Nat}
theorem w_gl (O : w_O A B 1 50 c) (v : w_v A 1 c) (i : Nat) (hi : i < c) : q_f A i = q_gf B i ∧ q_t A i = q_gt B i ∧ q_f A i < 8 ∧ q_t A i < 8 ∧ ¬ q_f A i = q_t A i := by
  obtain ⟨-, ⟨f, t, a, b, hne, d, e⟩, -, -⟩ := v.2.1 i hi
  have ef : q_f A i = f := by
    show (A (3 + i) 1).toNatClampNeg = f
    rw [show A (3 + i) 1 = nI f from d]
    exact nI_clamp (by omega)
  have et : q_t A i = t := by
    show (A (3 + i) 2).toNatClampNeg = t
    rw [show A (3 + i) 2 = nI t from e]
    exact nI_clamp (by omega)
  refine ⟨?_, ?_, by omega, by omega, by omega⟩
  · show k_v (A (3 + i) 1) = k_v (B 50 (5 + 6 * i + 1))
    rw [O.l hi (by decide)]
  · show k_v (A (3 + i) 2) = k_v (B 50 (5 + 6 * i + 2))
    rw [O.l hi (by decide)]
theorem w_lb (v : w_v A 1 c) {s : Int32} (hs : 0 ≤ s ∧ s ≤ 9) (i : Nat) (hi : i < c) : (-999 ≤ q_lo A s i ∧ q_lo A s i ≤ 200) ∧ (-200 ≤ q_hi A s i ∧ q_hi A s i ≤ 200) ∧ q_lo A s i ≤ q_hi A s i := w_bd (v.2.1 i hi).2.2.1 hs
/-- what the letters of a set say -/
abbrev w_P (A : fp_M) (c : Nat) (s set : Int32) : q_x → Prop := q_P (q_f A) (q_t A) (q_lo A s) (q_hi A s) (k_isin set) c
theorem w_kJ (O : w_O A B 1 50 c) (v : w_v A 1 c) {s : Int32} (hs : 0 ≤ s ∧ s ≤ 9) (set : Int32) : q_J (k_draw A c set s) (w_P A c s set) := q_draw_J (w_kwf O v) (fun i hi => by
  have := (w_lb v hs i hi).1.1
  omega)
theorem w_gL (O : w_O A B 1 50 c) (v : w_v A 1 c) (set : Int32) : q_L (g_lay B c set) (w_P A c (A 1 2) set) := by
  refine (q_dr_L (B := B) (set := set) ?_ c 0 (by omega) (k_it g_c1 64 0 B) (funext fun j => ?_) (q_clr_L B)).cg (q_P_cg fun i hi => ?_)
  · intro i hi
    obtain ⟨g1, g2, g3, g4, g5⟩ := w_gl O v i hi
    have b := w_lb v v.1 i hi
    rw [← g1, ← g2, w_least O hi, w_most O hi]
    have b1 : -999 ≤ (k_least (A (3 + i) 0) (A (3 + i) 3) (A 1 2)).toInt := b.1.1
    have b2 : (k_least (A (3 + i) 0) (A (3 + i) 3) (A 1 2)).toInt ≤ 200 := b.1.2
    have b3 : -200 ≤ (k_most (A (3 + i) 0) (A (3 + i) 3) (A 1 2)).toInt := b.2.1.1
    exact ⟨g3, g4, g5, by omega, b1, by omega⟩
  · rw [g_c1_at 64 0 B 50 j, if_neg (fun q => absurd q.1 (by decide))]
  · obtain ⟨g1, g2, -⟩ := w_gl O v i hi
    refine ⟨g1.symm, g2.symm, ?_, ?_, Iff.rfl⟩
    · show (g_least B i).toInt = _
      rw [w_least O hi]
    · show (g_most B i).toInt = _
      rw [w_most O hi]
theorem w_can (O : w_O A B 1 50 c) (v : w_v A 1 c) (set : Int32) : k_can A c set ↔ g_hold B c set := (q_same (w_kJ O v v.1 set) (w_gL O v set) (fun _ => Iff.rfl)).1
theorem w_ch (O : w_O A B 1 50 c) (v : w_v A 1 c) {set : Int32} (h : k_can A c set) {a b : Nat} (ha : a < 8) (hb : b < 8) : g_cm B c set 58 (8 * a + b) = k_T (k_ch A c set) a b := ((q_same (w_kJ O v v.1 set) (w_gL O v set) (fun _ => Iff.rfl)).2 h a b ha hb).symm
theorem w_wid (O : w_O A B 1 50 c) (v : w_v A 1 c) {set : Int32} (h : k_can A c set) {a b : Nat} (ha : a < 8) (hb : b < 8) : g_wid (g_cm B c set) a b = k_wid (k_ch A c set) a b := by
  unfold g_wid
  rw [w_ch O v h ha hb, w_ch O v h hb ha]
  show _ = k_T (k_ch A c set) a b - -(k_T (k_ch A c set) b a) + 1
  rw [Int32.sub_neg]
end WJ
theorem q_J.ex {M : fp_M} {P : q_x → Prop} (h : q_J M P) : ¬ M 34 0 = 0 ↔ ∃ x, P x := by
  rcases h with ⟨a1, a2, a3, a4⟩ | ⟨a1, a2⟩
  · exact ⟨fun _ => ⟨_, (a4 _).mp (a2.pt (show 0 < 8 by decide))⟩, fun _ => by rw [a1]; decide⟩
  · exact ⟨fun z => absurd a1 z, fun ⟨x, hx⟩ => absurd hx (a2 x)⟩
theorem k_allw_cg {w w' : Nat → Nat → Int32} (h : ∀ a b, a < 8 → b < 8 → w a b = w' a b) : k_allw w = k_allw w' := by
  unfold k_allw
  refine k_it_cg 8 0 (fun a _ ha s => k_it_cg (7 - a) (a + 1) (fun b hb1 hb2 s => ?_) s) 0
  rw [h a b (by omega) (by omega)]
