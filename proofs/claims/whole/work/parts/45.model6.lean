/-! ===== the other one: all numbers but its matrix stay ===== -/
def g_e (M m : fp_M) : Prop := ∀ k j, ¬ (k = 58 ∧ j < 64) → m k j = M k j
theorem g_e_refl (M : fp_M) : g_e M M := fun _ _ _ => rfl
theorem g_e.tr {M m m' : fp_M} (h : g_e M m) (h2 : g_e m m') : g_e M m' := fun k j q => (h2 k j q).trans (h k j q)
theorem g_e.r50 {M m : fp_M} (h : g_e M m) : m 50 = M 50 := funext (fun j => h 50 j (fun q => absurd q.1 (by decide)))
theorem g_e.w {M m : fp_M} {j : Nat} {v : Int32} (h : g_e M m) (hj : j < 64) : g_e M (fp_wr m 58 j v) := by
  intro k i hk
  have e : fp_wr m 58 j v k i = m k i := by
    unfold fp_wr
    rw [if_neg (fun q => hk ⟨q.1, by have := q.2; omega⟩)]
  exact e.trans (h k i hk)
theorem g_e.wf {M m : fp_M} {c : Nat} (h : g_e M m) (hw : g_wf M c) : g_wf m c := by
  unfold g_wf
  rw [h.r50]
  exact hw
theorem g_e_it {f : Nat → fp_M → fp_M} {M : fp_M} {N : Nat} (hf : ∀ i m, i < N → g_e M m → g_e M (f i m)) : ∀ n i m, i + n ≤ N → g_e M m → g_e M (k_it f n i m)
  | 0, _, _, _, h => h
  | n + 1, i, m, hn, h => g_e_it hf n (i + 1) (f i m) (by omega) (hf i m (by omega) h)
theorem g_bind_e {M m : fp_M} {a b : Nat} {v : Int32} (h : g_e M m) (ha : a < 8) (hb : b < 8) : g_e M (g_bind m a b v) := h.w (by omega)
theorem g_dr_e {M m : fp_M} {c l : Nat} {set : Int32} (hw : g_wf M c) (hl : l < c) (h : g_e M m) : g_e M (g_dr set l m) := by
  unfold g_dr
  split
  · obtain ⟨f, t, hf8, ht8, hf, ht, _⟩ := (h.wf hw).2.2 l hl
    have ef : k_v (m 50 (5 + 6 * l + 1)) = f := by show (m 50 (5 + 6 * l + 1)).toNatClampNeg = f; rw [hf]; exact nI_clamp (by omega)
    have et : k_v (m 50 (5 + 6 * l + 2)) = t := by show (m 50 (5 + 6 * l + 2)).toNatClampNeg = t; rw [ht]; exact nI_clamp (by omega)
    rw [ef, et]
    exact g_bind_e (g_bind_e h hf8 ht8) ht8 hf8
  · exact h
theorem g_lay_e {M : fp_M} {c : Nat} {set : Int32} (hw : g_wf M c) : g_e M (g_lay M c set) := by
  unfold g_lay
  refine g_e_it (N := c) (fun i m hi h => g_dr_e hw hi h) c 0 _ (by omega) ?_
  exact g_e_it (N := 64) (fun i m hi h => h.w hi) 64 0 M (by omega) (g_e_refl M)
theorem g_fol_e {M m : fp_M} (h : g_e M m) : g_e M (g_fol m) := by
  unfold g_fol
  refine g_e_it (N := 8) (fun b m _ h => ?_) 8 0 m (by omega) h
  exact g_e_it (N := 64) (fun i m hi h => h.w hi) 64 0 m (by omega) h
theorem g_cm_e {M : fp_M} {c : Nat} {set : Int32} (hw : g_wf M c) : g_e M (g_cm M c set) := g_fol_e (g_lay_e hw)
theorem g_c1_at : ∀ (n i : Nat) (M : fp_M) (k j : Nat), k_it g_c1 n i M k j = if k = 58 ∧ i ≤ j ∧ j < i + n then (if nI j / 8 = nI j - nI j / 8 * 8 then 0 else 999) else M k j
  | 0, i, M, k, j => by rw [if_neg (by omega)]; rfl
  | n + 1, i, M, k, j => by
    rw [k_it_s, g_c1_at n (i + 1) (g_c1 i M) k j]
    by_cases h : k = 58 ∧ i ≤ j ∧ j < i + (n + 1)
    · rw [if_pos h]
      by_cases h2 : j = i
      · rw [if_neg (by omega)]
        obtain ⟨rfl, _⟩ := h
        subst h2
        exact fp_wr_eq
      · rw [if_pos (by omega)]
    · rw [if_neg h, if_neg (by omega)]
      unfold g_c1 fp_wr
      rw [if_neg (by omega)]
theorem g_clr_eq {M m : fp_M} (h : g_e M m) : k_it g_c1 64 0 m = k_it g_c1 64 0 M := by
  funext k j
  rw [g_c1_at, g_c1_at]
  by_cases q : k = 58 ∧ 0 ≤ j ∧ j < 0 + 64
  · rw [if_pos q, if_pos q]
  · rw [if_neg q, if_neg q]
    exact h k j (by omega)
theorem g_cm_eq {M m : fp_M} {c : Nat} {set : Int32} (h : g_e M m) : g_cm m c set = g_cm M c set := by
  unfold g_cm g_lay
  rw [g_clr_eq h]
theorem g_con_eq {M m : fp_M} {c : Nat} {d : Int32} (h : g_e M m) : g_con m d c = g_con M d c := by
  unfold g_con
  simp only [g_come, h.r50]
/-- can a set hold -/
abbrev g_hold (M : fp_M) (c : Nat) (set : Int32) : Prop := ¬ g_ok (g_cm M c set) = 0
abbrev g_dn (M : fp_M) (c n : Nat) : Int32 := nI (g_con M (M 50 1 + nI n) c)
