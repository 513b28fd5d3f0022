/-! ===== FarPost's calls that draw many charts: what a chart says doesn't hang on what stood there before ===== -/
def k_R (N N' : fp_M) : Prop := (∀ k j, ¬ k = 34 → ¬ k = 35 → N k j = N' k j) ∧ N 34 0 = N' 34 0 ∧ ∀ j, j < 64 → N 35 j = N' 35 j
theorem k_it_rel {α : Type} (R : α → α → Prop) {f : Nat → α → α} : ∀ (n i : Nat), (∀ j, i ≤ j → j < i + n → ∀ s s', R s s' → R (f j s) (f j s')) → ∀ s s', R s s' → R (k_it f n i s) (k_it f n i s')
  | 0, _, _, _, _, h => h
  | n + 1, i, hf, s, s', h => k_it_rel R n (i + 1) (fun j h1 h2 => hf j (by omega) (by omega)) _ _ (hf i (Nat.le_refl i) (by omega) s s' h)
theorem k_R.wr {N N' : fp_M} (h : k_R N N') {j : Nat} {v : Int32} : k_R (fp_wr N 35 j v) (fp_wr N' 35 j v) := by
  refine ⟨fun k i h4 h5 => ?_, ?_, fun i hi => ?_⟩
  · rw [fp_wr_ne h5, fp_wr_ne h5]; exact h.1 k i h4 h5
  · rw [fp_wr_ne (by decide), fp_wr_ne (by decide)]; exact h.2.1
  · show (if 35 = 35 ∧ i = j then v else N 35 i) = (if 35 = 35 ∧ i = j then v else N' 35 i)
    rw [h.2.2 i hi]
theorem k_R.T {N N' : fp_M} (h : k_R N N') {a b : Nat} (ha : a < 8) (hb : b < 8) : k_T N a b = k_T N' a b := h.2.2 _ (by omega)
theorem k_R.lim {N N' : fp_M} (h : k_R N N') {a b : Nat} (ha : a < 8) (hb : b < 8) (m : Int32) : k_R (k_lim N a b m) (k_lim N' a b m) := by
  unfold k_lim
  rw [h.2.1, h.T ha hb, h.T hb ha]
  split
  · exact h
  · split
    · refine ⟨fun k i h4 h5 => ?_, ?_, fun i hi => ?_⟩
      · rw [fp_wr_ne h4, fp_wr_ne h4]; exact h.1 k i h4 h5
      · simp [fp_wr]
      · rw [fp_wr_ne (by decide), fp_wr_ne (by decide)]; exact h.2.2 i hi
    · refine k_it_rel k_R 8 0 (fun i _ hi s s' hs => ?_) N N' h
      unfold k_limi
      rw [hs.T (a := i) (by omega) ha]
      refine k_it_rel k_R 8 0 (fun j _ hj t t' ht => ?_) s s' hs
      unfold k_limj
      rw [ht.T hb (b := j) (by omega), ht.T (a := i) (b := j) (by omega) (by omega)]
      split
      · exact ht.wr
      · exact ht
theorem k_R.nar {N N' : fp_M} (h : k_R N N') {a b : Nat} (ha : a < 8) (hb : b < 8) (l m : Int32) : k_R (k_nar N a b l m) (k_nar N' a b l m) := (h.lim ha hb m).lim hb ha (-l)
theorem k_clr_R {M M' : fp_M} (h : k_ech M M') : k_R (k_clr M) (k_clr M') := by
  refine ⟨fun k j h4 h5 => ?_, ?_, ?_⟩
  · rw [k_clr_ech M k j h4 h5, k_clr_ech M' k j h4 h5, h k j h4 h5]
  · rw [k_clr_p, k_clr_p]
  · unfold k_clr
    refine k_it_rel (fun N N' : fp_M => ∀ j, j < 64 → N 35 j = N' 35 j) 8 0 (fun i _ hi s s' hs j hj => ?_) _ _ (fun j hj => ?_)
    · show (if 35 = 35 ∧ j = 8 * i + i then 0 else s 35 j) = (if 35 = 35 ∧ j = 8 * i + i then 0 else s' 35 j)
      rw [hs j hj]
    · unfold k_fill
      rw [if_pos ⟨rfl, hj⟩, if_pos ⟨rfl, hj⟩]
theorem k_draw_R {M M' : fp_M} {c : Nat} {set slip : Int32} (h : k_ech M M') (hw : k_wf M 1 c) : k_R (k_draw M c set slip) (k_draw M' c set slip) := by
  unfold k_draw
  have key : ∀ (n i : Nat), i + n = c → ∀ s s' : fp_M, k_R s s' ∧ k_ech M s → k_R (k_it (k_dr set slip) n i s) (k_it (k_dr set slip) n i s') := by
    intro n
    induction n with
    | zero => intro i _ s s' hs; exact hs.1
    | succ n ih =>
      intro i hi s s' hs
      rw [k_it_s, k_it_s]
      refine ih (i + 1) (by omega) _ _ ⟨?_, hs.2.tr (k_dr_ech _ _ _ _)⟩
      obtain ⟨f, t, hf8, ht8, hf, ht, -⟩ := hw.2.2 i (by omega)
      have e1 : s (3 + i) 1 = nI f := by rw [hs.2 _ _ (by have := hw.1; omega) (by have := hw.1; omega)]; exact hf
      have e2 : s (3 + i) 2 = nI t := by rw [hs.2 _ _ (by have := hw.1; omega) (by have := hw.1; omega)]; exact ht
      have q : ∀ j, s' (3 + i) j = s (3 + i) j := fun j => (hs.1.1 (3 + i) j (by have := hw.1; omega) (by have := hw.1; omega)).symm
      unfold k_dr
      rw [q 0, q 1, q 2, q 3, ← hs.1.2.1, e1, e2, nI_clamp (by omega), nI_clamp (by omega)]
      split
      · exact hs.1
      · split
        · exact hs.1.nar hf8 ht8 _ _
        · exact hs.1
  exact key c 0 (by omega) _ _ ⟨k_clr_R h, k_clr_ech M⟩
/-- a set of letters can hold together; what its chart says -/
abbrev k_can (M : fp_M) (c : Nat) (set : Int32) : Prop := ¬ k_ch M c set 34 0 = 0
theorem k_ch_R {M M' : fp_M} {c : Nat} (set : Int32) (h : k_ech M M') (hw : k_wf M 1 c) : k_R (k_ch M c set) (k_ch M' c set) := by
  show k_R (k_draw M c set (M 1 2)) (k_draw M' c set (M' 1 2))
  rw [h 1 2 (by decide) (by decide)]
  exact k_draw_R h hw
theorem k_can_e {M M' : fp_M} {c : Nat} {set : Int32} (h : k_ech M M') (hw : k_wf M 1 c) : k_can M' c set ↔ k_can M c set := by
  unfold k_can
  rw [(k_ch_R set h hw).2.1]
theorem k_ch_ech (M : fp_M) (c : Nat) (set : Int32) : k_ech M (k_ch M c set) := k_draw_ech M c set (M 1 2)
theorem k_ech.wf {M M' : fp_M} {c : Nat} (h : k_ech M M') (hw : k_wf M 1 c) : k_wf M' 1 c := h.e34.wf fp_of_1 hw
/-- the first number that a search finds -/
def k_first (P : Nat → Bool) : Nat → Nat → Option Nat
  | 0, _ => none
  | n + 1, i => if P i = true then some i else k_first P n (i + 1)
/-- without any letter: every span is open -/
theorem k_draw_0 (M : fp_M) (c : Nat) (slip : Int32) (hc : c ≤ 8) : k_draw M c 0 slip = k_clr M := by
  unfold k_draw
  have h0 : ∀ i, i < 8 → ¬ ((0 : Int32) >>> (nI i &&& 31)) &&& 1 = 1 := by decide +kernel
  have key : ∀ (n i : Nat), i + n = c → ∀ s : fp_M, k_it (k_dr 0 slip) n i s = s := by
    intro n
    induction n with
    | zero => intro i _ s; rfl
    | succ n ih =>
      intro i hi s
      rw [k_it_s]
      have e : k_dr 0 slip i s = s := by
        unfold k_dr
        split
        · rfl
        · rw [if_neg (h0 i (by omega))]
      rw [e]
      exact ih (i + 1) (by omega) s
  exact key c 0 (by omega) _
theorem k_clr_T (M : fp_M) {a b : Nat} (ha : a < 8) (hb : b < 8) : k_T (k_clr M) a b = if a = b then 0 else 999 := by
  have key : ∀ (n i : Nat), i + n = 8 → ∀ s : fp_M, (∀ a b, a < 8 → b < 8 → k_T s a b = if a = b ∧ a < i then 0 else 999) → ∀ a b, a < 8 → b < 8 → k_T (k_it (fun i M => fp_wr M 35 (8 * i + i) 0) n i s) a b = if a = b ∧ a < 8 then 0 else 999 := by
    intro n
    induction n with
    | zero => intro i hi s hs a b ha hb; rw [show i = 8 by omega] at hs; exact hs a b ha hb
    | succ n ih =>
      intro i hi s hs
      refine ih (i + 1) (by omega) _ (fun a b ha hb => ?_)
      show (if 35 = 35 ∧ 8 * a + b = 8 * i + i then 0 else s 35 (8 * a + b)) = _
      by_cases h1 : a = i ∧ b = i
      · rw [if_pos (by omega), if_pos (by omega)]
      · rw [if_neg (by omega)]
        have := hs a b ha hb
        show k_T s a b = _
        rw [this]
        by_cases h2 : a = b ∧ a < i
        · rw [if_pos h2, if_pos (by omega)]
        · rw [if_neg h2, if_neg (by omega)]
  have h := key 8 0 (by omega) (k_fill (fp_wr M 34 0 1) 35 64 999) (fun a b ha hb => by
    show (if 35 = 35 ∧ 8 * a + b < 64 then (999 : Int32) else _) = _
    rw [if_pos (by omega), if_neg (by omega)]) a b ha hb
  have h2 : k_T (k_clr M) a b = k_T (k_it (fun i M => fp_wr M 35 (8 * i + i) 0) 8 0 (k_fill (fp_wr M 34 0 1) 35 64 999)) a b := rfl
  rw [h2, h]
  by_cases h3 : a = b
  · rw [if_pos ⟨h3, ha⟩, if_pos h3]
  · rw [if_neg (fun q => h3 q.1), if_neg h3]
theorem k_can_0 (M : fp_M) (c : Nat) (hc : c ≤ 8) : k_can M c 0 := by
  show ¬ k_draw M c 0 (M 1 2) 34 0 = 0
  rw [k_draw_0 M c _ hc, k_clr_p]
  decide
section FPW
variable {X : fp_X} {μ μz : fp_Y} {pc idx : Nat} {ls : List (Option Value)} {st : List Value} {sh : List fp_C} {M : fp_M} {nc ns : Nat} {Post : fp_Q}
/-- a call whose numbers behind it are known by a property -/
theorem c_V2w {b0 b1 v : Value} {k ci : Nat} {fs : List (Option (Option Nat))} {E : fp_M → Prop} (hd : decode μ.2.1 pc = .ok (.invokevirtual idx, 3)) (hl : Cond.methodLink μ.1.cls idx μz.1 ∈ fp_tbl) (hm : fp_mV μz 2) (hs : sh[k]? = some (.inl (ci, fs))) (hok : fp_Ok X μz [.ref k, b0, b1] sh M (fun r s m => r = some v ∧ s = sh ∧ E m)) (g : ∀ M', E M' → fp_W X μ (pc + 3) ls (v :: st) sh M' nc ns Post) (hcl : (vwCl[ci]?).map (fun q => q.1) = some μz.1.cls := by rfl) (hrm : fp_rm μ μz := by exact ⟨Nat.le_of_ble_eq_true rfl, Nat.le_of_ble_eq_true rfl⟩) (hst : (st.map fun v => v.category).sum ≤ 8 := by exact Nat.le_of_ble_eq_true rfl) (hz : fp_z0 μz := by exact ⟨rfl, rfl⟩) : fp_W X μ pc ls (b1 :: b0 :: .ref k :: st) sh M nc ns Post := by
  intro p l e s m args below meth c D cs cv base A Q H locs lsA hF hH hL hN hret
  refine fp_callV (av := [b0, b1]) hd hl hm hrm rfl hst (by rw [hz.1, hz.2]; exact hN) hs hcl hok (fun r' s' m' h => ?_) p l e s m args below meth c D cs cv base A Q H locs lsA hF hH hL hN hret
  obtain ⟨rfl, rfl, h3⟩ := h
  rw [hz.1, hz.2]
  exact g m' h3
end FPW
