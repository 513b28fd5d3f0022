/-! ===== switches, rows by a known place; the shape of all cells once both objects are made ===== -/
def fp_tk (x : Int32) (G : Nat → Prop) : List (Int32 × Nat) → Prop
  | [] => True
  | q :: t => (x = q.1 → G q.2) ∧ fp_tk x G t
def fp_tn (x : Int32) : List (Int32 × Nat) → Prop
  | [] => True
  | q :: t => ¬ x = q.1 ∧ fp_tn x t
def fp_tok (pc : Nat) (lo hi : Int) (offs : Array Int) (ks : List (Int32 × Nat)) : Bool := decide ((ks.length : Int) = hi - lo + 1) && (List.range ks.length).all (fun n => match ks[n]?, offs[n]? with
  | some q, some off => decide (q.1.toInt = lo + n) && decide ((pc : Int) + off = q.2)
  | _, _ => false)
theorem fp_tk_at {x : Int32} {G : Nat → Prop} : ∀ {ks : List (Int32 × Nat)} {n : Nat} {q : Int32 × Nat}, fp_tk x G ks → ks[n]? = some q → x = q.1 → G q.2
  | [], n, q, _, h, _ => by simp at h
  | a :: t, 0, q, hk, h, hx => by
    have e : a = q := Option.some.inj h
    subst e
    exact hk.1 hx
  | a :: t, n + 1, q, hk, h, hx => fp_tk_at (ks := t) (n := n) hk.2 h hx
theorem fp_tn_of {x : Int32} : ∀ {ks : List (Int32 × Nat)}, (∀ (n : Nat) (q : Int32 × Nat), ks[n]? = some q → ¬ x = q.1) → fp_tn x ks
  | [], _ => trivial
  | a :: t, h => ⟨h 0 a rfl, fp_tn_of (fun n q hq => h (n + 1) q hq)⟩
section FPT
variable {X : fp_X} {μ : fp_Y} {pc : Nat} {ls : List (Option Value)} {st : List Value} {sh : List fp_C} {M : fp_M} {nc ns : Nat} {Post : fp_Q}
theorem r_tsw {dflt lo hi : Int} {offs : Array Int} {len : Nat} {x : Int32} (ks : List (Int32 × Nat)) (dt : Nat) (hd : decode μ.2.1 pc = .ok (.tableswitch dflt lo hi offs, len)) (k : fp_tk x (fun t => fp_W X μ t ls st sh M nc ns Post) ks) (kd : fp_tn x ks → fp_W X μ dt ls st sh M nc ns Post) (hok : fp_tok pc lo hi offs ks = true := by decide) (hdt : (pc : Int) + dflt = (dt : Int) := by decide) : fp_W X μ pc ls (.int x :: st) sh M nc ns Post := by
  unfold fp_tok at hok
  rw [Bool.and_eq_true] at hok
  obtain ⟨h1, h2⟩ := hok
  have h1 := of_decide_eq_true h1
  rw [List.all_eq_true] at h2
  have key : ∀ n, n < ks.length → ∃ q off, ks[n]? = some q ∧ offs[n]? = some off ∧ q.1.toInt = lo + n ∧ (pc : Int) + off = q.2 := by
    intro n hn
    have h3 := h2 n (List.mem_range.mpr hn)
    cases hq : ks[n]? with
    | none => rw [hq] at h3; cases h3
    | some q =>
      cases ho : offs[n]? with
      | none => rw [hq, ho] at h3; cases h3
      | some off =>
        rw [hq, ho] at h3
        have h4 : (decide (q.1.toInt = lo + n) && decide ((pc : Int) + off = q.2)) = true := h3
        rw [Bool.and_eq_true] at h4
        exact ⟨q, off, rfl, rfl, of_decide_eq_true h4.1, of_decide_eq_true h4.2⟩
  by_cases hin : lo ≤ x.toInt ∧ x.toInt ≤ hi
  · obtain ⟨q, off, e1, e2, e3, e4⟩ := key (x.toInt - lo).toNat (by omega)
    have hx : x = q.1 := Int32.toInt_inj.mp (by rw [e3]; omega)
    have hw := fp_tk_at k e1 hx
    intro p l e s m args below meth c D cs cv base A Q H locs lsA hF hH hL hN hret
    exact lv_tableIn hF.1 hF.2.1 hd (by omega) (by omega) e2 e4 (hw p l e s m args below meth c D cs cv base A Q H locs lsA hF hH hL hN hret)
  · refine r_tblOut dt hd (by omega) (kd (fp_tn_of ?_)) hdt
    intro n q hq hx
    obtain ⟨q', off, e1, e2, e3, e4⟩ := key n (List.getElem?_eq_some_iff.mp hq).1
    have e5 : q' = q := Option.some.inj (e1.symm.trans hq)
    subst e5
    have hn := (List.getElem?_eq_some_iff.mp hq).1
    rw [hx] at hin
    omega
theorem r_ialdL {k n j : Nat} {i : Int32} (hd : decode μ.2.1 pc = .ok (.iaload, 1)) (hs : sh[k]? = some (.inr (.inl n))) (hi : i = nI j) (hj : j < n ∧ n < 1000) (g : fp_W X μ (pc + 1) ls (.int (M k j) :: st) sh M nc ns Post) : fp_W X μ pc ls (.int i :: .ref k :: st) sh M nc ns Post := by
  subst hi
  have e : (nI j).toNatClampNeg = j := nI_clamp (by omega)
  refine r_iald hd hs (vp_in_nI hj.1 (by omega)) ?_
  rw [e]
  exact g
theorem r_iastL {k n j : Nat} {i v : Int32} (hd : decode μ.2.1 pc = .ok (.iastore, 1)) (hs : sh[k]? = some (.inr (.inl n))) (hi : i = nI j) (hj : j < n ∧ n < 1000) (g : fp_W X μ (pc + 1) ls st sh (fp_wr M k j v) nc ns Post) : fp_W X μ pc ls (.int v :: .int i :: .ref k :: st) sh M nc ns Post := by
  subst hi
  have e : (nI j).toNatClampNeg = j := nI_clamp (by omega)
  refine r_iast hd hs (vp_in_nI hj.1 (by omega)) ?_
  rw [e]
  exact g
theorem r_aaldL {k t r j : Nat} {rs : List (Option Nat)} {i : Int32} {C : String} (hd : decode μ.2.1 pc = .ok (.aaload, 1)) (hs : sh[k]? = some (.inr (.inr (t, rs)))) (hi : i = nI j) (hr : rs[j]? = some (some r)) (hr1 : r < 100) (hl : rs.length < 1000) (g : fp_W X μ (pc + 1) ls (.ref r :: st) sh M nc ns Post) (ht : (fp_tys (fun q => q))[t]? = some (t, .object C) := by rfl) : fp_W X μ pc ls (.int i :: .ref k :: st) sh M nc ns Post := by
  subst hi
  have hj := (List.getElem?_eq_some_iff.mp hr).1
  have e : (nI j).toNatClampNeg = j := nI_clamp (by omega)
  refine r_aald hd hs (vp_in_nI hj (by omega)) ?_ hr1 g ht
  rw [e, List.getD_eq_getElem?_getD, hr]
  rfl
end FPT
/-- an office, from its place on -/
def fp_shO (o : Nat) : List fp_C := [.inl (2, [some (some (o + 1)), none, none, none, none, none, some (some (o + 10))]), .inr (.inr (1, [some (o + 2), some (o + 3), some (o + 4), some (o + 5), some (o + 6), some (o + 7), some (o + 8), some (o + 9)])), .inl (1, [none, none, none, none, none, none]), .inl (1, [none, none, none, none, none, none]), .inl (1, [none, none, none, none, none, none]), .inl (1, [none, none, none, none, none, none]), .inl (1, [none, none, none, none, none, none]), .inl (1, [none, none, none, none, none, none]), .inl (1, [none, none, none, none, none, none]), .inl (1, [none, none, none, none, none, none]), .inr (.inl 10)]
def fp_sh : List fp_C := [.inl (5, [some (some 1), some (some 12), some (some 23), none, some (some 34), some (some 36), some (some 37), some (some 39), some (some 40)])] ++ fp_shO 1 ++ fp_shO 12 ++ fp_shO 23 ++ [.inl (0, [none, some (some 35)]), .inr (.inl 64), .inl (1, [none, none, none, none, none, none]), .inl (4, [none, some (some 38), none, none, none]), .inr (.inl 120), .inr (.inr (2, [some 41, some 43, some 45, some 47])), .inr (.inl 7), .inl (3, [none, none, some (some 42)]), .inr (.inl 40), .inl (3, [none, none, some (some 44)]), .inr (.inl 40), .inl (3, [none, none, some (some 46)]), .inr (.inl 40), .inl (3, [none, none, some (some 48)]), .inr (.inl 40),
  .inl (6, [some (some 50), some (some 51), some (some 52), none, some (some 53), some (some 54), none, some (some 55), some (some 56), some (some 57), some (some 58), none, none, none, none, none, none, none, none, none]), .inr (.inl 63), .inr (.inl 63), .inr (.inl 63), .inr (.inl 8), .inr (.inl 120), .inr (.inl 4), .inr (.inl 4), .inr (.inl 160), .inr (.inl 64)]
theorem fp_sh_len : fp_sh.length = 59 := rfl
/-- the three offices -/
def fp_of (o : Nat) : Prop := o = 1 ∨ o = 12 ∨ o = 23
theorem fp_of_1 : fp_of 1 := Or.inl rfl
theorem fp_of_12 : fp_of 12 := Or.inr (Or.inl rfl)
theorem fp_of_23 : fp_of 23 := Or.inr (Or.inr rfl)
theorem fp_of.lt {o : Nat} (h : fp_of o) : o ≤ 23 := by rcases h with rfl | rfl | rfl <;> decide
/-- the shape of a letter -/
def fp_isL (k : Nat) : Prop := fp_sh[k]? = some (.inl (1, [none, none, none, none, none, none]))
theorem fp_isL.lt {k : Nat} (h : fp_isL k) : k < 100 := Nat.lt_of_lt_of_le (List.getElem?_eq_some_iff.mp h).1 (by rw [fp_sh_len]; decide)
theorem sh_o {o : Nat} (h : fp_of o) : fp_sh[o]? = some (.inl (2, [some (some (o + 1)), none, none, none, none, none, some (some (o + 10))])) := by rcases h with rfl | rfl | rfl <;> rfl
theorem sh_r {o : Nat} (h : fp_of o) : fp_sh[o + 1]? = some (.inr (.inr (1, [some (o + 2), some (o + 3), some (o + 4), some (o + 5), some (o + 6), some (o + 7), some (o + 8), some (o + 9)]))) := by rcases h with rfl | rfl | rfl <;> rfl
theorem sh_p {o : Nat} (h : fp_of o) : fp_sh[o + 10]? = some (.inr (.inl 10)) := by rcases h with rfl | rfl | rfl <;> rfl
theorem sh_rr {o i : Nat} (hi : i < 8) : ([some (o + 2), some (o + 3), some (o + 4), some (o + 5), some (o + 6), some (o + 7), some (o + 8), some (o + 9)] : List (Option Nat))[i]? = some (some (o + 2 + i)) := by
  match i, hi with
  | 0, _ => rfl
  | 1, _ => rfl
  | 2, _ => rfl
  | 3, _ => rfl
  | 4, _ => rfl
  | 5, _ => rfl
  | 6, _ => rfl
  | 7, _ => rfl
  | n + 8, h => omega
theorem sh_l {o i : Nat} (h : fp_of o) (hi : i < 8) : fp_isL (o + 2 + i) := by
  match i, hi with
  | 0, _ => rcases h with rfl | rfl | rfl <;> rfl
  | 1, _ => rcases h with rfl | rfl | rfl <;> rfl
  | 2, _ => rcases h with rfl | rfl | rfl <;> rfl
  | 3, _ => rcases h with rfl | rfl | rfl <;> rfl
  | 4, _ => rcases h with rfl | rfl | rfl <;> rfl
  | 5, _ => rcases h with rfl | rfl | rfl <;> rfl
  | 6, _ => rcases h with rfl | rfl | rfl <;> rfl
  | 7, _ => rcases h with rfl | rfl | rfl <;> rfl
  | n + 8, h => omega
theorem sh_g : fp_isL 36 := rfl
theorem sh_s {k : Nat} (hk : k < 4) : fp_sh[41 + 2 * k]? = some (.inl (3, [none, none, some (some (42 + 2 * k))])) := by
  match k, hk with
  | 0, _ => rfl
  | 1, _ => rfl
  | 2, _ => rfl
  | 3, _ => rfl
  | n + 4, h => omega
theorem sh_n {k : Nat} (hk : k < 4) : fp_sh[42 + 2 * k]? = some (.inr (.inl 40)) := by
  match k, hk with
  | 0, _ => rfl
  | 1, _ => rfl
  | 2, _ => rfl
  | 3, _ => rfl
  | n + 4, h => omega
theorem sh_ss {k : Nat} (hk : k < 4) : ([some 41, some 43, some 45, some 47] : List (Option Nat))[k]? = some (some (41 + 2 * k)) := by
  match k, hk with
  | 0, _ => rfl
  | 1, _ => rfl
  | 2, _ => rfl
  | 3, _ => rfl
  | n + 4, h => omega
