/-! ===== rows of the calculus that touch cells ===== -/
/-- a number written -/
def fp_wr (M : fp_M) (k j : Nat) (v : Int32) : fp_M := fun k' j' => if k' = k ∧ j' = j then v else M k' j'
/-- a new cell's numbers -/
def fp_z (M : fp_M) (k : Nat) : fp_M := fun k' j' => if k' = k then 0 else M k' j'
/-- a stretch copied -/
def fp_cp (M : fp_M) (k0 sp k1 dp n : Nat) : fp_M := fun k j => if k = k1 then va_cpy (M k0) (M k1) sp dp n j else M k j
theorem fp_wr_row {M : fp_M} {k j q : Nat} {v : Int32} (h : q ≠ k) : fp_wr M k j v q = M q := by
  funext i
  unfold fp_wr
  rw [if_neg (fun e => h e.1)]
theorem fp_wr_self (M : fp_M) (k j : Nat) (v : Int32) : fp_wr M k j v k = upd (M k) j v := by
  funext i
  unfold fp_wr upd
  by_cases h : i = j
  · rw [if_pos ⟨rfl, h⟩, if_pos h]
  · rw [if_neg (fun e => h e.2), if_neg h]
theorem fp_z_row {M : fp_M} {k q : Nat} (h : q ≠ k) : fp_z M k q = M q := by
  funext i
  unfold fp_z
  rw [if_neg h]
theorem fp_cp_row {M : fp_M} {k0 sp k1 dp n q : Nat} (h : q ≠ k1) : fp_cp M k0 sp k1 dp n q = M q := by
  funext i
  unfold fp_cp
  rw [if_neg h]
/-- a class of ours, by its number: its words are words for all -/
def fp_cl (ci : Nat) (C : String) (T : u_T) (N : Nat) (ty : Nat → FieldType) : Prop := vwCl[ci]? = some (C, T, N) ∧ (∀ w ∈ u_ws C T N, w ∈ fp_tbl) ∧ (∀ k, k < N → parseFieldDescriptor (T k).2.2.1 = some (ty k)) ∧ (∀ a, a < N → ∀ b, b < N → a ≠ b → (T a).2.1 ≠ (T b).2.1)
/-- a field, by its class and place, at an entry of own's pool -/
def fp_fl (own : String) (idx ci j : Nat) (fty : FieldType) (fin : Bool) : Prop := ∃ (C : String) (T : u_T) (N : Nat) (ty : Nat → FieldType), fp_cl ci C T N ty ∧ j < N ∧ Cond.fieldLink own idx (T j).1 (T j).2.1 (T j).2.2.1 ∈ fp_tbl ∧ ty j = fty ∧ (T j).2.2.2 = fin ∧ (T j).1 = C
theorem fp_fs_at {X : fp_X} {base : Nat} {M : fp_M} {k j : Nat} {fs : List (Option (Option Nat))} {f : Option (Option Nat)} (h : fs[j]? = some f) : (fs.zipIdx.map (fp_fv X base M k))[j]? = some (fp_fv X base M k (f, j)) := by
  rw [List.getElem?_map, List.getElem?_zipIdx, h]
  simp
theorem fp_fs_set {X : fp_X} {base : Nat} {M : fp_M} {k j : Nat} {v : Int32} {fs : List (Option (Option Nat))} (h : fs[j]? = some none) : (fs.zipIdx.map (fp_fv X base M k)).set j (.int v) = fs.zipIdx.map (fp_fv X base (fp_wr M k j v) k) := by
  refine List.ext_getElem? fun i => ?_
  have hlt : j < fs.length := (List.getElem?_eq_some_iff.mp h).1
  rw [List.getElem?_set, List.getElem?_map, List.getElem?_map, List.getElem?_zipIdx]
  by_cases hi : j = i
  · subst hi
    rw [if_pos rfl, if_pos (by simp; exact hlt), h]
    simp [fp_fv, fp_wr]
  · rw [if_neg hi]
    cases hf : fs[i]? with
    | none => rfl
    | some f =>
      rcases f with _ | _ | r
      · simp only [Option.map_some, Nat.zero_add]
        show some (Value.int (M k i)) = some (Value.int (fp_wr M k j v k i))
        unfold fp_wr
        rw [if_neg (fun e => hi e.2.symm)]
      · rfl
      · rfl
theorem fp_fs_setr {X : fp_X} {base : Nat} {M : fp_M} {k j r : Nat} {fs : List (Option (Option Nat))} (hlt : j < fs.length) : (fs.zipIdx.map (fp_fv X base M k)).set j (.ref (fp_ad X base r)) = (fs.set j (some (some r))).zipIdx.map (fp_fv X base M k) := by
  refine List.ext_getElem? fun i => ?_
  rw [List.getElem?_set, List.getElem?_map, List.getElem?_map, List.getElem?_zipIdx, List.getElem?_zipIdx, List.getElem?_set]
  by_cases hi : j = i
  · subst hi
    rw [if_pos rfl, if_pos (by simp; exact hlt), if_pos rfl, if_pos hlt]
    rfl
  · rw [if_neg hi, if_neg hi]
section FPM
variable {X : fp_X} {μ : fp_Y} {pc : Nat} {ls : List (Option Value)} {st : List Value} {sh : List fp_C} {M : fp_M} {nc ns : Nat} {Post : fp_Q}
theorem r_getfi {idx ci j k : Nat} {fty : FieldType} {fin : Bool} {fs : List (Option (Option Nat))} (hd : decode μ.2.1 pc = .ok (.getfield idx, 3)) (hf : fp_fl μ.1.cls idx ci j fty fin) (hs : sh[k]? = some (.inl (ci, fs))) (hj : fs[j]? = some none) (g : fp_W X μ (pc + 3) ls (.int (M k j) :: st) sh M nc ns Post) : fp_W X μ pc ls (.ref k :: st) sh M nc ns Post := by
  intro p l e s m args below meth c D cs cv base A Q H locs lsA hF hH hL hN hret
  obtain ⟨hx, hb, hr, hml, hown, hts, hlk, hin, hK, hA, hcv, hR⟩ := id hF
  obtain ⟨C, T, N, ty, ⟨h1, h3, -, -⟩, h2, h4, -⟩ := hf
  have hk : k < 100 := Nat.lt_of_lt_of_le (List.getElem?_eq_some_iff.mp hs).1 hH.2.2.2.2
  have ev : fp_v cv (.ref k) = .ref (fp_ad X base k) := hcv.1 k hk
  rw [List.map_cons, ev]
  exact va_get (D := D) (ci := ci) (v := .int (M k j)) (C := C) (T := T) (N := N) hx hb hts h3 hown hK hH.1 k (fp_w_some hs) h1 j h2 (hts _ h4) (fun _ h9 => h9) (fp_fs_at hj) hd (g p l e s m args below meth c D cs cv base A Q H locs lsA hF hH hL hN hret)
theorem r_getfr {idx ci j k r : Nat} {fty : FieldType} {fin : Bool} {fs : List (Option (Option Nat))} (hd : decode μ.2.1 pc = .ok (.getfield idx, 3)) (hf : fp_fl μ.1.cls idx ci j fty fin) (hs : sh[k]? = some (.inl (ci, fs))) (hj : fs[j]? = some (some (some r))) (g : fp_W X μ (pc + 3) ls (.ref r :: st) sh M nc ns Post) (hr0 : r < 100 := by decide) : fp_W X μ pc ls (.ref k :: st) sh M nc ns Post := by
  intro p l e s m args below meth c D cs cv base A Q H locs lsA hF hH hL hN hret
  obtain ⟨hx, hb, hr, hml, hown, hts, hlk, hin, hK, hA, hcv, hR⟩ := id hF
  obtain ⟨C, T, N, ty, ⟨h1, h3, -, -⟩, h2, h4, -⟩ := hf
  have hk : k < 100 := Nat.lt_of_lt_of_le (List.getElem?_eq_some_iff.mp hs).1 hH.2.2.2.2
  have ev : fp_v cv (.ref k) = .ref (fp_ad X base k) := hcv.1 k hk
  have er : fp_v cv (.ref r) = .ref (fp_ad X base r) := hcv.1 r hr0
  have hg := g p l e s m args below meth c D cs cv base A Q H locs lsA hF hH hL hN hret
  rw [List.map_cons, er] at hg
  rw [List.map_cons, ev]
  exact va_get (D := D) (ci := ci) (v := .ref (fp_ad X base r)) (C := C) (T := T) (N := N) hx hb hts h3 hown hK hH.1 k (fp_w_some hs) h1 j h2 (hts _ h4) (fun _ h9 => h9) (fp_fs_at hj) hd hg
/-- a number goes into a field -/
theorem r_putfi {idx ci j k : Nat} {v : Int32} {fty : FieldType} {fs : List (Option (Option Nat))} (hd : decode μ.2.1 pc = .ok (.putfield idx, 3)) (hf : fp_fl μ.1.cls idx ci j fty false) (hs : sh[k]? = some (.inl (ci, fs))) (hj : fs[j]? = some none) (g : fp_W X μ (pc + 3) ls st sh (fp_wr M k j v) nc ns Post) (hn : narrow fty (.int v) = .int v := by rfl) (hfit : fits fty (.int v) = true := by rfl) : fp_W X μ pc ls (.int v :: .ref k :: st) sh M nc ns Post := by
  intro p l e s m args below meth c D cs cv base A Q H locs lsA hF hH hL hN hret
  obtain ⟨hx, hb, hr, hml, hown, hts, hlk, hin, hK, hA, hcv, hR⟩ := id hF
  obtain ⟨C, T, N, ty, ⟨h1, h3, h5, h6⟩, h2, h4, h7, h8, -⟩ := hf
  obtain ⟨hP, hD, hS0, hsz, hcap⟩ := hH
  have hlt := (List.getElem?_eq_some_iff.mp hs).1
  have hk : k < 100 := Nat.lt_of_lt_of_le hlt hcap
  have ev : fp_v cv (.ref k) = .ref (fp_ad X base k) := hcv.1 k hk
  rw [List.map_cons, List.map_cons, ev]
  have he := fp_w_some (X := X) (cs := cs) (base := base) (M := M) hs
  have hap := va_apart (own := μ.1.cls) hts h3 ty h5 h6 hK h1
  obtain ⟨r, g1, cell, q1, q2, q3, q4⟩ := hP k _ he
  have hrr : r = (C, T, N) := Option.some.inj (g1.symm.trans h1)
  subst hrr
  obtain ⟨hS, hfc, kC, hkC, hkind⟩ := hK.1 ci _ h1
  obtain ⟨cf, kf, fi, f, hi, hsl⟩ := hS j h2
  have hlay := hts _ (h3 _ (u_in_lay h2))
  unfold u_lay at hlay
  rw [if_neg (by rw [h8]; decide)] at hlay
  have hst := (u_facts hfc hkC (u_lays hts h3 h2) hi).1
  have h9 := u_store hfc hkC hkind hlay hi ((h5 j h2).trans (by rw [h7])) hn hfit
  refine W.putK hx hb (f := f) ⟨hown, hts _ h4, ⟨_, _, _, hi⟩, hst⟩ (by rw [q2]; exact h9) q1 q3 (by rw [hsl]; exact k2_hasslot (q4 j h2)) rfl rfl hd fun H' e1 e2 e3 => ?_
  rw [hsl] at e1 ⊢
  have hl2 : j < (fs.zipIdx.map (fp_fv X base M k)).length := by simp; exact (List.getElem?_eq_some_iff.mp hj).1
  have hnew : va_at D vwCl (fp_ad X base k, .inr (ci, (fs.zipIdx.map (fp_fv X base M k)).set j (.int v))) H' := ⟨_, h1, t_OB.to (V := updV (vp_V (fs.zipIdx.map (fp_fv X base M k))) j (.int v)) ⟨_, e1, q2, q3, t_set q4 hap h2 (.int v)⟩ (fun i _ => vp_updV_set hl2 (.int v) i)⟩
  have hw : (fp_w X cs base sh M).set k (fp_ad X base k, .inr (ci, (fs.zipIdx.map (fp_fv X base M k)).set j (.int v))) = fp_w X cs base sh (fp_wr M k j v) := by
    rw [fp_fs_set hj]
    have := fp_w_set (X := X) (cs := cs) (base := base) (sh := sh) (M := M) (M' := fp_wr M k j v) (k := k) (c := .inl (ci, fs)) hlt (fun q hq => fp_wr_row hq)
    rw [fp_set_self hs] at this
    exact this
  refine g p l e s m args below meth c D cs cv base A Q H' _ lsA hF ⟨?_, ?_, hS0.put e2 e3 (hD.2 k _ he), by rw [e2]; exact hsz, hcap⟩ hL hN hret
  · rw [← hw]
    exact hP.set hD he hnew e3
  · rw [← hw]
    exact hD.set he
/-- a place goes into a final field, in a constructor -/
theorem r_putfr {idx ci j k r : Nat} {fty : FieldType} {fs : List (Option (Option Nat))} (hd : decode μ.2.1 pc = .ok (.putfield idx, 3)) (hf : fp_fl μ.1.cls idx ci j fty true) (hs : sh[k]? = some (.inl (ci, fs))) (hj : j < fs.length) (hr0 : r < 100) (hi0 : μ.1.name = "<init>") (hc0 : (vwCl[ci]?).map (fun q => q.1) = some μ.1.cls) (g : fp_W X μ (pc + 3) ls st (sh.set k (.inl (ci, fs.set j (some (some r))))) M nc ns Post) (hn : ∀ a : Nat, narrow fty (.ref a) = .ref a := by intro a; rfl) (hfit : ∀ a : Nat, fits fty (.ref a) = true := by intro a; rfl) : fp_W X μ pc ls (.ref r :: .ref k :: st) sh M nc ns Post := by
  intro p l e s m args below meth c D cs cv base A Q H locs lsA hF hH hL hN hret
  obtain ⟨hx, hb, hr, hml, hown, hts, hlk, hin, hK, hA, hcv, hR⟩ := id hF
  obtain ⟨C, T, N, ty, ⟨h1, h3, h5, h6⟩, h2, h4, h7, h8, h10⟩ := hf
  obtain ⟨hP, hD, hS0, hsz, hcap⟩ := hH
  have hlt := (List.getElem?_eq_some_iff.mp hs).1
  have hk : k < 100 := Nat.lt_of_lt_of_le hlt hcap
  have ev : fp_v cv (.ref k) = .ref (fp_ad X base k) := hcv.1 k hk
  have er : fp_v cv (.ref r) = .ref (fp_ad X base r) := hcv.1 r hr0
  rw [List.map_cons, List.map_cons, ev, er]
  have hdecl : (T j).1 = μ.1.cls := by
    rw [h1] at hc0
    rw [h10]
    exact Option.some.inj hc0
  have he := fp_w_some (X := X) (cs := cs) (base := base) (M := M) hs
  have hap := va_apart (own := μ.1.cls) hts h3 ty h5 h6 hK h1
  obtain ⟨r', g1, cell, q1, q2, q3, q4⟩ := hP k _ he
  have hrr : r' = (C, T, N) := Option.some.inj (g1.symm.trans h1)
  subst hrr
  obtain ⟨hS, hfc, kC, hkC, hkind⟩ := hK.1 ci _ h1
  obtain ⟨cf, kf, fi, f, hi, hsl⟩ := hS j h2
  have hlay := hts _ (h3 _ (u_in_lay h2))
  unfold u_lay at hlay
  rw [if_pos h8] at hlay
  have hst := (u_facts hfc hkC (u_lays hts h3 h2) hi).1
  have hcf : m.cls = cf := by
    obtain ⟨_, _, c', _, _, _, -, -, hf', -, -, -, hown2, -⟩ := Cond.laysFinal_spec hlay
    have e1 : c' = cf := by have := hi.symm.trans hf'; simp at this; exact this.1.symm
    rw [hdecl] at hown2
    rw [← e1]; exact Option.some.inj (hown.symm.trans hown2)
  have h9 := u_fits hfc hkC hkind (Or.inr hlay) hi ((h5 j h2).trans (by rw [h7])) (hn (fp_ad X base r)) (hfit (fp_ad X base r))
  refine W.putFinK hx hb hown (hts _ h4) hi hst hcf (hin hi0) (by rw [q2]; exact h9) q1 q3 (by rw [hsl]; exact k2_hasslot (q4 j h2)) rfl rfl hd fun H' e1 e2 e3 => ?_
  rw [hsl] at e1 ⊢
  have hl2 : j < (fs.zipIdx.map (fp_fv X base M k)).length := by simp; exact hj
  have hnew : va_at D vwCl (fp_ad X base k, .inr (ci, (fs.zipIdx.map (fp_fv X base M k)).set j (.ref (fp_ad X base r)))) H' := ⟨_, h1, t_OB.to (V := updV (vp_V (fs.zipIdx.map (fp_fv X base M k))) j (.ref (fp_ad X base r))) ⟨_, e1, q2, q3, t_set q4 hap h2 (.ref (fp_ad X base r))⟩ (fun i _ => vp_updV_set hl2 (.ref (fp_ad X base r)) i)⟩
  have hw : (fp_w X cs base sh M).set k (fp_ad X base k, .inr (ci, (fs.zipIdx.map (fp_fv X base M k)).set j (.ref (fp_ad X base r)))) = fp_w X cs base (sh.set k (.inl (ci, fs.set j (some (some r))))) M := by
    rw [fp_fs_setr hj]
    exact fp_w_set (X := X) (cs := cs) (base := base) (sh := sh) (M := M) (M' := M) (k := k) (c := .inl (ci, fs.set j (some (some r)))) hlt (fun q hq => rfl)
  refine g p l e s m args below meth c D cs cv base A Q H' _ lsA hF ⟨?_, ?_, hS0.put e2 e3 (hD.2 k _ he), by rw [e2, List.length_set]; exact hsz, by rw [List.length_set]; exact hcap⟩ hL hN hret
  · rw [← hw]
    exact hP.set hD he hnew e3
  · rw [← hw]
    exact hD.set he
theorem r_iald {k n : Nat} {i : Int32} (hd : decode μ.2.1 pc = .ok (.iaload, 1)) (hs : sh[k]? = some (.inr (.inl n))) (hi : vp_in i n) (g : fp_W X μ (pc + 1) ls (.int (M k i.toNatClampNeg) :: st) sh M nc ns Post) : fp_W X μ pc ls (.int i :: .ref k :: st) sh M nc ns Post := by
  intro p l e s m args below meth c D cs cv base A Q H locs lsA hF hH hL hN hret
  obtain ⟨hx, hb, hr, hml, hown, hts, hlk, hin, hK, hA, hcv, hR⟩ := id hF
  have hk : k < 100 := Nat.lt_of_lt_of_le (List.getElem?_eq_some_iff.mp hs).1 hH.2.2.2.2
  have ev : fp_v cv (.ref k) = .ref (fp_ad X base k) := hcv.1 k hk
  rw [List.map_cons, List.map_cons, ev]
  exact va_iald (f := M k) hx hb hK hH.1 k 0 (fp_w_some hs) rfl hi hd (g p l e s m args below meth c D cs cv base A Q H locs lsA hF hH hL hN hret)
theorem r_iast {k n : Nat} {i v : Int32} (hd : decode μ.2.1 pc = .ok (.iastore, 1)) (hs : sh[k]? = some (.inr (.inl n))) (hi : vp_in i n) (g : fp_W X μ (pc + 1) ls st sh (fp_wr M k i.toNatClampNeg v) nc ns Post) : fp_W X μ pc ls (.int v :: .int i :: .ref k :: st) sh M nc ns Post := by
  intro p l e s m args below meth c D cs cv base A Q H locs lsA hF hH hL hN hret
  obtain ⟨hx, hb, hr, hml, hown, hts, hlk, hin, hK, hA, hcv, hR⟩ := id hF
  obtain ⟨hP, hD, hS, hsz, hcap⟩ := hH
  have hlt := (List.getElem?_eq_some_iff.mp hs).1
  have hk : k < 100 := Nat.lt_of_lt_of_le hlt hcap
  have ev : fp_v cv (.ref k) = .ref (fp_ad X base k) := hcv.1 k hk
  rw [List.map_cons, List.map_cons, List.map_cons, ev]
  have he := fp_w_some (X := X) (cs := cs) (base := base) (M := M) hs
  have hw : (fp_w X cs base sh M).set k (fp_ad X base k, .inl (cs 0, n, .inl (upd (M k) i.toNatClampNeg v))) = fp_w X cs base sh (fp_wr M k i.toNatClampNeg v) := by
    rw [← fp_wr_self]
    have := fp_w_set (X := X) (cs := cs) (base := base) (sh := sh) (M := M) (M' := fp_wr M k i.toNatClampNeg v) (k := k) (c := .inr (.inl n)) hlt (fun q hq => fp_wr_row hq)
    rw [fp_set_self hs] at this
    exact this
  have ha : (fp_w X cs base sh M)[k]? = some (fp_ad X base k, .inl (cs 0, n, .inl (M k))) := he
  refine W.iast hx hb (hP k _ ha) ((hK.2 0 _ rfl).1 n (fun j => .int (M k j))) (fun q => by cases q) (by show ¬ (i < 0 ∨ (arrV _ _ _).slots.size ≤ _); rw [arrV_size]; exact hi) rfl rfl hd fun H1 e1 z oq => ?_
  have hnew : H1[fp_ad X base k]? = some (vp_cell (cs 0) (n, .inl (upd (M k) i.toNatClampNeg v))) := by
    rw [e1]
    rw [vp_cell_i, vp_cell_i, arrV_store]
    congr 2
    funext q
    by_cases hq : q = i.toNatClampNeg
    · subst hq
      simp [updV, upd]
    · simp [updV, upd, hq]
  refine g p l e s m args below meth c D cs cv base A Q H1 _ lsA hF ⟨?_, ?_, hS.put z oq (hD.2 k _ ha), by rw [z]; exact hsz, hcap⟩ hL hN hret
  · rw [← hw]
    exact hP.set hD ha hnew oq
  · rw [← hw]
    exact hD.set ha
theorem r_aald {k t r : Nat} {rs : List (Option Nat)} {i : Int32} {C : String} (hd : decode μ.2.1 pc = .ok (.aaload, 1)) (hs : sh[k]? = some (.inr (.inr (t, rs)))) (hi : vp_in i rs.length) (hr0 : rs.getD i.toNatClampNeg none = some r) (hr1 : r < 100) (g : fp_W X μ (pc + 1) ls (.ref r :: st) sh M nc ns Post) (ht : (fp_tys (fun q => q))[t]? = some (t, .object C) := by rfl) : fp_W X μ pc ls (.int i :: .ref k :: st) sh M nc ns Post := by
  intro p l e s m args below meth c D cs cv base A Q H locs lsA hF hH hL hN hret
  obtain ⟨hx, hb, hr, hml, hown, hts, hlk, hin, hK, hA, hcv, hR⟩ := id hF
  have hk : k < 100 := Nat.lt_of_lt_of_le (List.getElem?_eq_some_iff.mp hs).1 hH.2.2.2.2
  have ev : fp_v cv (.ref k) = .ref (fp_ad X base k) := hcv.1 k hk
  have er : fp_v cv (.ref r) = .ref (fp_ad X base r) := hcv.1 r hr1
  have hg := g p l e s m args below meth c D cs cv base A Q H locs lsA hF hH hL hN hret
  rw [List.map_cons, er] at hg
  rw [List.map_cons, List.map_cons, ev]
  have htt : (fp_tys cs)[t]? = some (cs t, .object C) := by
    match t, ht with
    | 0, ht => cases ht
    | 1, ht => cases ht; rfl
    | 2, ht => cases ht; rfl
    | n + 3, ht => cases ht
  refine va_aldq (n := rs.length) (f := fun j => (rs.getD j none).map (fun r => fp_ad X base r)) hx hb hK hH.1 k t (fp_w_some hs) htt hi hd ?_
  show W p l e μ.2.2.2.2 s m args below meth c H locs nc ns Q (F0 m (pc + 1) lsA (va_rf ((rs.getD i.toNatClampNeg none).map (fun r => fp_ad X base r)) :: st.map (fp_v cv)))
  rw [hr0]
  exact hg
theorem r_alen {k n : Nat} (v : Int32) (hd : decode μ.2.1 pc = .ok (.arraylength, 1)) (hs : sh[k]? = some (.inr (.inl n))) (hv : Int32.ofNat n = v) (g : fp_W X μ (pc + 1) ls (.int v :: st) sh M nc ns Post) : fp_W X μ pc ls (.ref k :: st) sh M nc ns Post := by
  intro p l e s m args below meth c D cs cv base A Q H locs lsA hF hH hL hN hret
  obtain ⟨hx, hb, hr, hml, hown, hts, hlk, hin, hK, hA, hcv, hR⟩ := id hF
  have hk : k < 100 := Nat.lt_of_lt_of_le (List.getElem?_eq_some_iff.mp hs).1 hH.2.2.2.2
  have ev : fp_v cv (.ref k) = .ref (fp_ad X base k) := hcv.1 k hk
  rw [List.map_cons, ev]
  exact va_alen (x := (n, .inl (M k))) (ty := .int) hx hb hK hH.1 k 0 (fp_w_some hs) rfl hv hd (g p l e s m args below meth c D cs cv base A Q H locs lsA hF hH hL hN hret)
/-- the script -/
theorem r_sld {i : Int32} (hd : decode μ.2.1 pc = .ok (.iaload, 1)) (hi : vp_in i X.1) (g : fp_W X μ (pc + 1) ls (.int (X.2.1 i.toNatClampNeg) :: st) sh M nc ns Post) : fp_W X μ pc ls (.int i :: .ref 150 :: st) sh M nc ns Post := by
  intro p l e s m args below meth c D cs cv base A Q H locs lsA hF hH hL hN hret
  obtain ⟨hx, hb, hr, hml, hown, hts, hlk, hin, hK, hA, hcv, hR⟩ := id hF
  obtain ⟨-, -, -, ⟨b, h1, h2, h3, h4⟩, -⟩ := hR
  have ev : fp_v cv (.ref 150) = .ref b := h1
  rw [List.map_cons, List.map_cons, ev]
  exact va_sld hx hb h3 h2 h4 hH.2.2.1 hi hd (g p l e s m args below meth c D cs cv base A Q H locs lsA hF hH hL hN hret)
theorem r_slen (hd : decode μ.2.1 pc = .ok (.arraylength, 1)) (g : fp_W X μ (pc + 1) ls (.int (Int32.ofNat X.1) :: st) sh M nc ns Post) : fp_W X μ pc ls (.ref 150 :: st) sh M nc ns Post := by
  intro p l e s m args below meth c D cs cv base A Q H locs lsA hF hH hL hN hret
  obtain ⟨hx, hb, hr, hml, hown, hts, hlk, hin, hK, hA, hcv, hR⟩ := id hF
  obtain ⟨-, -, -, ⟨b, h1, h2, h3, h4⟩, -⟩ := hR
  have ev : fp_v cv (.ref 150) = .ref b := h1
  rw [List.map_cons, ev]
  exact va_slen hx hb h3 h2 h4 hH.2.2.1 hd (g p l e s m args below meth c D cs cv base A Q H locs lsA hF hH hL hN hret)
/-- String constants -/
theorem r_ldcS {idx i : Nat} (hd : decode μ.2.1 pc = .ok (.ldc idx, 2)) (hi : i < 12) (ho : fp_so i = μ.1.cls) (hx0 : fp_si.getD i 0 = idx) (g : fp_W X μ (pc + 2) ls (.ref (100 + i) :: st) sh M nc ns Post) : fp_W X μ pc ls st sh M nc ns Post := by
  intro p l e s m args below meth c D cs cv base A Q H locs lsA hF hH hL hN hret
  obtain ⟨hx, hb, hr, hml, hown, hts, hlk, hin, hK, hA, hcv, hR⟩ := id hF
  obtain ⟨-, -, ⟨adK, adV, -, had, hvr⟩, -⟩ := hR
  have ev : fp_v cv (.ref (100 + i)) = .ref (adK i) := (had i hi).1
  have hg := g p l e s m args below meth c D cs cv base A Q H locs lsA hF hH hL hN hret
  rw [List.map_cons, ev] at hg
  have hv := hvr i hi
  rw [ho, hx0] at hv
  exact va_ldcS hx hb hown hv hd hg
theorem r_scoder {idx i : Nat} (hd : decode μ.2.1 pc = .ok (.getfield idx, 3)) (hl : Cond.fieldLink μ.1.cls idx "java/lang/String" "coder" "B" ∈ fp_tbl) (hi : i < 12) (g : fp_W X μ (pc + 3) ls (.int 0 :: st) sh M nc ns Post) : fp_W X μ pc ls (.ref (100 + i) :: st) sh M nc ns Post := by
  intro p l e s m args below meth c D cs cv base A Q H locs lsA hF hH hL hN hret
  obtain ⟨hx, hb, hr, hml, hown, hts, hlk, hin, hK, hA, hcv, hR⟩ := id hF
  obtain ⟨-, -, ⟨adK, adV, hvk, had, -⟩, -⟩ := hR
  have ev : fp_v cv (.ref (100 + i)) = .ref (adK i) := (had i hi).1
  rw [List.map_cons, ev]
  exact vk_getf hx hb (hvk.1 i hi).2.1 hH.2.2.1 hown (hts _ hl) (fun _ h9 => h9) hd (g p l e s m args below meth c D cs cv base A Q H locs lsA hF hH hL hN hret)
theorem r_svalue {idx i : Nat} (hd : decode μ.2.1 pc = .ok (.getfield idx, 3)) (hl : Cond.fieldLink μ.1.cls idx "java/lang/String" "value" "[B" ∈ fp_tbl) (hi : i < 12) (g : fp_W X μ (pc + 3) ls (.ref (120 + i) :: st) sh M nc ns Post) : fp_W X μ pc ls (.ref (100 + i) :: st) sh M nc ns Post := by
  intro p l e s m args below meth c D cs cv base A Q H locs lsA hF hH hL hN hret
  obtain ⟨hx, hb, hr, hml, hown, hts, hlk, hin, hK, hA, hcv, hR⟩ := id hF
  obtain ⟨-, -, ⟨adK, adV, hvk, had, -⟩, -⟩ := hR
  have ev : fp_v cv (.ref (100 + i)) = .ref (adK i) := (had i hi).1
  have ew : fp_v cv (.ref (120 + i)) = .ref (adV i) := (had i hi).2
  have hg := g p l e s m args below meth c D cs cv base A Q H locs lsA hF hH hL hN hret
  rw [List.map_cons, ew] at hg
  rw [List.map_cons, ev]
  exact vk_getf hx hb (hvk.1 i hi).2.2.1 hH.2.2.1 hown (hts _ hl) (fun _ h9 => h9) hd hg
theorem r_sblen {i : Nat} (v : Int32) (hd : decode μ.2.1 pc = .ok (.arraylength, 1)) (hi : i < 12) (hv : Int32.ofNat (fp_sl.getD i 0) = v) (g : fp_W X μ (pc + 1) ls (.int v :: st) sh M nc ns Post) : fp_W X μ pc ls (.ref (120 + i) :: st) sh M nc ns Post := by
  intro p l e s m args below meth c D cs cv base A Q H locs lsA hF hH hL hN hret
  obtain ⟨hx, hb, hr, hml, hown, hts, hlk, hin, hK, hA, hcv, hR⟩ := id hF
  obtain ⟨-, -, ⟨adK, adV, hvk, had, -⟩, -⟩ := hR
  have ew : fp_v cv (.ref (120 + i)) = .ref (adV i) := (had i hi).2
  rw [List.map_cons, ew]
  exact va_tlen hx hb (hvk.1 i hi).2.2.2 hH.2.2.1 hv hd (g p l e s m args below meth c D cs cv base A Q H locs lsA hF hH hL hN hret)
theorem r_sbald {i : Nat} {j : Int32} (hd : decode μ.2.1 pc = .ok (.baload, 1)) (hi : i < 12) (hj : vp_in j (fp_sl.getD i 0)) (g : fp_W X μ (pc + 1) ls (.int ((fp_sb.getD i []).getD j.toNatClampNeg 0) :: st) sh M nc ns Post) : fp_W X μ pc ls (.int j :: .ref (120 + i) :: st) sh M nc ns Post := by
  intro p l e s m args below meth c D cs cv base A Q H locs lsA hF hH hL hN hret
  obtain ⟨hx, hb, hr, hml, hown, hts, hlk, hin, hK, hA, hcv, hR⟩ := id hF
  obtain ⟨-, -, ⟨adK, adV, hvk, had, -⟩, -⟩ := hR
  have ew : fp_v cv (.ref (120 + i)) = .ref (adV i) := (had i hi).2
  rw [List.map_cons, List.map_cons, ew]
  exact va_tb hx hb (hvk.1 i hi).2.2.2 hH.2.2.1 hj rfl hd (g p l e s m args below meth c D cs cv base A Q H locs lsA hF hH hL hN hret)
theorem r_gcs {idx : Nat} (hd : decode μ.2.1 pc = .ok (.getstatic idx, 3)) (hl : Cond.fieldLink μ.1.cls idx RJ0 "COMPACT_STRINGS" "Z" ∈ fp_tbl) (g : fp_W X μ (pc + 3) ls (.int 1 :: st) sh M nc ns Post) : fp_W X μ pc ls st sh M nc ns Post := by
  intro p l e s m args below meth c D cs cv base A Q H locs lsA hF hH hL hN hret
  obtain ⟨hx, hb, hr, hml, hown, hts, hlk, hin, hK, hA, hcv, hR⟩ := id hF
  exact va_gets hx hb hR.1 hH.2.2.1 hown (hts _ hl) (fun _ h9 => h9) hd (g p l e s m args below meth c D cs cv base A Q H locs lsA hF hH hL hN hret)
theorem r_gsio {idx : Nat} (hd : decode μ.2.1 pc = .ok (.getstatic idx, 3)) (hl : Cond.fieldLink μ.1.cls idx RJ3 "SIOOBE_FORMATTER" "Ljava/util/function/BiFunction;" ∈ fp_tbl) (g : fp_W X μ (pc + 3) ls (.ref 140 :: st) sh M nc ns Post) : fp_W X μ pc ls st sh M nc ns Post := by
  intro p l e s m args below meth c D cs cv base A Q H locs lsA hF hH hL hN hret
  obtain ⟨hx, hb, hr, hml, hown, hts, hlk, hin, hK, hA, hcv, hR⟩ := id hF
  exact va_gets hx hb hR.2.1 hH.2.2.1 hown (hts _ hl) (fun _ h9 => h9) hd (g p l e s m args below meth c D cs cv base A Q H locs lsA hF hH hL hN hret)
/-- Object's constructor -/
theorem r_objI {idx k : Nat} (hd : decode μ.2.1 pc = .ok (.invokespecial idx, 3)) (hl : Cond.methodLink μ.1.cls idx Lib.objectInit ∈ fp_tbl) (hi : Cond.instanceMethod Lib.objectInit ∈ fp_tbl) (hc0 : Cond.code Lib.objectInit ⟨#[0xb1]⟩ 1 none ∈ fp_tbl) (hk : k < 100) (hst : (st.map fun v => v.category).sum ≤ 8) (hf : 1 ≤ μ.2.2.2.2.frames) (hlo : 20 ≤ μ.2.2.2.2.locals) (g : fp_W X μ (pc + 3) ls st sh M nc ns Post) : fp_W X μ pc ls (.ref k :: st) sh M nc ns Post := by
  intro p l e s m args below meth c D cs cv base A Q H locs lsA hF hH hL hN hret
  obtain ⟨hx, hb, hr, hml, hown, hts, hlk, hin, hK, hA, hcv, hR⟩ := id hF
  have ev : fp_v cv (.ref k) = .ref (fp_ad X base k) := hcv.1 k hk
  rw [List.map_cons, ev]
  exact W.objInit hx hb hown (hts _ hl) (hts _ hi) (hts _ hc0) rfl (by rw [hml]; exact hL.1) rfl hd hf (by show 2 * 0 + _ + 12 ≤ _; rw [fp_cats cv hcv.2]; omega) (g p l e s m args below meth c D cs cv base A Q H locs lsA hF hH hL hN hret)
end FPM
