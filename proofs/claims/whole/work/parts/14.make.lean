/-! ===== rows of the calculus that make cells; arrays of places; stretches ===== -/
/-- the fields of a new object -/
def fp_df (ty : FieldType) : Option (Option Nat) := match ty with
  | .int => none
  | .boolean => none
  | _ => some none
theorem fp_df_ok {X : fp_X} (base : Nat) (k j : Nat) (M : fp_M) (hM : M k j = 0) {ty : FieldType} (h : ty = .int ∨ ty = .boolean ∨ (∃ n, ty = .object n) ∨ ∃ t, ty = .array t) : fp_fv X base M k (fp_df ty, j) = defaultValue ty := by
  rcases h with rfl | rfl | ⟨n, rfl⟩ | ⟨t, rfl⟩
  · show Value.int (M k j) = _; rw [hM]; rfl
  · show Value.int (M k j) = _; rw [hM]; rfl
  · rfl
  · rfl
def fp_isd : FieldType → Bool
  | .int => true
  | .boolean => true
  | .object _ => true
  | .array _ => true
  | _ => false
theorem fp_isd_ok {ty : FieldType} (h : fp_isd ty = true) : ty = .int ∨ ty = .boolean ∨ (∃ n, ty = .object n) ∨ ∃ t, ty = .array t := by
  cases ty <;> first | (exact Or.inl rfl) | (exact Or.inr (Or.inl rfl)) | (exact Or.inr (Or.inr (Or.inl ⟨_, rfl⟩))) | (exact Or.inr (Or.inr (Or.inr ⟨_, rfl⟩))) | cases h
section FPN
variable {X : fp_X} {μ : fp_Y} {pc : Nat} {ls : List (Option Value)} {st : List Value} {sh : List fp_C} {M : fp_M} {nc ns : Nat} {Post : fp_Q}
theorem r_new {idx ci N : Nat} {C : String} {T : u_T} {ty : Nat → FieldType} (hd : decode μ.2.1 pc = .ok (.new idx, 3)) (hcl : fp_cl ci C T N ty) (h1 : Cond.classLink μ.1.cls idx C ∈ fp_tbl) (h2 : Cond.instantiable C N ∈ fp_tbl) (h3 : Cond.initialized C ∈ fp_tbl) (hty : ∀ j, j < N → fp_isd (ty j) = true) {fs : List (Option (Option Nat))} (hfs : (List.range N).map (fun j => fp_df (ty j)) = fs) (hc : nc + 1 ≤ μ.2.2.2.2.cells ∧ ns + N ≤ μ.2.2.2.2.slots) (hcap : sh.length < 100) (had : X.2.2 sh.length = sh.length)
    (g : fp_W X μ (pc + 3) ls (.ref sh.length :: st) (sh ++ [.inl (ci, fs)]) (fp_z M sh.length) (nc + 1) (ns + N) Post) : fp_W X μ pc ls st sh M nc ns Post := by
  intro p l e s m args below meth c D cs cv base A Q H locs lsA hF hH hL hN hret
  obtain ⟨hx, hb, hr, hml, hown, hts, hlk, hin, hK, hA, hcv, hR⟩ := id hF
  obtain ⟨hP, hD, hS, hsz, -⟩ := hH
  obtain ⟨c1, c2, c3, c4⟩ := hcl
  have hKn := hK.1 ci _ c1
  refine W.newcK hx hb hown (hts _ h1) (hts _ h2) (hts _ h3) rfl hd hc.1 hc.2 hKn.2.1 rfl fun H1 kC hkC e1 z1 o1 => ?_
  have ead : fp_ad X base sh.length = base + sh.length := by
    unfold fp_ad
    rw [had]
  have er : fp_v cv (.ref sh.length) = .ref H.size := by rw [hsz, ← ead]; exact hcv.1 _ hcap
  have hg := g p l e s m args below meth c D cs cv base A Q H1 locs lsA hF ?_ hL hc hret
  · rw [List.map_cons, er] at hg
    exact hg
  have hk : ∀ (k : Nat) (x : Nat × va_E), (fp_w X cs base sh M)[k]? = some x → H1[x.1]? = H[x.1]? := fun k x hx => o1 x.1 ((hP k x hx).lt)
  have hw := fp_w_push (X := X) (cs := cs) (base := base) (sh := sh) (M := M) (M' := fp_z M sh.length) (c := .inl (ci, fs)) had (fun q hq => fp_z_row hq)
  refine ⟨?_, ?_, ⟨Nat.le_trans hS.1 (by omega), fun x g1 g2 => (o1 x (Nat.lt_of_lt_of_le g1 hS.1)).trans (hS.2.1 x g1 g2), hS.2.2⟩, by rw [z1, hsz]; simp; omega, by simp; omega⟩
  · rw [← hw]
    refine (hP.kept hk).app (fun k x hx => ?_)
    have hz : k < 1 := (List.getElem?_eq_some_iff.mp hx).1
    rw [show k = 0 by omega] at hx
    cases hx
    refine ⟨_, c1, ?_⟩
    show t_OB (base + sh.length) (D.1 ci) N (D.2 ci) H1 (vp_V (fs.zipIdx.map (fp_fv X base (fp_z M sh.length) sh.length)))
    rw [← hsz]
    refine (u_born ty hts c2 hKn hkC e1 c3).to (fun j hj => ?_)
    have h5 : fs[j]? = some (fp_df (ty j)) := by rw [← hfs, List.getElem?_map, List.getElem?_range hj]; rfl
    show defaultValue (ty j) = vp_V _ j
    unfold vp_V
    rw [List.getD_eq_getElem?_getD, fp_fs_at h5]
    show defaultValue (ty j) = fp_fv X base (fp_z M sh.length) sh.length (fp_df (ty j), j)
    rw [fp_df_ok base sh.length j (fp_z M sh.length) (by simp [fp_z]) (fp_isd_ok (hty j hj))]
  · rw [← hw]
    exact hD.push hP hsz.symm (hA _ (by rw [← hsz]; exact hS.1))
theorem r_newi {n : Int32} {N : Nat} (hd : decode μ.2.1 pc = .ok (.newarray .int, 2)) (h1 : Cond.arrayClass .int ∈ fp_tbl) (hn : ¬ n < 0) (hN0 : n.toNatClampNeg = N) (hb0 : N ≤ 1000) (hc : nc + 1 ≤ μ.2.2.2.2.cells ∧ ns + N ≤ μ.2.2.2.2.slots) (hcap : sh.length < 100) (had : X.2.2 sh.length = sh.length)
    (g : fp_W X μ (pc + 2) ls (.ref sh.length :: st) (sh ++ [.inr (.inl N)]) (fp_z M sh.length) (nc + 1) (ns + N) Post) : fp_W X μ pc ls (.int n :: st) sh M nc ns Post := by
  intro p l e s m args below meth c D cs cv base A Q H locs lsA hF hH hL hN hret
  obtain ⟨hx, hb, hr, hml, hown, hts, hlk, hin, hK, hA, hcv, hR⟩ := id hF
  obtain ⟨hP, hD, hS, hsz, -⟩ := hH
  refine va_newaK (atype := .int) hx hb (hts _ h1) rfl hd rfl hn hN0 (by show N * 4 ≤ 536870912; omega) hc.1 hc.2 rfl fun H1 cA e1 z1 o1 hAr hNm => ?_
  have hcA : cA = cs 0 := by
    have h5 : s.vm.findClass ("[" ++ (FieldType.int).toString) = some (cs 0) := (hK.2 0 _ rfl).2
    exact Option.some.inj (hNm.symm.trans h5)
  subst hcA
  have ead : fp_ad X base sh.length = base + sh.length := by
    unfold fp_ad
    rw [had]
  have er : fp_v cv (.ref sh.length) = .ref H.size := by rw [hsz, ← ead]; exact hcv.1 _ hcap
  have hg := g p l e s m args below meth c D cs cv base A Q H1 locs lsA hF ?_ hL hc hret
  · rw [List.map_cons, er] at hg
    exact hg
  have hk : ∀ (k : Nat) (x : Nat × va_E), (fp_w X cs base sh M)[k]? = some x → H1[x.1]? = H[x.1]? := fun k x hx => o1 x.1 ((hP k x hx).lt)
  have hw := fp_w_push (X := X) (cs := cs) (base := base) (sh := sh) (M := M) (M' := fp_z M sh.length) (c := .inr (.inl N)) had (fun q hq => fp_z_row hq)
  refine ⟨?_, ?_, ⟨Nat.le_trans hS.1 (by omega), fun x g1 g2 => (o1 x (Nat.lt_of_lt_of_le g1 hS.1)).trans (hS.2.1 x g1 g2), hS.2.2⟩, by rw [z1, hsz]; simp; omega, by simp; omega⟩
  · rw [← hw]
    refine (hP.kept hk).app (fun k x hx => ?_)
    have hz : k < 1 := (List.getElem?_eq_some_iff.mp hx).1
    rw [show k = 0 by omega] at hx
    cases hx
    show H1[base + sh.length]? = some (vp_cell (cs 0) (N, .inl (fp_z M sh.length sh.length)))
    rw [← hsz, e1, vp_cell_i]
    congr 2
    funext j
    simp [fp_z]
    rfl
  · rw [← hw]
    exact hD.push hP hsz.symm (hA _ (by rw [← hsz]; exact hS.1))
theorem r_newr {idx t : Nat} {n : Int32} {N : Nat} {C : String} (hd : decode μ.2.1 pc = .ok (.anewarray idx, 3)) (h1 : Cond.classLink μ.1.cls idx C ∈ fp_tbl) (ht : (fp_tys (fun q => q))[t]? = some (t, .object C)) (hn : ¬ n < 0) (hN0 : n.toNatClampNeg = N) (hb0 : N ≤ 1000) (hc : nc + 1 ≤ μ.2.2.2.2.cells ∧ ns + N ≤ μ.2.2.2.2.slots) (hcap : sh.length < 100) (had : X.2.2 sh.length = sh.length)
    (g : fp_W X μ (pc + 3) ls (.ref sh.length :: st) (sh ++ [.inr (.inr (t, List.replicate N none))]) M (nc + 1) (ns + N) Post) : fp_W X μ pc ls (.int n :: st) sh M nc ns Post := by
  intro p l e s m args below meth c D cs cv base A Q H locs lsA hF hH hL hN hret
  obtain ⟨hx, hb, hr, hml, hown, hts, hlk, hin, hK, hA, hcv, hR⟩ := id hF
  obtain ⟨hP, hD, hS, hsz, -⟩ := hH
  have hAO : va_AO C s := by
    match t, ht with
    | 0, ht => cases ht
    | 1, ht => cases ht; exact hR.2.2.2.2.2.1
    | 2, ht => cases ht; exact hR.2.2.2.2.2.2
    | n + 3, ht => cases ht
  have htt : (fp_tys cs)[t]? = some (cs t, .object C) := by
    match t, ht with
    | 0, ht => cases ht
    | 1, ht => cases ht; rfl
    | 2, ht => cases ht; rfl
    | n + 3, ht => cases ht
  subst hN0
  refine W.anew hx hb hown (hts _ h1) (va_AO.use hAO) rfl hd rfl hn (by omega) hc.1 hc.2 fun cA kA comp f1 f2 f3 f4 => ?_
  obtain ⟨kA', comp', -, -, -, k4⟩ := (hK.2 t _ htt).2
  have hcA : cA = cs t := Option.some.inj (f1.symm.trans k4)
  subst hcA
  generalize hH1 : H.push ({ cls := cs t, slots := Array.replicate n.toNatClampNeg .null, vm := .none } : Cell) = H1
  have z1 : H1.size = H.size + 1 := by rw [← hH1, Array.size_push]
  have e1 : H1[H.size]? = some (arrV (cs t) n.toNatClampNeg (fun _ => .null)) := by rw [← hH1, Array.getElem?_push_size, ← arrV_new]
  have o1 : ∀ q : Nat, q < H.size → H1[q]? = H[q]? := fun q hq => by rw [← hH1, Array.getElem?_push, if_neg (Nat.ne_of_lt hq)]
  have ead : fp_ad X base sh.length = base + sh.length := by
    unfold fp_ad
    rw [had]
  have er : fp_v cv (.ref sh.length) = .ref H.size := by rw [hsz, ← ead]; exact hcv.1 _ hcap
  have hg := g p l e s m args below meth c D cs cv base A Q H1 locs lsA hF ?_ hL hc hret
  · rw [List.map_cons, er] at hg
    exact hg
  have hk : ∀ (k : Nat) (x : Nat × va_E), (fp_w X cs base sh M)[k]? = some x → H1[x.1]? = H[x.1]? := fun k x hx => o1 x.1 ((hP k x hx).lt)
  have hw := fp_w_push (X := X) (cs := cs) (base := base) (sh := sh) (M := M) (M' := M) (c := .inr (.inr (t, List.replicate n.toNatClampNeg none))) had (fun q hq => rfl)
  refine ⟨?_, ?_, ⟨Nat.le_trans hS.1 (by omega), fun x g1 g2 => (o1 x (Nat.lt_of_lt_of_le g1 hS.1)).trans (hS.2.1 x g1 g2), hS.2.2⟩, by rw [z1, hsz]; simp; omega, by simp; omega⟩
  · rw [← hw]
    refine (hP.kept hk).app (fun k x hx => ?_)
    have hz : k < 1 := (List.getElem?_eq_some_iff.mp hx).1
    rw [show k = 0 by omega] at hx
    cases hx
    show H1[base + sh.length]? = some (vp_cell (cs t) ((List.replicate n.toNatClampNeg none).length, .inr (.inr (.inr (.inr (fun j => ((List.replicate n.toNatClampNeg (none : Option Nat)).getD j none).map (fun r => fp_ad X base r)))))))
    rw [← hsz, e1, vp_cell_q, List.length_replicate]
    congr 2
    funext j
    have : (List.replicate n.toNatClampNeg (none : Option Nat)).getD j none = none := by
      rw [List.getD_eq_getElem?_getD, List.getElem?_replicate]
      by_cases hj : j < n.toNatClampNeg
      · rw [if_pos hj]; rfl
      · rw [if_neg hj]; rfl
    rw [this]
    rfl
  · rw [← hw]
    exact hD.push hP hsz.symm (hA _ (by rw [← hsz]; exact hS.1))
theorem r_aast {k t r ci : Nat} {rs : List (Option Nat)} {fs : List (Option (Option Nat))} {i : Int32} {C : String} (hd : decode μ.2.1 pc = .ok (.aastore, 1)) (hs : sh[k]? = some (.inr (.inr (t, rs)))) (hi : vp_in i rs.length) (hr0 : sh[r]? = some (.inl (ci, fs))) (hcl : (vwCl[ci]?).map (fun q => q.1) = some C) (ht : (fp_tys (fun q => q))[t]? = some (t, .object C)) (g : fp_W X μ (pc + 1) ls st (sh.set k (.inr (.inr (t, rs.set i.toNatClampNeg (some r))))) M nc ns Post) : fp_W X μ pc ls (.ref r :: .int i :: .ref k :: st) sh M nc ns Post := by
  intro p l e s m args below meth c D cs cv base A Q H locs lsA hF hH hL hN hret
  obtain ⟨hx, hb, hr, hml, hown, hts, hlk, hin, hK, hA, hcv, hR⟩ := id hF
  obtain ⟨hP, hD, hS, hsz, hcap⟩ := hH
  have hlt := (List.getElem?_eq_some_iff.mp hs).1
  have ev : fp_v cv (.ref k) = .ref (fp_ad X base k) := hcv.1 k (Nat.lt_of_lt_of_le hlt hcap)
  have er : fp_v cv (.ref r) = .ref (fp_ad X base r) := hcv.1 r (Nat.lt_of_lt_of_le (List.getElem?_eq_some_iff.mp hr0).1 hcap)
  rw [List.map_cons, List.map_cons, List.map_cons, ev, er]
  have htt : (fp_tys cs)[t]? = some (cs t, .object C) := by
    match t, ht with
    | 0, ht => cases ht
    | 1, ht => cases ht; rfl
    | 2, ht => cases ht; rfl
    | n + 3, ht => cases ht
  obtain ⟨q, hq⟩ : ∃ q, vwCl[ci]? = some q := by
    cases h : vwCl[ci]? with
    | none => rw [h] at hcl; cases hcl
    | some q => exact ⟨q, rfl⟩
  have hqc : q.1 = C := by rw [hq] at hcl; exact Option.some.inj hcl
  subst hqc
  have ha : (fp_w X cs base sh M)[k]? = some (fp_ad X base k, .inl (cs t, rs.length, .inr (.inr (.inr (.inr (fun j => (rs.getD j none).map (fun r => fp_ad X base r))))))) := fp_w_some hs
  have hv := fp_w_some (X := X) (cs := cs) (base := base) (M := M) hr0
  have hlti : i.toNatClampNeg < rs.length := Nat.not_le.mp fun q => hi (Or.inr q)
  have h0 : ¬ i < 0 := fun q => hi (Or.inl q)
  obtain ⟨r', hr', cellV, g1, g2, g3, -⟩ := hP r _ hv
  have hcls := (hK.1 ci q hq).2
  obtain ⟨kA, comp, k1, k2, k3, -⟩ := (hK.2 t _ htt).2
  have hcomp : comp = D.1 ci := Option.some.inj (k3.symm.trans hcls.1)
  subst hcomp
  obtain ⟨kC, hkC, -⟩ := hcls.2
  refine W.aast hx hb (hP k _ ha) (fun q h => by cases h) (fun h => by cases h) k1 k2 rfl hkC ⟨h0, by show _ < (arrV _ _ _).slots.size; rw [arrV_size]; exact hlti⟩ g1 (fun q h => by rw [g3] at h; cases h) (by rw [g2]; exact hkC) (by rw [g2]; exact va_assign hcls) rfl rfl hd fun H1 e1 z oq => ?_
  have hw : (fp_w X cs base sh M).set k (fp_ad X base k, fp_e X cs base M k (.inr (.inr (t, rs.set i.toNatClampNeg (some r))))) = fp_w X cs base (sh.set k (.inr (.inr (t, rs.set i.toNatClampNeg (some r))))) M := fp_w_set (X := X) (cs := cs) (base := base) (sh := sh) (M := M) (M' := M) (k := k) hlt (fun q hq => rfl)
  have hnew : va_at D vwCl (fp_ad X base k, fp_e X cs base M k (.inr (.inr (t, rs.set i.toNatClampNeg (some r))))) H1 := by
    show H1[fp_ad X base k]? = some (vp_cell (cs t) ((rs.set i.toNatClampNeg (some r)).length, .inr (.inr (.inr (.inr (fun j => ((rs.set i.toNatClampNeg (some r)).getD j none).map (fun r => fp_ad X base r)))))))
    rw [e1, vp_cell_q, vp_cell_q, arrV_store, List.length_set]
    congr 2
    funext j
    by_cases hj : j = i.toNatClampNeg
    · subst hj
      simp [updV, va_rf, List.getD_eq_getElem?_getD, List.getElem?_set, hlti]
    · simp [updV, hj, List.getD_eq_getElem?_getD, List.getElem?_set, Ne.symm hj]
  refine g p l e s m args below meth c D cs cv base A Q H1 _ lsA hF ⟨?_, ?_, hS.put z oq (hD.2 k _ ha), by rw [z, List.length_set]; exact hsz, by rw [List.length_set]; exact hcap⟩ hL hN hret
  · rw [← hw]
    exact hP.set hD ha hnew oq
  · rw [← hw]
    exact hD.set ha
/-- System.arraycopy between rows of numbers, where nothing was made -/
theorem r_acopy {idx k0 k1 n0 n1 : Nat} {sp dp n : Int32} (hd : decode μ.2.1 pc = .ok (.invokestatic idx, 3)) (w1 : Cond.methodLink μ.1.cls idx arraycopyName ∈ fp_tbl) (w2 : Cond.native arraycopyName ∈ fp_tbl) (w3 : Cond.static arraycopyName ∈ fp_tbl) (w4 : Cond.initialized "java/lang/System" ∈ fp_tbl) (hs0 : sh[k0]? = some (.inr (.inl n0))) (hs1 : sh[k1]? = some (.inr (.inl n1))) (h1 : ¬ sp < 0) (h2 : ¬ dp < 0) (h3 : ¬ n < 0) (h4 : sp.toNatClampNeg + n.toNatClampNeg ≤ n0) (h5 : dp.toNatClampNeg + n.toNatClampNeg ≤ n1) (hfr : 1 ≤ μ.2.2.2.2.frames) (hlo : (st.map fun v => v.category).sum + (nativeFrameWords "java/lang/System" "arraycopy" 5 + 11) ≤ μ.2.2.2.2.locals)
    (g : fp_W X μ (pc + 3) ls st sh (fp_cp M k0 sp.toNatClampNeg k1 dp.toNatClampNeg n.toNatClampNeg) 0 ns Post) : fp_W X μ pc ls (.int n :: .int dp :: .ref k1 :: .int sp :: .ref k0 :: st) sh M 0 ns Post := by
  intro p l e s m args below meth c D cs cv base A Q H locs lsA hF hH hL hN hret
  obtain ⟨hx, hb, hr, hml, hown, hts, hlk, hin, hK, hA, hcv, hR⟩ := id hF
  obtain ⟨hP, hD, hS, hsz, hcap⟩ := hH
  have hlt1 := (List.getElem?_eq_some_iff.mp hs1).1
  have e0 : fp_v cv (.ref k0) = .ref (fp_ad X base k0) := hcv.1 k0 (Nat.lt_of_lt_of_le (List.getElem?_eq_some_iff.mp hs0).1 hcap)
  have e1 : fp_v cv (.ref k1) = .ref (fp_ad X base k1) := hcv.1 k1 (Nat.lt_of_lt_of_le hlt1 hcap)
  intro T hT0 X0
  have hsame : H.size ≤ s.heap.size := by
    have h6 := X0.same.2.2.1
    have h7 : (T.setVm s.vm).heap.size = H.size := by show T.heap.size = _; rw [hT0]
    rw [h7] at h6
    omega
  have hmain : W p l e μ.2.2.2.2 s m args below meth c H locs 0 ns Q (F0 m pc lsA ((.int n :: .int dp :: .ref k1 :: .int sp :: .ref k0 :: st : List Value).map (fp_v cv))) := by
    rw [List.map_cons, List.map_cons, List.map_cons, List.map_cons, List.map_cons, e0, e1]
    refine va_copyi (f := M k0) (g := M k1) (ty := .int) hx hb (hml.trans hL.1.symm) hown (hts _ w1) (hts _ w2) (hts _ w3) (hts _ w4) hK hP hD hS k0 k1 0 0 (fp_w_some hs0) (fp_w_some hs1) rfl rfl rfl h1 h2 h3 h4 h5 (fun _ _ => rfl) hfr (by rw [fp_cats cv hcv.2]; exact hlo) hd (fun H1 locs1 hP1 hD1 hS1 => ?_)
    have hw : (fp_w X cs base sh M).set k1 (fp_ad X base k1, .inl (cs 0, n1, .inl (va_cpy (M k0) (M k1) sp.toNatClampNeg dp.toNatClampNeg n.toNatClampNeg))) = fp_w X cs base sh (fp_cp M k0 sp.toNatClampNeg k1 dp.toNatClampNeg n.toNatClampNeg) := by
      have hrow : va_cpy (M k0) (M k1) sp.toNatClampNeg dp.toNatClampNeg n.toNatClampNeg = fp_cp M k0 sp.toNatClampNeg k1 dp.toNatClampNeg n.toNatClampNeg k1 := by
        funext j
        simp [fp_cp]
      rw [hrow]
      have := fp_w_set (X := X) (cs := cs) (base := base) (sh := sh) (M := M) (M' := fp_cp M k0 sp.toNatClampNeg k1 dp.toNatClampNeg n.toNatClampNeg) (k := k1) (c := .inr (.inl n1)) hlt1 (fun q hq => fp_cp_row hq)
      rw [fp_set_self hs1] at this
      exact this
    rw [hw] at hP1 hD1
    intro T1 hT1 X1
    have hs2 : H1.size ≤ s.heap.size := by
      have h6 := X1.same.2.2.1
      have h7 : (T1.setVm s.vm).heap.size = H1.size := by show T1.heap.size = _; rw [hT1]
      rw [h7] at h6
      omega
    have hs3 := hS.1
    have hs4 := hS1.1
    exact g p l e s m args below meth c D cs cv base A Q H1 locs1 lsA hF ⟨hP1, hD1, hS1, by omega, hcap⟩ hL hN hret T1 hT1 X1
  exact hmain T hT0 X0
end FPN
