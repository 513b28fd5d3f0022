/-! ===== a method's body gives its contract; calls ===== -/
theorem fp_ent_at (cv : Nat → Value) (hc : ∀ k, (cv k).category = 1) : ∀ (av : List Value) (i : Nat) (v : Value), (fp_ent av)[i]? = some (some v) → (lg_sl (av.map (fp_v cv)))[i]? = some (.val (fp_v cv v)) := by
  intro av
  induction av with
  | nil => intro i v h; simp [fp_ent] at h
  | cons a t ih =>
    intro i v h
    have hl : lg_sl ((a :: t).map (fp_v cv)) = (if (fp_v cv a).category = 2 then [.val (fp_v cv a), .second] else [.val (fp_v cv a)]) ++ lg_sl (t.map (fp_v cv)) := rfl
    rw [hl, fp_cat cv hc a]
    unfold fp_ent at h
    by_cases h2 : a.category = 2
    · rw [if_pos h2] at h ⊢
      match i, h with
      | 0, h => simp at h; subst h; rfl
      | 1, h => simp at h
      | i + 2, h => exact ih i v h
    · rw [if_neg h2] at h ⊢
      match i, h with
      | 0, h => simp at h; subst h; rfl
      | i + 1, h => exact ih i v h
theorem fp_ent_len (cv : Nat → Value) (hc : ∀ k, (cv k).category = 1) : ∀ (av : List Value), (lg_sl (av.map (fp_v cv))).length = (fp_ent av).length := by
  intro av
  induction av with
  | nil => rfl
  | cons a t ih =>
    have hl : lg_sl ((a :: t).map (fp_v cv)) = (if (fp_v cv a).category = 2 then [.val (fp_v cv a), .second] else [.val (fp_v cv a)]) ++ lg_sl (t.map (fp_v cv)) := rfl
    rw [hl, fp_cat cv hc a]
    unfold fp_ent
    by_cases h2 : a.category = 2
    · rw [if_pos h2, if_pos h2]; simp [ih]
    · rw [if_neg h2, if_neg h2]; simp [ih]
set_option maxHeartbeats 1000000 in
/-- the body gives the contract -/
theorem fp_ok {X : fp_X} {μ : fp_Y} {av : List Value} {sh : List fp_C} {M : fp_M} {Post : fp_Q} (ls : List (Option Value)) (k : fp_W X μ 0 ls [] sh M 0 0 Post) (hy : plainName μ.1.cls = true := by decide) (hle : (fp_ent av).length ≤ μ.2.2.1 := by exact Nat.le_of_ble_eq_true rfl) (hls : ls = fp_ent av ++ List.replicate (μ.2.2.1 - (fp_ent av).length) none := by rfl) : fp_Ok X μ av sh M Post := by
  intro l D cs cv base
  refine Met.ofW (cc := μ.2.1) (maxL := μ.2.2.1) (ret := μ.2.2.2.1) hy rfl ?_
  intro p e s m args below meth c s₁ B hml hv
  obtain ⟨rfl, hsz, hcap, hP, hK, hD, hR, hcv, hcc⟩ := hv
  have hts := atoms_spec (ws := fp_ws μ) B.pre
  have hlocks := B.notSynchronized
  have hown : s.vm.findClass μ.1.cls = some m.cls := findClass_of_methodNamed B.named
  have hF : fp_F X μ p s m (av.map (fp_v cv)).toArray meth c D cs cv base (va_A (fp_w X cs base sh M) (base + sh.length)) := ⟨B.exec, B.bytes, B.returns, hml, hown, fun w h => hts w (List.mem_cons_of_mem _ h), B.notSynchronized, fun hi => ((name_of_methodNamed B.named B.method).1).trans hi, hK, fun q h => Or.inr (by rw [hsz] at h; exact h), ⟨hcv, hcc⟩, hR⟩
  have hH : fp_H X D cs base (va_A (fp_w X cs base sh M) (base + sh.length)) s sh M s.heap [] := ⟨hP, hD.self, va_S.rf, hsz, hcap⟩
  rw [lg_entry_eq]
  have hlen : (lg_sl (av.map (fp_v cv))).length ≤ μ.2.2.1 := by rw [fp_ent_len cv hcc]; exact hle
  have hl := lv_entry (av.map (fp_v cv)) (n := μ.2.2.1) hlen
  have hL : fp_L cv ((lg_sl (av.map (fp_v cv)) ++ List.replicate (μ.2.2.1 - (lg_sl (av.map (fp_v cv))).length) Slot.unset).toArray) μ.2.2.1 ls := by
    refine ⟨hl.1, hl.2.1, ?_, fun i v hv => ?_⟩
    · rw [hls]; simp; omega
    · rw [hls] at hv
      by_cases hi : i < (fp_ent av).length
      · rw [List.getElem?_append_left hi] at hv
        have h1 := fp_ent_at cv hcc av i v hv
        rw [List.getElem?_toArray, List.getElem?_append_left (by rw [fp_ent_len cv hcc]; exact hi)]
        exact h1
      · rw [List.getElem?_append_right (by omega)] at hv
        have := List.mem_of_getElem? hv
        simp at this
  refine k p l e s m _ below meth c D cs cv base _ _ s.heap [] _ hF hH hL ⟨Nat.zero_le _, Nat.zero_le _⟩ ?_
  intro ins r pc' lsA' sh' M' H' locs' nc' ns' hd hrt hn hp hH'
  refine W.widen hn.1 hn.2 ?_
  have hq : ∀ (t : State), t.heap = H' → s.WarmedH t.vm → fp_Qc X D cs cv base Post (va_A (fp_w X cs base sh M) (base + sh.length)) (av.map (fp_v cv)).toArray s (.returned (r.map (fp_v cv))) t := fun t ht _ => ⟨⟨r, sh', M', rfl, hp, by rw [ht]; exact hH'.2.2.2.1, hH'.2.2.2.2, by rw [ht]; exact hH'.1, hH'.2.1⟩, hH'.2.2.1.F ht⟩
  rcases hrt with ⟨rfl, v, t, hty, hnar, rfl⟩ | ⟨rfl, hty, v, rfl⟩ | ⟨rfl, q, t, hty, h1, h2, rfl⟩ | ⟨rfl, hty, rfl⟩
  · exact W.zret B.exec B.bytes (B.returns.trans hty) hnar hq hH'.2.2.1.2.2 hd
  · exact W.lret B.exec B.bytes (B.returns.trans hty) hq hH'.2.2.1.2.2 hd
  · obtain ⟨-, -, ⟨adK, adV, -, hst, -⟩, -⟩ := hR
    have hk := (hst (q - 100) (by omega)).1
    rw [show 100 + (q - 100) = q by omega] at hk
    exact W.aret (v := cv q) B.exec B.bytes (B.returns.trans hty) (Or.inl ⟨t, rfl⟩) (Or.inr ⟨_, hk⟩) hq hH'.2.2.1.2.2 hd
  · exact W.vret B.exec B.bytes (B.returns.trans hty) hq hH'.2.2.1.2.2 hd
theorem fp_sub {X : fp_X} {cs : Nat → ClassId} {D : va_G} {base : Nat} {A : Nat → Prop} {s : State} {sh : List fp_C} {M : fp_M} {H : Heap} {locs : List Loc} (hH : fp_H X D cs base A s sh M H locs) (hA : ∀ q, s.heap.size ≤ q → A q) : ∀ q, va_A (fp_w X cs base sh M) (base + sh.length) q → A q := by
  intro q h
  rcases h with ⟨k, e, h⟩ | h
  · exact hH.2.1.2 k (q, e) h
  · exact hA q (Nat.le_trans hH.2.2.1.1 (by rw [hH.2.2.2.1]; exact h))
section FPB
variable {p : Program} {l : Launch} {e : Env} {R : Room} {s : State} {m : MethodId} {args : Array Value} {below : List Frame} {meth : Method} {c : Code} {H : Heap} {locs : List Loc} {nc ns : Nat} {Q : State → Prop}
/-- behind a call -/
theorem fp_back {X : fp_X} {D : va_G} {cs : Nat → ClassId} {cv : Nat → Value} {base : Nat} {A : Nat → Prop} {sh : List fp_C} {M : fp_M} {P1 : fp_Q} {mc ms pc : Nat} {lsA : Array Slot} {st0 rest : List Value} {a : Array Value}
    (hr : va_Run p l e R s m args below meth c H locs nc ns mc ms (F0 m pc lsA st0) rest (fp_Qc X D cs cv base P1 (va_A (fp_w X cs base sh M) (base + sh.length)) a) (va_A (fp_w X cs base sh M) (base + sh.length))) (hH : fp_H X D cs base A s sh M H locs) (hA : ∀ q, s.heap.size ≤ q → A q)
    (kk : ∀ (r : Option Value) (sh' : List fp_C) (M' : fp_M) (H' : Heap) (locs' : List Loc), P1 r sh' M' → fp_H X D cs base A s sh' M' H' locs' → W p l e R s m args below meth c H' locs' (nc + mc) (ns + ms) Q (F0 m (pc + 3) lsA ((r.map (fp_v cv)).toList ++ rest))) : W p l e R s m args below meth c H locs nc ns Q (F0 m pc lsA st0) := by
  have hsub := fp_sub hH hA
  intro T hT X
  obtain ⟨v, st₀, t, T', L, h0, X', hL, e1, e2, ⟨⟨r, sh', M', hv, hp, hz, hcap, hP', hD'⟩, hF⟩, st⟩ := hr T hT X
  cases hv
  obtain ⟨hP, hD, hS, hsz, -⟩ := hH
  have hF1 := hF.1
  have hF2 := hF.2
  rw [h0] at hF1 hF2
  obtain ⟨t2, a1, b1⟩ := kk r sh' M' T'.heap (locs ++ L) hp ⟨by rw [e1]; exact hP', hD'.weaken (fun k q _ h => hsub _ h), ⟨Nat.le_trans hS.1 (by rw [e1]; exact hF1), fun q h1 h2 => by rw [e1, hF2 q (Nat.lt_of_lt_of_le h1 hS.1) (fun z => h2 (hsub q z))]; exact hS.2.1 q h1 h2, fun q hq => by
      rcases List.mem_append.mp hq with h | h
      · exact hS.2.2 q h
      · exact hsub _ (hL q h)⟩, by rw [e1]; exact hz, hcap⟩ T' rfl X'
  exact ⟨t2, st t2 a1, b1⟩
end FPB
theorem fp_blind (X : fp_X) (D : va_G) (cs : Nat → ClassId) (cv : Nat → Value) (base : Nat) (av : List Value) (sh : List fp_C) (M : fp_M) : FrameBlind (fp_Pc X D cs cv base av sh M) := by
  intro a U g mk q
  obtain ⟨h1, h2, h3, h4, h5, h6, h7, h8⟩ := q
  exact ⟨h1, h2, h3, h4, va_K.moved (u := U) (U := U.calling g mk a) (Vm.Alike.refl U.vm) h5, h6, fp_R.calling (U := U) (V := U.calling g mk a) rfl h7, h8⟩
theorem fp_pre {X : fp_X} {μ : fp_Y} {p : Program} {s : State} {m : MethodId} {args : Array Value} {meth : Method} {c : Code} {D : va_G} {cs : Nat → ClassId} {cv : Nat → Value} {base : Nat} {A : Nat → Prop} {sh : List fp_C} {M : fp_M} {H : Heap} {locs : List Loc} (hF : fp_F X μ p s m args meth c D cs cv base A) (hH : fp_H X D cs base A s sh M H locs) (av : List Value) : PreS s H (fp_Pc X D cs cv base av sh M) (av.map (fp_v cv)) := by
  obtain ⟨hx, hb, hr, hml, hown, hts, hlk, hin, hK, hA, hcv, hR⟩ := hF
  have hsub := fp_sub hH hA
  obtain ⟨hP, hD, hS, hsz, hcap⟩ := hH
  refine ⟨fp_blind X D cs cv base av sh M, fun U hU hW => ⟨rfl, by rw [hU]; exact hsz, hcap, by rw [hU]; exact hP, va_K.moved hW.alike hK, hD.weaken (fun _ _ _ _ => trivial), ?_, hcv⟩⟩
  rw [hU]
  exact hR.to hS hW (fun q _ h => hsub q h)
/-- what the tables say of a method: static, of an object, a constructor -/
def fp_hd (y : MethodName) (n : Nat) : Prop := y.cls ≠ "java/lang/invoke/MethodHandle" ∧ y.cls ≠ "java/lang/invoke/VarHandle" ∧ (parseMethodDescriptor y.desc).map (fun d => d.parameters.length) = some n
abbrev fp_cd (μ : fp_Y) : Cond := Cond.code μ.1 μ.2.1 μ.2.2.1 μ.2.2.2.1
def fp_mS (μ : fp_Y) (n : Nat) : Prop := Cond.static μ.1 ∈ fp_tbl ∧ Cond.initialized μ.1.cls ∈ fp_tbl ∧ fp_cd μ ∈ fp_tbl ∧ fp_hd μ.1 n
def fp_mV (μ : fp_Y) (n : Nat) : Prop := Cond.instanceMethod μ.1 ∈ fp_tbl ∧ Cond.selects μ.1.cls μ.1 μ.1 ∈ fp_tbl ∧ Cond.initialized μ.1.cls ∈ fp_tbl ∧ fp_cd μ ∈ fp_tbl ∧ fp_hd μ.1 n
def fp_mI (μ : fp_Y) (n : Nat) : Prop := Cond.instanceMethod μ.1 ∈ fp_tbl ∧ μ.1.name = "<init>" ∧ Cond.initialized μ.1.cls ∈ fp_tbl ∧ fp_cd μ ∈ fp_tbl ∧ fp_hd μ.1 n ∧ μ.2.2.2.1 = none
abbrev fp_rm (μ μz : fp_Y) : Prop := μz.2.2.2.2.frames + 1 ≤ μ.2.2.2.2.frames ∧ 8 + (μz.2.2.1 + 11) + μz.2.2.2.2.locals ≤ μ.2.2.2.2.locals
theorem fp_ws_in {μ : fp_Y} (h : fp_cd μ ∈ fp_tbl) : ∀ w ∈ fp_ws μ, w ∈ fp_tbl := fun w hw => (List.mem_cons.mp hw).elim (fun e => e ▸ h) id
theorem fp_cats (cv : Nat → Value) (hc : ∀ k, (cv k).category = 1) (st : List Value) : ((st.map (fp_v cv)).map fun v => v.category) = st.map fun v => v.category := by
  rw [List.map_map]
  exact List.map_congr_left fun v _ => fp_cat cv hc v
theorem fp_tail (cv : Nat → Value) (r : Option Value) (st : List Value) : (r.map (fp_v cv)).toList ++ st.map (fp_v cv) = (r.toList ++ st).map (fp_v cv) := by
  cases r <;> rfl
section FPC
variable {X : fp_X} {μ μz : fp_Y} {pc idx n : Nat} {ls : List (Option Value)} {st av : List Value} {sh : List fp_C} {M : fp_M} {nc ns : Nat} {Post P1 : fp_Q}
theorem fp_callS (hd : decode μ.2.1 pc = .ok (.invokestatic idx, 3)) (hl : Cond.methodLink μ.1.cls idx μz.1 ∈ fp_tbl) (hm : fp_mS μz n) (hrm : fp_rm μ μz) (hn : av.length = n) (hst : (st.map fun v => v.category).sum ≤ 8) (hc : nc + μz.2.2.2.2.cells ≤ μ.2.2.2.2.cells ∧ ns + μz.2.2.2.2.slots ≤ μ.2.2.2.2.slots) (hok : fp_Ok X μz av sh M P1)
    (kk : ∀ (r : Option Value) (sh' : List fp_C) (M' : fp_M), P1 r sh' M' → fp_W X μ (pc + 3) ls (r.toList ++ st) sh' M' (nc + μz.2.2.2.2.cells) (ns + μz.2.2.2.2.slots) Post) : fp_W X μ pc ls (av.reverse ++ st) sh M nc ns Post := by
  intro p l e s m args below meth c D cs cv base A Q H locs lsA hF hH hL hN hret
  have hpre := fp_pre hF hH av
  obtain ⟨hx, hb, hr, hml, hown, hts, hlk, hin, hK, hA, hcv, hR⟩ := id hF
  obtain ⟨m1, m2, m3, m4⟩ := hm
  refine fp_back (va_runS (Ts := fp_tbl) (bytes := μz.2.1) (maxL := μz.2.2.1) (ret := μz.2.2.2.1) (ws := fp_ws μz) (rest := st.map (fp_v cv)) (As := av.map (fp_v cv)) (own := μ.1.cls) ⟨hx, hb, hml, hown, hts⟩ (hok l D cs cv base) ⟨callB_of n hts (fp_goodIn (fp_ws_in m3)) rfl rfl rfl (hts _ m2) (hts _ hl) m4 hrm, hts _ m1⟩ hpre rfl (by rw [List.length_map]; exact hn) hL.1 ?_ (lv_room (by rw [fp_cats cv hcv.2]; exact hst)) hd hc) hH hA ?_
  · show List.map (fp_v cv) (av.reverse ++ st) = _
    rw [List.map_append, List.map_reverse]
  · intro r sh' M' H' locs' hp hH'
    rw [fp_tail]
    exact kk r sh' M' hp p l e s m args below meth c D cs cv base A Q H' locs' lsA hF hH' hL hc hret
theorem fp_callV (hd : decode μ.2.1 pc = .ok (.invokevirtual idx, 3)) (hl : Cond.methodLink μ.1.cls idx μz.1 ∈ fp_tbl) (hm : fp_mV μz n) (hrm : fp_rm μ μz) (hn : av.length = n) (hst : (st.map fun v => v.category).sum ≤ 8) (hc : nc + μz.2.2.2.2.cells ≤ μ.2.2.2.2.cells ∧ ns + μz.2.2.2.2.slots ≤ μ.2.2.2.2.slots) {k ci : Nat} {fs : List (Option (Option Nat))} (hs : sh[k]? = some (.inl (ci, fs))) (hcl : (vwCl[ci]?).map (fun q => q.1) = some μz.1.cls) (hok : fp_Ok X μz (.ref k :: av) sh M P1)
    (kk : ∀ (r : Option Value) (sh' : List fp_C) (M' : fp_M), P1 r sh' M' → fp_W X μ (pc + 3) ls (r.toList ++ st) sh' M' (nc + μz.2.2.2.2.cells) (ns + μz.2.2.2.2.slots) Post) : fp_W X μ pc ls (av.reverse ++ .ref k :: st) sh M nc ns Post := by
  intro p l e s m args below meth c D cs cv base A Q H locs lsA hF hH hL hN hret
  have hpre := fp_pre hF hH (.ref k :: av)
  obtain ⟨hx, hb, hr, hml, hown, hts, hlk, hin, hK, hA, hcv, hR⟩ := id hF
  obtain ⟨m1, m2, m3, m4, m5⟩ := hm
  have hk : k < 100 := Nat.lt_of_lt_of_le (List.getElem?_eq_some_iff.mp hs).1 hH.2.2.2.2
  have hrv : fp_v cv (.ref k) = .ref (fp_ad X base k) := hcv.1 k hk
  obtain ⟨q, hq⟩ : ∃ q, vwCl[ci]? = some q := by
    cases h : vwCl[ci]? with
    | none => rw [h] at hcl; cases hcl
    | some q => exact ⟨q, rfl⟩
  have hqc : q.1 = μz.1.cls := by rw [hq] at hcl; exact Option.some.inj hcl
  have hcell := va_recv hK hH.1 hq (q0 := k) (a := fp_ad X base k) (fs := fs.zipIdx.map (fp_fv X base M k)) (by rw [fp_w_some hs]; rfl)
  rw [hqc] at hcell
  have hlist : (Value.ref (fp_ad X base k) :: av.map (fp_v cv)) = ((.ref k :: av).map (fp_v cv)) := by rw [List.map_cons, hrv]
  refine fp_back (va_runV (Ts := fp_tbl) (C := μz.1.cls) (b := fp_ad X base k) (bytes := μz.2.1) (maxL := μz.2.2.1) (ret := μz.2.2.2.1) (ws := fp_ws μz) (rest := st.map (fp_v cv)) (As := av.map (fp_v cv)) (own := μ.1.cls) ⟨hx, hb, hml, hown, hts⟩ (hok l D cs cv base) ⟨callB_of n hts (fp_goodIn (fp_ws_in m4)) rfl rfl rfl (hts _ m3) (hts _ hl) m5 hrm, hts _ m1, hts _ m2⟩ ⟨hpre.1, hcell, fun U hU hW => by rw [hlist]; exact hpre.2 U hU hW⟩ rfl (by rw [List.length_map]; exact hn) hL.1 ?_ (lv_room (by rw [fp_cats cv hcv.2]; exact hst)) hd hc) hH hA ?_
  · show List.map (fp_v cv) (av.reverse ++ .ref k :: st) = _
    rw [List.map_append, List.map_reverse, List.map_cons, hrv]
  · intro r sh' M' H' locs' hp hH'
    rw [fp_tail]
    exact kk r sh' M' hp p l e s m args below meth c D cs cv base A Q H' locs' lsA hF hH' hL hc hret
/-- a call on a String constant -/
theorem fp_callVS (hd : decode μ.2.1 pc = .ok (.invokevirtual idx, 3)) (hl : Cond.methodLink μ.1.cls idx μz.1 ∈ fp_tbl) (hm : fp_mV μz n) (hrm : fp_rm μ μz) (hn : av.length = n) (hst : (st.map fun v => v.category).sum ≤ 8) (hc : nc + μz.2.2.2.2.cells ≤ μ.2.2.2.2.cells ∧ ns + μz.2.2.2.2.slots ≤ μ.2.2.2.2.slots) {i : Nat} (hi : i < 12) (hcl : μz.1.cls = "java/lang/String") (hok : fp_Ok X μz (.ref (100 + i) :: av) sh M P1)
    (kk : ∀ (r : Option Value) (sh' : List fp_C) (M' : fp_M), P1 r sh' M' → fp_W X μ (pc + 3) ls (r.toList ++ st) sh' M' (nc + μz.2.2.2.2.cells) (ns + μz.2.2.2.2.slots) Post) : fp_W X μ pc ls (av.reverse ++ .ref (100 + i) :: st) sh M nc ns Post := by
  intro p l e s m args below meth c D cs cv base A Q H locs lsA hF hH hL hN hret
  have hpre := fp_pre hF hH (.ref (100 + i) :: av)
  obtain ⟨hx, hb, hr, hml, hown, hts, hlk, hin, hK, hA, hcv, hR⟩ := id hF
  obtain ⟨m1, m2, m3, m4, m5⟩ := hm
  obtain ⟨-, -, ⟨adK, adV, hvk, had, -⟩, -⟩ := hR
  have hrv : fp_v cv (.ref (100 + i)) = .ref (adK i) := (had i hi).1
  have hcell := vk_recv hvk hi hH.2.2.1
  rw [← hcl] at hcell
  have hlist : (Value.ref (adK i) :: av.map (fp_v cv)) = ((.ref (100 + i) :: av).map (fp_v cv)) := by rw [List.map_cons, hrv]
  refine fp_back (va_runV (Ts := fp_tbl) (C := μz.1.cls) (b := adK i) (bytes := μz.2.1) (maxL := μz.2.2.1) (ret := μz.2.2.2.1) (ws := fp_ws μz) (rest := st.map (fp_v cv)) (As := av.map (fp_v cv)) (own := μ.1.cls) ⟨hx, hb, hml, hown, hts⟩ (hok l D cs cv base) ⟨callB_of n hts (fp_goodIn (fp_ws_in m4)) rfl rfl rfl (hts _ m3) (hts _ hl) m5 hrm, hts _ m1, hts _ m2⟩ ⟨hpre.1, hcell, fun U hU hW => by rw [hlist]; exact hpre.2 U hU hW⟩ rfl (by rw [List.length_map]; exact hn) hL.1 ?_ (lv_room (by rw [fp_cats cv hcv.2]; exact hst)) hd hc) hH hA ?_
  · show List.map (fp_v cv) (av.reverse ++ .ref (100 + i) :: st) = _
    rw [List.map_append, List.map_reverse, List.map_cons, hrv]
  · intro r sh' M' H' locs' hp hH'
    rw [fp_tail]
    exact kk r sh' M' hp p l e s m args below meth c D cs cv base A Q H' locs' lsA hF hH' hL hc hret
/-- a constructor -/
theorem fp_callI (hd : decode μ.2.1 pc = .ok (.invokespecial idx, 3)) (hl : Cond.methodLink μ.1.cls idx μz.1 ∈ fp_tbl) (hm : fp_mI μz n) (hrm : fp_rm μ μz) (hn : av.length = n) (hst : (st.map fun v => v.category).sum ≤ 8) (hc : nc + μz.2.2.2.2.cells ≤ μ.2.2.2.2.cells ∧ ns + μz.2.2.2.2.slots ≤ μ.2.2.2.2.slots) {k : Nat} (hk : k < 100) (hok : fp_Ok X μz (.ref k :: av) sh M P1)
    (kk : ∀ (r : Option Value) (sh' : List fp_C) (M' : fp_M), P1 r sh' M' → fp_W X μ (pc + 3) ls (r.toList ++ st) sh' M' (nc + μz.2.2.2.2.cells) (ns + μz.2.2.2.2.slots) Post) : fp_W X μ pc ls (av.reverse ++ .ref k :: st) sh M nc ns Post := by
  intro p l e s m args below meth c D cs cv base A Q H locs lsA hF hH hL hN hret
  have hpre := fp_pre hF hH (.ref k :: av)
  obtain ⟨hx, hb, hr, hml, hown, hts, hlk, hin, hK, hA, hcv, hR⟩ := id hF
  obtain ⟨m1, m2, m3, m4, m5, m6⟩ := hm
  have hrv : fp_v cv (.ref k) = .ref (fp_ad X base k) := hcv.1 k hk
  have hlist : (Value.ref (fp_ad X base k) :: av.map (fp_v cv)) = ((.ref k :: av).map (fp_v cv)) := by rw [List.map_cons, hrv]
  have hmet := hok l D cs cv base
  refine fp_back (va_runI (Ts := fp_tbl) (b := fp_ad X base k) (bytes := μz.2.1) (maxL := μz.2.2.1) (ws := fp_ws μz) (rest := st.map (fp_v cv)) (As := av.map (fp_v cv)) (own := μ.1.cls) ⟨hx, hb, hml, hown, hts⟩ hmet ⟨callB_of n hts (fp_goodIn (fp_ws_in m4)) (by rw [← m6]) rfl rfl (hts _ m3) (hts _ hl) m5 hrm, m2, hts _ m1⟩ (by rw [hlist]; exact hpre) rfl (by rw [List.length_map]; exact hn) hL.1 ?_ (lv_room (by rw [fp_cats cv hcv.2]; exact hst)) hd hc) hH hA ?_
  · show List.map (fp_v cv) (av.reverse ++ .ref k :: st) = _
    rw [List.map_append, List.map_reverse, List.map_cons, hrv]
  · intro r sh' M' H' locs' hp hH'
    rw [fp_tail]
    exact kk r sh' M' hp p l e s m args below meth c D cs cv base A Q H' locs' lsA hF hH' hL hc hret
/-- a nest mate's private constructor -/
theorem fp_callIN (hd : decode μ.2.1 pc = .ok (.invokespecial idx, 3)) (hl : (μ.1.cls, idx, μz.1) ∈ fp_nest) (hm : fp_mI μz n) (hrm : fp_rm μ μz) (hn : av.length = n) (hst : (st.map fun v => v.category).sum ≤ 8) (hc : nc + μz.2.2.2.2.cells ≤ μ.2.2.2.2.cells ∧ ns + μz.2.2.2.2.slots ≤ μ.2.2.2.2.slots) {k : Nat} (hk : k < 100) (hok : fp_Ok X μz (.ref k :: av) sh M P1)
    (kk : ∀ (r : Option Value) (sh' : List fp_C) (M' : fp_M), P1 r sh' M' → fp_W X μ (pc + 3) ls (r.toList ++ st) sh' M' (nc + μz.2.2.2.2.cells) (ns + μz.2.2.2.2.slots) Post) : fp_W X μ pc ls (av.reverse ++ .ref k :: st) sh M nc ns Post := by
  intro p l e s m args below meth c D cs cv base A Q H locs lsA hF hH hL hN hret
  have hpre := fp_pre hF hH (.ref k :: av)
  obtain ⟨hx, hb, hr, hml, hown, hts, hlk, hin, hK, hA, hcv, hR⟩ := id hF
  obtain ⟨m1, m2, m3, m4, m5, m6⟩ := hm
  have hrv : fp_v cv (.ref k) = .ref (fp_ad X base k) := hcv.1 k hk
  have hlist : (Value.ref (fp_ad X base k) :: av.map (fp_v cv)) = ((.ref k :: av).map (fp_v cv)) := by rw [List.map_cons, hrv]
  have hmet := hok l D cs cv base
  refine fp_back (va_runIN (Ts := fp_tbl) (b := fp_ad X base k) (host := "FarPost") (bytes := μz.2.1) (maxL := μz.2.2.1) (ws := fp_ws μz) (rest := st.map (fp_v cv)) (As := av.map (fp_v cv)) (own := μ.1.cls) ⟨hx, hb, hml, hown, hts⟩ hmet ⟨va_cnB n hts (fp_goodIn (fp_ws_in m4)) (by rw [← m6]) rfl rfl (hR.2.2.2.2.1 _ hl) (hts _ m3) m5 hrm, m2, hts _ m1⟩ (by rw [hlist]; exact hpre) rfl (by rw [List.length_map]; exact hn) hL.1 ?_ (lv_room (by rw [fp_cats cv hcv.2]; exact hst)) hd hc) hH hA ?_
  · show List.map (fp_v cv) (av.reverse ++ .ref k :: st) = _
    rw [List.map_append, List.map_reverse, List.map_cons, hrv]
  · intro r sh' M' H' locs' hp hH'
    rw [fp_tail]
    exact kk r sh' M' hp p l e s m args below meth c D cs cv base A Q H' locs' lsA hF hH' hL hc hret
end FPC
