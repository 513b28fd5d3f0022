/-! THE CLAIM OUT OF ONE WALK OF THE LAW'S BODY. Your part is whole_start (and what it stands on); all else here is the same for every law, but numbers. -/
def R_law : String := "FarPostLaw"
def lw_P (b : Addr) (xs : List Int32) (args : Array Value) (s : State) : Prop := args = #[.ref b] ∧ s.IntsAt b xs ∧ xs.length ≤ 3072 ∧ (Jvm.Cond.and given_1 narrow_1).before args s = true
def lw_Q (_ : Array Value) (s : State) (o : Outcome) (t : State) : Prop := o = .returned (some (.int 1)) ∧ Framed s o t [] 600000 7302249
def lw_Z (below : List Frame) (a : Array Value) (s : State) : State → Prop := fun t => ∃ o, t.status = .running ∧ Ended t below o ∧ lw_Q a s o t
/-- the law's own end, with 1 on the stack, nothing written that was there before, its room as the claim has it -/
theorem lw_ret {p : Program} {l : Launch} {e : Env} {s : State} {m : MethodId} {below : List Frame} {meth : Method} {c : Code} {b : Nat} (hx : p.tables.exec = Jvm.exec) (hb : c.code = code) (hr : meth.sig.returnType = ret) (hlocks : meth.locks = false) {pc : Nat} {H : Heap} {ls : Array Slot} (hdg : decode code pc = .ok (.ireturn, 1)) : W p l e room_1 s m #[Value.ref b] below meth c H [] 600000 7302249 (lw_Z below #[Value.ref b] s) (F0 m pc ls [.int 1]) := by
  intro T hT X
  obtain ⟨fs, hret, hrun, hended, hW, hframe⟩ := X.leave (v := some (.int 1)) (hlocks := hlocks) (fun h => by rw [hr] at h; cases h)
  have hmeth' : T.vm.method? m = some meth := X.method'
  refine ⟨T.setFrames fs, ?_, .returned (some (.int 1)), hrun, hended, rfl, ⟨_, rfl⟩, hW, hframe⟩
  jvm_step X.here [X.here.top, hx, hb, hdg, hmeth', hr, ret, narrow_b1]
  (try refine ⟨rfl, ?_⟩); (try refine ⟨rfl, ?_⟩)
  first | (intro acts; rw [hret _ acts rfl rfl rfl]) | rw [hret _ _ rfl rfl rfl]
  exact Steps.refl _
/-- what holds at the law's entry: the machine, the code, the tables' words (any of lw_tbl by 'hts w (by decide +kernel)'), the script of L ints xs at the cell b, what the Statement gives of the start (any of its parts by flat_of_before) -/
def lw_At (p : Program) (s : State) (m : MethodId) (meth : Method) (c : Code) (b L : Nat) (xs : Nat → Int32) : Prop :=
  p.tables.exec = Jvm.exec ∧ c.code = code ∧ meth.sig.returnType = ret ∧ c.maxLocals = 4 ∧ s.vm.findClass R_law = some m.cls ∧ (∀ w ∈ lw_tbl, w.before #[Value.ref b] s = true) ∧ va_X b L xs s s.heap ∧ b < s.heap.size ∧ meth.locks = false ∧ (Jvm.Cond.and given_1 narrow_1).before #[Value.ref b] s = true
theorem z_cls {s : State} {b : Nat} (hts : ∀ w ∈ lw_tbl, w.before #[Value.ref b] s = true) : ∃ (D : va_G) (cs : Nat → ClassId), va_K D vwCl (fp_tys cs) s := by
  have hg : ∀ w ∈ fp_tbl, w.before #[Value.ref b] s = true := fun w hw => hts w (List.mem_filter.mp hw).1
  obtain ⟨c0, i0, h0⟩ := u_known hg fc_0.2.1 (hg _ wb_0)
  obtain ⟨c1, i1, h1⟩ := u_known hg fc_1.2.1 (hg _ wb_1)
  obtain ⟨c2, i2, h2⟩ := u_known hg fc_2.2.1 (hg _ wb_2)
  obtain ⟨c3, i3, h3⟩ := u_known hg fc_3.2.1 (hg _ wb_3)
  obtain ⟨c4, i4, h4⟩ := u_known hg fc_4.2.1 (hg _ wb_4)
  obtain ⟨c5, i5, h5⟩ := u_known hg fc_5.2.1 (hg _ wb_5)
  obtain ⟨c6, i6, h6⟩ := u_known hg fc_6.2.1 (hg _ wb_6)
  obtain ⟨d0, k0, p0, e1, e2, e3⟩ := Cond.arrayClass_spec (hg _ wa_int)
  obtain ⟨p1, d1, k1, f1, -, f2, f3, f4⟩ := Cond.arrayOver_spec (hts (.arrayOver (.object RX1)) (by decide +kernel))
  obtain ⟨p2, d2, k2, g1, -, g2, g3, g4⟩ := Cond.arrayOver_spec (hts (.arrayOver (.object RX3)) (by decide +kernel))
  refine ⟨(fun k => if k = 0 then c0 else if k = 1 then c1 else if k = 2 then c2 else if k = 3 then c3 else if k = 4 then c4 else if k = 5 then c5 else c6, fun k => if k = 0 then i0 else if k = 1 then i1 else if k = 2 then i2 else if k = 3 then i3 else if k = 4 then i4 else if k = 5 then i5 else i6), fun k => if k = 0 then d0 else if k = 1 then d1 else d2, fun k q hq => ?_, fun k q hq => ?_⟩
  · match k, hq with
    | 0, hq => cases hq; exact h0
    | 1, hq => cases hq; exact h1
    | 2, hq => cases hq; exact h2
    | 3, hq => cases hq; exact h3
    | 4, hq => cases hq; exact h4
    | 5, hq => cases hq; exact h5
    | 6, hq => cases hq; exact h6
    | n + 7, hq => simp [vwCl] at hq
  · match k, hq with
    | 0, hq => cases hq; exact ⟨fun n z => ⟨fun k h => (by cases h), k0, e2, p0, e3⟩, e1⟩
    | 1, hq => cases hq; exact ⟨fun n z => ⟨fun k h => (by cases h), k1, f2, p1, f3⟩, k1, p1, f2, f3, f1, f4⟩
    | 2, hq => cases hq; exact ⟨fun n z => ⟨fun k h => (by cases h), k2, g2, p2, g3⟩, k2, p2, g2, g3, g1, g4⟩
    | n + 3, hq => simp at hq
abbrev z_fl : List Cond := flatC (Jvm.Cond.and given_1 narrow_1)
abbrev z_tm (i : Nat) : Term := .string (fp_so i) (fp_si.getD i 0)
theorem z_s1 : ∀ i, i < 12 → Cond.exactly (z_tm i) "java/lang/String" ∈ z_fl := by decide +kernel
theorem z_s2 : ∀ i, i < 12 → Cond.eq (.field (z_tm i) "java/lang/String" "coder" "B") (.int 0) ∈ z_fl := by decide +kernel
theorem z_s3 : ∀ i, i < 12 → Cond.arrayOf (.field (z_tm i) "java/lang/String" "value" "[B") .byte ∈ z_fl := by decide +kernel
theorem z_s4 : ∀ i, i < 12 → Cond.eq (.length (.field (z_tm i) "java/lang/String" "value" "[B")) (.int (Int32.ofNat (fp_sl.getD i 0))) ∈ z_fl := by decide +kernel
theorem z_s5 : ∀ i, i < 12 → ∀ j, j < fp_sl.getD i 0 → Cond.eq (.elem (.field (z_tm i) "java/lang/String" "value" "[B") (.int (Int32.ofNat j))) (.int ((fp_sb.getD i []).getD j 0)) ∈ z_fl := by decide +kernel
theorem z_s6 : ∀ i, i < 12 → ∀ j, j < 12 → i = j ∨ Cond.not (.eq (z_tm i) (z_tm j)) ∈ z_fl ∨ Cond.not (.eq (z_tm j) (z_tm i)) ∈ z_fl := by decide +kernel
theorem z_s7 : ∀ i, i < 12 → Cond.stringRef (fp_so i) (fp_si.getD i 0) (fp_st.getD i "") ∈ lw_tbl := by decide +kernel
theorem z_s8 : ∀ q ∈ fp_nest, Cond.methodLinkNest q.1 q.2.1 q.2.2 "FarPost" ∈ lw_tbl := by decide +kernel
theorem z_R {X : fp_X} {s : State} {b base : Nat} (hX : va_X b X.1 X.2.1 s s.heap) (hbl : b < s.heap.size) (hts : ∀ w ∈ lw_tbl, w.before #[Value.ref b] s = true) (hgv : (Jvm.Cond.and given_1 narrow_1).before #[Value.ref b] s = true) : ∃ cv : Nat → Value, (∀ k, k < 100 → cv k = .ref (fp_ad X base k)) ∧ (∀ k, (cv k).category = 1) ∧ cv 150 = .ref b ∧ fp_R X cv (fun q => s.heap.size ≤ q) s s.heap := by
  have hs := flat_of_before _ hgv
  have hA : ∀ a : Nat, a < s.heap.size → ¬ (fun q => s.heap.size ≤ q) a := fun a h => Nat.not_le.mpr h
  have hZ1 := va_Zof (A := fun q => s.heap.size ≤ q) (hts (.laysStatic "java/lang/String" "COMPACT_STRINGS" "Z") (by decide +kernel)) (hts (.initialized "java/lang/String") (by decide +kernel)) (va_eqi (z := 1) (hs (.eq (.static "java/lang/String" "COMPACT_STRINGS" "Z") (.int 1)) (by decide +kernel))) hA
  obtain ⟨v, hv, hvr⟩ : ∃ v, (Term.static "jdk/internal/util/Preconditions" "SIOOBE_FORMATTER" "Ljava/util/function/BiFunction;").eval #[Value.ref b] s none [] s = some v ∧ v.isRef = true := by
    have h := hs (.isRef (.static "jdk/internal/util/Preconditions" "SIOOBE_FORMATTER" "Ljava/util/function/BiFunction;")) (by decide +kernel)
    cases hv : (Term.static "jdk/internal/util/Preconditions" "SIOOBE_FORMATTER" "Ljava/util/function/BiFunction;").eval #[Value.ref b] s none [] s with
    | none => simp [Cond.before, Cond.holds, Cond.value, hv] at h
    | some w =>
      refine ⟨w, rfl, ?_⟩
      cases w <;> first | rfl | (simp [Cond.before, Cond.holds, Cond.value, hv] at h)
  have hvc : v.category = 1 := by
    cases v <;> first | rfl | cases hvr
  have hZ2 := va_Zof (A := fun q => s.heap.size ≤ q) (hts (.laysStatic "jdk/internal/util/Preconditions" "SIOOBE_FORMATTER" "Ljava/util/function/BiFunction;") (by decide +kernel)) (hts (.initialized "jdk/internal/util/Preconditions") (by decide +kernel)) hv hA
  obtain ⟨adK, adV, hS, hev⟩ := vk_Sof (tm := z_tm) (N := 12) (len := fp_sl) (byt := fp_sb) (A := fun q => s.heap.size ≤ q) (by decide) (fun i hi => hs _ (z_s1 i hi)) (fun i hi => hs _ (z_s2 i hi)) (fun i hi => hs _ (z_s3 i hi)) (fun i hi => hs _ (z_s4 i hi)) (fun i hi j hj => hs _ (z_s5 i hi j hj)) (fun i j hi hj hij => by
    rcases z_s6 i hi j hj with h | h | h
    · exact absurd h hij
    · exact Or.inl (hs _ h)
    · exact Or.inr (hs _ h)) hA
  refine ⟨fun k => if k < 100 then .ref (fp_ad X base k) else if k < 112 then .ref (adK (k - 100)) else if k < 132 then .ref (adV (k - 120)) else if k = 140 then v else .ref b, fun k hk => if_pos hk, fun k => ?_, rfl, hZ1, hZ2, ⟨adK, adV, hS, fun i hi => ⟨?_, ?_⟩, fun i hi => vk_R.of (hts _ (z_s7 i hi)) (hev i hi)⟩, ⟨b, rfl, hbl, hX, hA b hbl⟩, fun q hq => va_tabs rfl rfl (hts _ (z_s8 q hq)), va_AO.of (hts (.arrayOver (.object RX1)) (by decide +kernel)), va_AO.of (hts (.arrayOver (.object RX3)) (by decide +kernel))⟩
  · show (if k < 100 then Value.ref (fp_ad X base k) else if k < 112 then .ref (adK (k - 100)) else if k < 132 then .ref (adV (k - 120)) else if k = 140 then v else .ref b).category = 1
    split
    · rfl
    · split
      · rfl
      · split
        · rfl
        · split
          · exact hvc
          · rfl
  · show (if 100 + i < 100 then Value.ref (fp_ad X base (100 + i)) else if 100 + i < 112 then .ref (adK (100 + i - 100)) else _) = _
    rw [if_neg (by omega), if_pos (by omega), Nat.add_sub_cancel_left]
  · show (if 120 + i < 100 then Value.ref (fp_ad X base (120 + i)) else if 120 + i < 112 then .ref (adK (120 + i - 100)) else if 120 + i < 132 then .ref (adV (120 + i - 120)) else _) = _
    rw [if_neg (by omega), if_neg (by omega), if_pos (by omega), Nat.add_sub_cancel_left]
theorem z_walk {L : Nat} {xs : Nat → Int32} (hL : L ≤ 3072) : fp_W (L, xs, fun k => k) mL_law 0 [some (.ref 150), none, none, none] [] [] fz_0 0 0 (fun r _ _ => r = some (.int 1)) :=
  z_make (fun _ => rfl) (fun nc ns _ _ => fz_turn (X := (L, xs, fun k => k)) (X' := (L, xs, fz_pi)) rfl rfl (fun _ => rfl) (fun _ => rfl) (z_loop (X := (L, xs, fz_pi)) hL 1000 0 _ (by show L + 6 ≤ 0 + 6 * 1000; omega) (by decide) fz_start))
/-- YOUR PART: from the entry, for every script of at most 3072 ints, the law comes to its end with true ('hflags': the launch's flags, for a law that throws: no stack traces) -/
theorem whole_start {p : Program} {e : Env} {s : State} {m : MethodId} {below : List Frame} {meth : Method} {c : Code} (l : Launch) (hflags : l.flags = flags0) {b L : Nat} {xs : Nat → Int32} (hL : L ≤ 3072) (C0 : lw_At p s m meth c b L xs) : W p l e room_1 s m #[Value.ref b] below meth c s.heap [] 0 0 (lw_Z below #[Value.ref b] s) (entryFrame m ([Value.ref b] : List Value).toArray 4) := by
  obtain ⟨hx, hb, hr, hml, hown, hts, hX, hbl, hlocks, hgv⟩ := id C0
  obtain ⟨D, cs, hK⟩ := z_cls hts
  obtain ⟨cv, hcv1, hcv2, hcv3, hR⟩ := z_R (X := (L, xs, fun k => k)) (base := s.heap.size) hX hbl hts hgv
  have hF : fp_F (L, xs, fun k => k) mL_law p s m #[Value.ref b] meth c D cs cv s.heap.size (fun q => s.heap.size ≤ q) := ⟨hx, hb, hr, hml, hown, fun w hw => hts w (List.mem_filter.mp hw).1, hlocks, fun h => absurd h (by decide), hK, fun q h => h, ⟨hcv1, hcv2⟩, hR⟩
  have hH : fp_H (L, xs, fun k => k) D cs s.heap.size (fun q => s.heap.size ≤ q) s [] fz_0 s.heap [] := ⟨fun k q h => by simp [fp_w] at h, ⟨fun i j p q h => by simp [fp_w] at h, fun k q h => by simp [fp_w] at h⟩, va_S.rf, rfl, Nat.zero_le _⟩
  have hl := lv_entry ([.ref b]) (n := 4) (Nat.le_of_ble_eq_true rfl)
  rw [lg_entry_eq]
  have hLL : fp_L cv (lg_sl ([.ref b]) ++ List.replicate (4 - (lg_sl ([.ref b])).length) Slot.unset).toArray 4 [some (.ref 150), none, none, none] := by
    refine ⟨hl.1, hl.2.1, rfl, fun i v hv => ?_⟩
    match i, hv with
    | 0, hv =>
      cases hv
      show _ = some (Slot.val (cv 150))
      rw [hcv3]
      rfl
    | 1, hv => cases hv
    | 2, hv => cases hv
    | 3, hv => cases hv
    | n + 4, hv => simp at hv
  refine z_walk (xs := xs) hL p l e s m #[Value.ref b] below meth c D cs cv s.heap.size (fun q => s.heap.size ≤ q) _ s.heap [] _ hF hH hLL ⟨Nat.zero_le _, Nat.zero_le _⟩ ?_
  intro ins r pc' lsA' sh' M' H' locs' nc' ns' hd hrt hn hp hH'
  subst hp
  rcases hrt with ⟨rfl, -⟩ | ⟨-, -, v, h⟩ | ⟨-, q, t, -, -, -, h⟩ | ⟨-, -, h⟩
  · refine va_forget (fun q hq => hH'.2.2.1.2.2 q hq) ?_
    refine W.widen (k := 600000) (n := 7302249) hn.1 hn.2 ?_
    exact lw_ret hx hb hr hlocks hd
  · cases h
  · cases h
  · cases h
set_option maxHeartbeats 4000000 in
theorem lw_walk (l : Launch) (hflags : l.flags = flags0) (b : Addr) (xs : List Int32) : MetFree l x (headSpec (Jvm.Cond.code x code maxLocals ret :: tables_1) room_1) (lw_P b xs) (fun _ _ _ _ _ => True) lw_Q := by
  refine MetFree.of_bodyS (code := code) (maxLocals := maxLocals) (ret := ret) (by decide) ?_ ?_
  · intro args s m h hn
    obtain ⟨meth, c, h1, h2, h3, h4, h5, h6, -, -⟩ := Cond.code_spec hn (atoms_spec (ws := Jvm.Cond.code x code maxLocals ret :: tables_1) h _ List.mem_cons_self)
    exact ⟨meth, c, h1, h2, h3, h4, h5, h6⟩
  · intro p e s m args below meth c s₁ B hml0 hP _
    obtain ⟨rfl, hx, hbd, hgv⟩ := hP
    obtain ⟨scr, harrAt, hlist, hof, hsmall⟩ := hx
    obtain ⟨hcb, hkn, -, -⟩ := State.arrayAt?_spec harrAt
    have hown : s.vm.findClass R_law = some m.cls := findClass_of_methodNamed B.named
    have hts0 : ∀ c ∈ (Jvm.Cond.code x code maxLocals ret :: tables_1), c.before #[Value.ref b] s = true := atoms_spec (ws := Jvm.Cond.code x code maxLocals ret :: tables_1) B.pre
    have hts : ∀ w ∈ lw_tbl, w.before #[Value.ref b] s = true := k2_hts_sels lw_privs (fun w hw => hts0 w (List.mem_cons_of_mem _ hw)) lw_privs_ok
    have hml : c.maxLocals = 4 := B.maxLocals_eq (hts0 _ List.mem_cons_self)
    have X₀ : Stand p l e room_1 s m #[Value.ref b] below meth c s₁ [] 0 0 := Stand.of_body B
    have hh0 : s₁.heap = s.heap := by rw [B.state]; rfl
    have hsz : scr.slots.size = xs.length := by rw [← Array.length_toList, hlist, List.length_map]
    have hval : ∀ j : Nat, j < xs.length → scr.slots[j]? = some (.int (xs.getD j 0)) := fun j hj => by
      rw [← Array.getElem?_toList, hlist]
      simp [hj]
    have hbl : b < s.heap.size := (Array.getElem?_eq_some_iff.mp hcb).1
    have hX : va_X b xs.length (fun j => xs.getD j 0) s s.heap := ⟨scr, hcb, hof, hkn, hsz, hval⟩
    have K : W p l e room_1 s m #[Value.ref b] below meth c s₁.heap [] 0 0 (lw_Z below #[Value.ref b] s) (entryFrame m ([Value.ref b] : List Value).toArray 4) := by
      rw [hh0]
      exact whole_start l hflags hbd ⟨B.exec, B.bytes, B.returns, hml, hown, hts, hX, hbl, B.notSynchronized, hgv⟩
    obtain ⟨t, a1, o, b1, b2, b3⟩ := K s₁ rfl X₀
    exact ⟨t, o, a1, b1, b2, b3⟩
theorem lw_pre_spec {args : Array Value} {s : State} (h : (Jvm.Cond.and given_1 narrow_1).before args s = true) (hr : rest_1_c.before args s = true) : ∃ (b : Addr) (xs : List Int32), lw_P b xs args s := by
  have hs := flat_of_before _ h
  have hq := flat_of_before _ hr
  have hc : (Cond.count 1).before args s = true := hs _ (by decide +kernel)
  have harr : (Cond.arrayOf (.arg 0) .int).before args s = true := hs _ (by decide +kernel)
  have hle : (Cond.le (.length (.arg 0)) (.int 3072)).before args s = true := hs _ (by decide +kernel)
  have hlen : (Cond.isInt (.length (.arg 0))).before args s = true := hq _ (by decide +kernel)
  have hall : (Cond.all (.arg 0) (.isInt (.elem (.arg 0) (.index 0)))).before args s = true := hq _ (by decide +kernel)
  obtain ⟨b, xs, hb, hx⟩ := State.ints_of_pre rfl harr hlen hall
  have hsm : xs.length < 2 ^ 31 := hx.choose_spec.2.2.2
  have hev : (Term.length (.arg 0)).eval args s none [] s = some (.int xs.length.toInt32) := hx.length_eval hb
  have hv := Cond.le_ints hev (show (Term.int 3072).eval args s none [] s = some (.int 3072) from rfl)
  have hd : xs.length.toInt32 ≤ 3072 := by
    simpa [Cond.before, Cond.holds, hv] using hle
  have hN : xs.length ≤ 3072 := (Int32.ofNat_le_ofNat hsm (by decide)).mp (show Int32.ofNat xs.length ≤ Int32.ofNat 3072 from hd)
  exact ⟨b, xs, Cond.one_arg hc (show args[0]? = some (.ref b) from hb), hx, hN, h⟩
theorem lw_comes (l : Launch) (hflags : l.flags = flags0) : Comes l x (Jvm.Cond.code x code maxLocals ret :: tables_1) room_1 (fun tb e args s => Calls_1 tb e args s ∧ rest_1 tb e args s ∧ Pre_1 tb e args s)
    (fun _ _ args s o t => lw_Q args s o t) := by
  intro p e ha hc hk s m args below hf hfit hheap happ hpre
  obtain ⟨b, xs, hP⟩ := lw_pre_spec hpre.2.2 hpre.2.1
  obtain ⟨k, o, h1, h2, h3, hQ⟩ := lw_walk l hflags b xs p e ha hc hk s m args below hf ((Spec.applies_iff_loose hf).mp happ).1 hP trivial
  exact ⟨k, o, h1, h2, h3, hQ⟩
theorem lw_frame {s t : State} {o : Outcome} {args : Array Value} (h : Framed s o t [] 600000 7302249) :
    Framed s o t (fieldLocs frame_1_writes args s ++ arrayLocs frame_1_arrays args s ++ staticLocs frame_1_statics s) 600000 7302249 := h
theorem lw_limb (L : Cond) (hL : ∀ (args : Array Value) (s t : State), L.after args s (.returned (some (.int 1))) t = true) :
    ArmFor flags0 classFile x code maxLocals ret World_1 tables_1 room_1 Calls_1 rest_1 Pre_1
      (fun tb e a s o t => postC L tb e a s o t ∧ Framed s o t (fieldLocs frame_1_writes a s ++ arrayLocs frame_1_arrays a s ++ staticLocs frame_1_statics s) 600000 7302249) := by
  intro l hflags _ _ p e ha hc hk s m args below hf hfit hheap happ hpre
  obtain ⟨k, o, h1, h2, h3, rfl, hF⟩ := lw_comes l hflags p e ha hc hk s m args below hf hfit hheap happ hpre
  exact ⟨k, _, h1, h2, h3, hL args s _, lw_frame hF⟩
theorem i_vc : Claimed_1_1 ∧ Claimed_1_2 := ⟨lw_limb limb_1_1 (fun args s t => by simp [limb_1_1, Cond.after, Cond.holds, Cond.value]), lw_limb limb_1_2 (fun args s t => Cond.after_iff.mpr (by
  first | (rw [show limb_1_2 = Cond.eq .result (.int 1) from rfl, Cond.eq_ints (x := 1) (y := 1) rfl rfl]; simp; done) | (simp [limb_1_2, Cond.value, Term.eval]; done)))⟩
