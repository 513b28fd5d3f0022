/-! ===== the calculus: all cells by their places; a judgement over them, closed over the machine ===== -/
abbrev fp_C : Type := (Nat × List (Option (Option Nat))) ⊕ (Nat ⊕ (Nat × List (Option Nat)))
abbrev fp_M : Type := Nat → Nat → Int32
abbrev fp_Y : Type := MethodName × ByteArray × Nat × Option FieldType × Room
/-- the script's length and ints; where each place lies behind the first -/
abbrev fp_X : Type := Nat × (Nat → Int32) × (Nat → Nat)
def fp_ad (X : fp_X) (base k : Nat) : Nat := base + X.2.2 k
abbrev fp_Q : Type := Option Value → List fp_C → fp_M → Prop
/-- the words that a callee may ask for, too -/
def fp_tbl : List Cond := lw_tbl.filter goodWord
theorem fp_in {w : Cond} (h : w ∈ lw_tbl) (hg : goodWord w = true) : w ∈ fp_tbl := List.mem_filter.mpr ⟨h, hg⟩
theorem fp_goodIn {ws : List Cond} (h : ∀ w ∈ ws, w ∈ fp_tbl) : GoodIn fp_tbl ws := fun w hw => ⟨h w hw, good_of_word (List.mem_filter.mp (h w hw)).2⟩
/-- the links to private constructors of nest mates -/
def fp_nest : List (String × Nat × MethodName) := [(RX5, 28, yX0_init), (RX5, 35, yX1_init), (RX5, 42, yX4_init), (RX5, 57, yX3_init), (RX2, 37, yX1_init)]
/-- the value of a field: a number of the memory, null, or a place -/
def fp_fv (X : fp_X) (base : Nat) (M : fp_M) (k : Nat) (q : Option (Option Nat) × Nat) : Value := match q.1 with
  | none => .int (M k q.2)
  | some none => .null
  | some (some r) => .ref (fp_ad X base r)
def fp_e (X : fp_X) (cs : Nat → ClassId) (base : Nat) (M : fp_M) (k : Nat) (c : fp_C) : va_E := match c with
  | .inl o => .inr (o.1, o.2.zipIdx.map (fp_fv X base M k))
  | .inr (.inl n) => .inl (cs 0, n, .inl (M k))
  | .inr (.inr a) => .inl (cs a.1, a.2.length, .inr (.inr (.inr (.inr (fun j => (a.2.getD j none).map (fun r => fp_ad X base r))))))
def fp_w (X : fp_X) (cs : Nat → ClassId) (base : Nat) (sh : List fp_C) (M : fp_M) : va_W := sh.zipIdx.map (fun q => (fp_ad X base q.2, fp_e X cs base M q.2 q.1))
theorem fp_w_at {X : fp_X} (cs : Nat → ClassId) (base : Nat) (sh : List fp_C) (M : fp_M) (k : Nat) : (fp_w X cs base sh M)[k]? = (sh[k]?).map (fun c => (fp_ad X base k, fp_e X cs base M k c)) := by
  simp only [fp_w, List.getElem?_map, List.getElem?_zipIdx, Nat.zero_add, Option.map_map]
  rfl
theorem fp_w_some {X : fp_X} {cs : Nat → ClassId} {base : Nat} {sh : List fp_C} {M : fp_M} {k : Nat} {c : fp_C} (h : sh[k]? = some c) : (fp_w X cs base sh M)[k]? = some (fp_ad X base k, fp_e X cs base M k c) := by
  rw [fp_w_at, h]; rfl
theorem fp_w_len {X : fp_X} (cs : Nat → ClassId) (base : Nat) (sh : List fp_C) (M : fp_M) : (fp_w X cs base sh M).length = sh.length := by
  simp [fp_w]
theorem fp_e_eq {X : fp_X} {cs : Nat → ClassId} {base : Nat} {M M' : fp_M} {i : Nat} (h : M' i = M i) (d : fp_C) : fp_e X cs base M i d = fp_e X cs base M' i d := by
  rcases d with o | n | a
  · show Sum.inr (o.1, o.2.zipIdx.map (fp_fv X base M i)) = Sum.inr (o.1, o.2.zipIdx.map (fp_fv X base M' i))
    congr 2
    refine List.map_congr_left fun q _ => ?_
    unfold fp_fv
    rw [h]
  · show Sum.inl (cs 0, n, Sum.inl (M i)) = Sum.inl (cs 0, n, Sum.inl (M' i))
    rw [h]
  · rfl
/-- one cell set: the memory, and perhaps its shape, are new there alone -/
theorem fp_w_set {X : fp_X} {cs : Nat → ClassId} {base : Nat} {sh : List fp_C} {M M' : fp_M} {k : Nat} {c : fp_C} (hk : k < sh.length) (hM : ∀ q, q ≠ k → M' q = M q) : (fp_w X cs base sh M).set k (fp_ad X base k, fp_e X cs base M' k c) = fp_w X cs base (sh.set k c) M' := by
  refine List.ext_getElem? fun i => ?_
  rw [List.getElem?_set, fp_w_at, fp_w_at, fp_w_len, List.getElem?_set]
  by_cases hi : k = i
  · subst hi
    simp [hk]
  · rw [if_neg hi, if_neg hi]
    cases hc : sh[i]? with
    | none => rfl
    | some d =>
      show some (fp_ad X base i, fp_e X cs base M i d) = some (fp_ad X base i, fp_e X cs base M' i d)
      rw [fp_e_eq (hM i (fun e => hi e.symm)) d]
theorem fp_set_self {sh : List fp_C} {k : Nat} {c : fp_C} (h : sh[k]? = some c) : sh.set k c = sh := by
  refine List.ext_getElem? fun i => ?_
  rw [List.getElem?_set]
  by_cases hi : k = i
  · subst hi
    have hk : k < sh.length := (List.getElem?_eq_some_iff.mp h).1
    simp [hk]
    exact (Option.some.inj (h.symm.trans (List.getElem?_eq_getElem hk))).symm ▸ rfl
  · rw [if_neg hi]
/-- a cell more -/
theorem fp_w_push {X : fp_X} {cs : Nat → ClassId} {base : Nat} {sh : List fp_C} {M M' : fp_M} {c : fp_C} (ha : X.2.2 sh.length = sh.length) (hM : ∀ q, q ≠ sh.length → M' q = M q) : fp_w X cs base sh M ++ [(base + sh.length, fp_e X cs base M' sh.length c)] = fp_w X cs base (sh ++ [c]) M' := by
  refine List.ext_getElem? fun i => ?_
  rw [fp_w_at]
  by_cases hi : i < sh.length
  · rw [List.getElem?_append_left (by rw [fp_w_len]; exact hi), List.getElem?_append_left hi, fp_w_at]
    cases hc : sh[i]? with
    | none => rfl
    | some d =>
      show some (fp_ad X base i, fp_e X cs base M i d) = some (fp_ad X base i, fp_e X cs base M' i d)
      rw [fp_e_eq (hM i (Nat.ne_of_lt hi)) d]
  · rw [List.getElem?_append_right (by rw [fp_w_len]; omega), List.getElem?_append_right (by omega), fp_w_len]
    by_cases he : i = sh.length
    · subst he
      have ea : fp_ad X base sh.length = base + sh.length := by
        unfold fp_ad
        rw [ha]
      simp [ea]
    · have h1 : i - sh.length ≠ 0 := by omega
      obtain ⟨n, hn⟩ := Nat.exists_eq_succ_of_ne_zero h1
      rw [hn]
      rfl
/-- the value that a place stands for -/
def fp_v (cv : Nat → Value) (v : Value) : Value := match v with
  | .ref k => cv k
  | w => w
abbrev fp_tys (cs : Nat → ClassId) : List (ClassId × FieldType) := [(cs 0, .int), (cs 1, .object RX1), (cs 2, .object RX3)]
/-- the String constants: their classes, entries and texts -/
def fp_so (i : Nat) : String := if i < 7 then RX1 else RX4
def fp_si : List Nat := [42, 30, 32, 34, 36, 38, 40, 35, 41, 85, 91, 95]
def fp_st : List String := ["letter", "hasty", "sealed", "forged", "copied", "card", "late", "slip", "frost", "days", "mark", "struck"]
def fp_sb : List (List Int32) := [[108, 101, 116, 116, 101, 114], [104, 97, 115, 116, 121], [115, 101, 97, 108, 101, 100], [102, 111, 114, 103, 101, 100], [99, 111, 112, 105, 101, 100], [99, 97, 114, 100], [108, 97, 116, 101], [115, 108, 105, 112], [102, 114, 111, 115, 116], [100, 97, 121, 115], [109, 97, 114, 107], [115, 116, 114, 117, 99, 107]]
def fp_sl : List Nat := [6, 5, 6, 6, 6, 4, 4, 4, 5, 4, 4, 6]
/-- what is never written: the String constants, two statics, the script; and what the tables say that isn't a word for callees -/
def fp_R (X : fp_X) (cv : Nat → Value) (A : Nat → Prop) (U : State) (H : Heap) : Prop :=
  va_Z RJ0 "COMPACT_STRINGS" "Z" (.int 1) A U H ∧ va_Z RJ3 "SIOOBE_FORMATTER" "Ljava/util/function/BiFunction;" (cv 140) A U H ∧
  (∃ adK adV : Nat → Nat, vk_S 12 fp_sl fp_sb adK adV A U H ∧ (∀ i, i < 12 → cv (100 + i) = .ref (adK i) ∧ cv (120 + i) = .ref (adV i)) ∧ ∀ i, i < 12 → vk_R (fp_so i) (fp_si.getD i 0) (fp_st.getD i "") (adK i) U) ∧
  (∃ b : Nat, cv 150 = .ref b ∧ b < H.size ∧ va_X b X.1 X.2.1 U H ∧ ¬ A b) ∧ (∀ q ∈ fp_nest, va_Nw (.methodLinkNest q.1 q.2.1 q.2.2 "FarPost") U) ∧ va_AO RX1 U ∧ va_AO RX3 U
theorem fp_R.to {X : fp_X} {cv : Nat → Value} {A A1 : Nat → Prop} {s U : State} {locs : List Loc} {H : Heap} (h : fp_R X cv A s s.heap) (hS : va_S A s.heap H locs) (hW : s.WarmedH U.vm) (hA : ∀ q, q < H.size → A1 q → A q) : fp_R X cv A1 U H := by
  obtain ⟨h1, h2, ⟨adK, adV, h3, h4, h5⟩, ⟨b, h6, h7, h8, h9⟩, h10, h11, h12⟩ := h
  have hk : ∀ a : Nat, a < s.heap.size → ¬ A a → H[a]? = s.heap[a]? := hS.2.1
  have nz : ∀ {C n d : String} {v : Value}, va_Z C n d v A s s.heap → va_Z C n d v A1 U H := by
    intro C n d v hz
    obtain ⟨cf, kf, fi, f, a, cell, z1, z2, z3, z4, z5, z6, z7, z8⟩ := (hz.kept hk).moved hW.alike
    exact ⟨cf, kf, fi, f, a, cell, z1, z2, z3, z4, z5, z6, z7, fun z => z8 (hA a (Array.getElem?_eq_some_iff.mp z5).1 z)⟩
  have no : ∀ {E : String} {t : Nat}, va_O E t A s s.heap → va_O E t A1 U H := by
    intro E t hz
    obtain ⟨cell, z1, z2, z3, z4⟩ := (hz.kept hk).moved hW.alike
    exact ⟨cell, z1, z2, z3, fun z => z4 (hA t (Array.getElem?_eq_some_iff.mp z1).1 z)⟩
  have nf : ∀ {o n d : String} {v : Value} {t : Nat}, va_OF o n d v t A s s.heap → va_OF o n d v t A1 U H := by
    intro o n d v t hz
    obtain ⟨cf, k, i, f, cell, z1, z2, z3, z4, z5, z6⟩ := (hz.kept hk).moved hW.alike
    exact ⟨cf, k, i, f, cell, z1, z2, z3, z4, z5, fun z => z6 (hA t (Array.getElem?_eq_some_iff.mp z3).1 z)⟩
  have nt : ∀ {ty : FieldType} {t N : Nat} {f : Nat → Value}, va_T ty t N f A s s.heap → va_T ty t N f A1 U H := by
    intro ty t N f hz
    obtain ⟨cell, z1, z2, z3, z4, z5, z6, z7⟩ := (hz.kept hk).moved hW.alike
    exact ⟨cell, z1, z2, z3, z4, z5, z6, fun z => z7 (hA t (Array.getElem?_eq_some_iff.mp z1).1 z)⟩
  refine ⟨nz h1, nz h2, ⟨adK, adV, ⟨fun i hi => ?_, h3.2⟩, h4, fun i hi => (h5 i hi).warm hW⟩, ⟨b, h6, Nat.lt_of_lt_of_le h7 hS.1, ?_, fun z => h9 (hA b (Nat.lt_of_lt_of_le h7 hS.1) z)⟩, fun q hq => (h10 q hq).warmM hW, h11.moved hW.alike, h12.moved hW.alike⟩
  · obtain ⟨g1, g2, g3, g4⟩ := h3.1 i hi
    exact ⟨no g1, nf g2, nf g3, nt g4⟩
  · exact (h8.kept (hk b h7 h9)).moved hW.alike
theorem fp_R.calling {X : fp_X} {cv : Nat → Value} {A : Nat → Prop} {U V : State} {H : Heap} (hv : V.vm = U.vm) (h : fp_R X cv A U H) : fp_R X cv A V H := by
  have hal : U.vm.Alike V.vm := by rw [hv]; exact Vm.Alike.refl U.vm
  obtain ⟨h1, h2, ⟨adK, adV, h3, h4, h5⟩, ⟨b, h6, h7, h8, h9⟩, h10, h11, h12⟩ := h
  exact ⟨h1.moved hal, h2.moved hal, ⟨adK, adV, h3.moved hal, h4, fun i hi => (h5 i hi).same hv⟩, ⟨b, h6, h7, h8.moved hal, h9⟩, fun q hq => (h10 q hq).same rfl hv.symm, h11.moved hal, h12.moved hal⟩
/-- a frame of method μ -/
def fp_F (X : fp_X) (μ : fp_Y) (p : Program) (s : State) (m : MethodId) (args : Array Value) (meth : Method) (c : Code) (D : va_G) (cs : Nat → ClassId) (cv : Nat → Value) (base : Nat) (A : Nat → Prop) : Prop :=
  p.tables.exec = Jvm.exec ∧ c.code = μ.2.1 ∧ meth.sig.returnType = μ.2.2.2.1 ∧ c.maxLocals = μ.2.2.1 ∧ s.vm.findClass μ.1.cls = some m.cls ∧ (∀ w ∈ fp_tbl, w.before args s = true) ∧ meth.locks = false ∧ (μ.1.name = "<init>" → meth.name = "<init>") ∧ va_K D vwCl (fp_tys cs) s ∧ (∀ q, s.heap.size ≤ q → A q) ∧ ((∀ k, k < 100 → cv k = .ref (fp_ad X base k)) ∧ ∀ k, (cv k).category = 1) ∧ fp_R X cv A s s.heap
/-- the heap holds the cells -/
def fp_H (X : fp_X) (D : va_G) (cs : Nat → ClassId) (base : Nat) (A : Nat → Prop) (s : State) (sh : List fp_C) (M : fp_M) (H : Heap) (locs : List Loc) : Prop :=
  va_P D vwCl (fp_w X cs base sh M) H ∧ va_D A (fp_w X cs base sh M) ∧ va_S A s.heap H locs ∧ H.size = base + sh.length ∧ sh.length ≤ 100
def fp_L (cv : Nat → Value) (lsA : Array Slot) (nL : Nat) (ls : List (Option Value)) : Prop :=
  lsA.size = nL ∧ lv_wf lsA ∧ ls.length = nL ∧ ∀ (i : Nat) (v : Value), ls[i]? = some (some v) → lsA[i]? = some (.val (fp_v cv v))
/-- which instruction gives which answer -/
def fp_rt (ty : Option FieldType) (ins : Instr) (r : Option Value) : Prop :=
  (ins = .ireturn ∧ ∃ (v : Int32) (t : FieldType), ty = some t ∧ narrow t (.int v) = .int v ∧ r = some (.int v)) ∨ (ins = .lreturn ∧ ty = some .long ∧ ∃ v : Int64, r = some (.long v)) ∨ (ins = .areturn ∧ ∃ (k : Nat) (t : String), ty = some (.object t) ∧ 100 ≤ k ∧ k < 112 ∧ r = some (.ref k)) ∨ (ins = .return_ ∧ ty = none ∧ r = none)
/-- THE JUDGEMENT: method μ at pc, with these locals, stack and cells, comes to an end with Post -/
def fp_W (X : fp_X) (μ : fp_Y) (pc : Nat) (ls : List (Option Value)) (st : List Value) (sh : List fp_C) (M : fp_M) (nc ns : Nat) (Post : fp_Q) : Prop :=
  ∀ (p : Program) (l : Launch) (e : Env) (s : State) (m : MethodId) (args : Array Value) (below : List Frame) (meth : Method) (c : Code) (D : va_G) (cs : Nat → ClassId) (cv : Nat → Value) (base : Nat) (A : Nat → Prop) (Q : State → Prop) (H : Heap) (locs : List Loc) (lsA : Array Slot),
    fp_F X μ p s m args meth c D cs cv base A → fp_H X D cs base A s sh M H locs → fp_L cv lsA μ.2.2.1 ls → (nc ≤ μ.2.2.2.2.cells ∧ ns ≤ μ.2.2.2.2.slots) →
    (∀ (ins : Instr) (r : Option Value) (pc' : Nat) (lsA' : Array Slot) (sh' : List fp_C) (M' : fp_M) (H' : Heap) (locs' : List Loc) (nc' ns' : Nat), decode μ.2.1 pc' = .ok (ins, 1) → fp_rt μ.2.2.2.1 ins r → (nc' ≤ μ.2.2.2.2.cells ∧ ns' ≤ μ.2.2.2.2.slots) → Post r sh' M' → fp_H X D cs base A s sh' M' H' locs' → W p l e μ.2.2.2.2 s m args below meth c H' locs' nc' ns' Q (F0 m pc' lsA' (r.toList.map (fp_v cv)))) →
    W p l e μ.2.2.2.2 s m args below meth c H locs nc ns Q (F0 m pc lsA (st.map (fp_v cv)))
/-- a method's contract: what must hold ahead of it, and behind it -/
def fp_Pc (X : fp_X) (D : va_G) (cs : Nat → ClassId) (cv : Nat → Value) (base : Nat) (av : List Value) (sh : List fp_C) (M : fp_M) : Array Value → State → Prop := fun v U =>
  v = (av.map (fp_v cv)).toArray ∧ U.heap.size = base + sh.length ∧ sh.length ≤ 100 ∧ va_P D vwCl (fp_w X cs base sh M) U.heap ∧ va_K D vwCl (fp_tys cs) U ∧ va_D (fun _ => True) (fp_w X cs base sh M) ∧ fp_R X cv (va_A (fp_w X cs base sh M) (base + sh.length)) U U.heap ∧ (∀ k, k < 100 → cv k = .ref (fp_ad X base k)) ∧ ∀ k, (cv k).category = 1
def fp_Qc (X : fp_X) (D : va_G) (cs : Nat → ClassId) (cv : Nat → Value) (base : Nat) (Post : fp_Q) (A : Nat → Prop) : Array Value → State → Outcome → State → Prop := fun _ st oc t =>
  (∃ (r : Option Value) (sh' : List fp_C) (M' : fp_M), oc = .returned (r.map (fp_v cv)) ∧ Post r sh' M' ∧ t.heap.size = base + sh'.length ∧ sh'.length ≤ 100 ∧ va_P D vwCl (fp_w X cs base sh' M') t.heap ∧ va_D A (fp_w X cs base sh' M')) ∧ va_F A st t
abbrev fp_ws (μ : fp_Y) : List Cond := Cond.code μ.1 μ.2.1 μ.2.2.1 μ.2.2.2.1 :: fp_tbl
def fp_Ok (X : fp_X) (μ : fp_Y) (av : List Value) (sh : List fp_C) (M : fp_M) (Post : fp_Q) : Prop :=
  ∀ (l : Launch) (D : va_G) (cs : Nat → ClassId) (cv : Nat → Value) (base : Nat), Met l μ.1 (fp_ws μ) μ.2.2.2.2 (fp_Pc X D cs cv base av sh M) (fp_Qc X D cs cv base Post (va_A (fp_w X cs base sh M) (base + sh.length))) μ.2.2.2.2.cells μ.2.2.2.2.slots (va_A (fp_w X cs base sh M) (base + sh.length))
/-- the locals at a method's entry -/
def fp_ent : List Value → List (Option Value)
  | [] => []
  | v :: t => if v.category = 2 then some v :: none :: fp_ent t else some v :: fp_ent t
theorem fp_cat (cv : Nat → Value) (hc : ∀ k, (cv k).category = 1) (v : Value) : (fp_v cv v).category = v.category := by
  cases v <;> first | rfl | exact hc _
