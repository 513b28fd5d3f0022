/-! ===== rows of the calculus, one an instruction ===== -/
theorem fp_e0 : Int32.ofInt 0 = 0 := by decide
/-- the locals behind a store -/
def fp_nl : Option Value → Bool
  | some (.long _) => false
  | some (.double _) => false
  | _ => true
theorem fp_nl_cat {v : Value} (h : fp_nl (some v) = true) : v.category = 1 := by
  cases v <;> first | rfl | cases h
/-- the listed locals, as the kit has them -/
def fp_lst (cv : Nat → Value) (ls : List (Option Value)) : List (Nat × Value) := ls.zipIdx.filterMap (fun q => q.1.map (fun v => (q.2, fp_v cv v)))
theorem fp_lst_mem {cv : Nat → Value} {ls : List (Option Value)} {q : Nat × Value} : q ∈ fp_lst cv ls ↔ ∃ v, ls[q.1]? = some (some v) ∧ q.2 = fp_v cv v := by
  unfold fp_lst
  rw [List.mem_filterMap]
  constructor
  · rintro ⟨⟨a, i⟩, h1, h2⟩
    have h3 := List.mem_zipIdx_iff_getElem?.mp h1
    cases a with
    | none => cases h2
    | some v =>
      have h4 : (i, fp_v cv v) = q := Option.some.inj h2
      subst h4
      exact ⟨v, h3, rfl⟩
  · rintro ⟨v, h1, h2⟩
    refine ⟨(some v, q.1), List.mem_zipIdx_iff_getElem?.mpr h1, ?_⟩
    show some (q.1, fp_v cv v) = some q
    rw [← h2]
theorem fp_L.has {cv : Nat → Value} {lsA : Array Slot} {nL : Nat} {ls : List (Option Value)} (h : fp_L cv lsA nL ls) : lv_has lsA nL (fp_lst cv ls) := by
  refine ⟨h.1, h.2.1, fun q hq => ?_⟩
  obtain ⟨v, h1, h2⟩ := fp_lst_mem.mp hq
  rw [h2]
  exact h.2.2.2 _ _ h1
/-- a store of one slot, at place i: the place ahead holds no long -/
theorem fp_L.store {cv : Nat → Value} (hc : ∀ k, (cv k).category = 1) {lsA ls' : Array Slot} {nL i : Nat} {ls : List (Option Value)} {v : Value} (h : fp_L cv lsA nL ls) (hp : ∀ j w, i = j + 1 → ls[j]? = some w → fp_nl w = true) (h' : lv_has ls' nL ((i, fp_v cv v) :: (fp_lst cv ls).filter (fun q => !(q.1 == i) && !(q.1 + 1 == i && q.2.category == 2)))) : fp_L cv ls' nL (ls.set i (some v)) := by
  refine ⟨h'.1, h'.2.1, by rw [List.length_set]; exact h.2.2.1, fun j w hw => ?_⟩
  rw [List.getElem?_set] at hw
  by_cases hij : i = j
  · subst hij
    rw [if_pos rfl] at hw
    by_cases hlt : i < ls.length
    · rw [if_pos hlt] at hw
      have e : v = w := Option.some.inj (Option.some.inj hw)
      subst e
      exact h'.2.2 (i, fp_v cv v) List.mem_cons_self
    · rw [if_neg hlt] at hw; cases hw
  · rw [if_neg hij] at hw
    refine h'.2.2 (j, fp_v cv w) (List.mem_cons_of_mem _ (List.mem_filter.mpr ⟨fp_lst_mem.mpr ⟨w, hw, rfl⟩, ?_⟩))
    have e1 : (j == i) = false := by rw [beq_eq_false_iff_ne]; exact fun e => hij e.symm
    rw [e1]
    show (!(j + 1 == i && (fp_v cv w).category == 2)) = true
    by_cases hji : j + 1 = i
    · have := fp_nl_cat (hp j (some w) hji.symm hw)
      rw [fp_cat cv hc, this]
      simp
    · simp [hji]
theorem fp_L.store2 {cv : Nat → Value} (hc : ∀ k, (cv k).category = 1) {lsA ls' : Array Slot} {nL i : Nat} {ls : List (Option Value)} {v : Int64} (h : fp_L cv lsA nL ls) (hp : ∀ j w, i = j + 1 → ls[j]? = some w → fp_nl w = true) (h' : lv_has ls' nL ((i, .long v) :: (fp_lst cv ls).filter (fun q => !(q.1 == i) && (!(q.1 == i + 1) && !(q.1 + 1 == i && q.2.category == 2))))) : fp_L cv ls' nL ((ls.set i (some (.long v))).set (i + 1) none) := by
  refine ⟨h'.1, h'.2.1, by rw [List.length_set, List.length_set]; exact h.2.2.1, fun j w hw => ?_⟩
  rw [List.getElem?_set, List.getElem?_set, List.length_set] at hw
  by_cases hij1 : i + 1 = j
  · rw [if_pos hij1] at hw
    by_cases hlt : i + 1 < ls.length
    · rw [if_pos hlt] at hw; cases hw
    · rw [if_neg hlt] at hw; cases hw
  · rw [if_neg hij1] at hw
    by_cases hij : i = j
    · subst hij
      rw [if_pos rfl] at hw
      by_cases hlt : i < ls.length
      · rw [if_pos hlt] at hw
        have e : Value.long v = w := Option.some.inj (Option.some.inj hw)
        subst e
        exact h'.2.2 (i, .long v) List.mem_cons_self
      · rw [if_neg hlt] at hw; cases hw
    · rw [if_neg hij] at hw
      refine h'.2.2 (j, fp_v cv w) (List.mem_cons_of_mem _ (List.mem_filter.mpr ⟨fp_lst_mem.mpr ⟨w, hw, rfl⟩, ?_⟩))
      have e1 : (j == i) = false := by rw [beq_eq_false_iff_ne]; exact fun e => hij e.symm
      have e2 : (j == i + 1) = false := by rw [beq_eq_false_iff_ne]; exact fun e => hij1 e.symm
      rw [e1, e2]
      show (!(j + 1 == i && (fp_v cv w).category == 2)) = true
      by_cases hji : j + 1 = i
      · have := fp_nl_cat (hp j (some w) hji.symm hw)
        rw [fp_cat cv hc, this]
        simp
      · simp [hji]
theorem fp_hp {ls : List (Option Value)} {i n : Nat} {a : Option Value} (hn : i = n + 1) (h : ls[n]? = some a) (ha : fp_nl a = true) : ∀ j w, i = j + 1 → ls[j]? = some w → fp_nl w = true := by
  intro j w e h2
  have e1 : j = n := by omega
  subst e1
  have e2 : a = w := Option.some.inj (h.symm.trans h2)
  rw [← e2]
  exact ha
section FPR
variable {X : fp_X} {μ : fp_Y} {pc : Nat} {ls : List (Option Value)} {st : List Value} {sh : List fp_C} {M : fp_M} {nc ns : Nat} {Post : fp_Q}
theorem r_iadd {x y : Int32} (hd : decode μ.2.1 pc = .ok (.iadd, 1))  (k : fp_W X μ (pc + 1) ls (.int (x + y) :: st) sh M nc ns Post) : fp_W X μ pc ls (.int y :: .int x :: st) sh M nc ns Post := by
  intro p l e s m args below meth c D cs cv base A Q H locs lsA hF hH hL hN hret
  exact lv_iadd hF.1 hF.2.1 hd  (k p l e s m args below meth c D cs cv base A Q H locs lsA hF hH hL hN hret)
theorem r_isub {x y : Int32} (hd : decode μ.2.1 pc = .ok (.isub, 1))  (k : fp_W X μ (pc + 1) ls (.int (x - y) :: st) sh M nc ns Post) : fp_W X μ pc ls (.int y :: .int x :: st) sh M nc ns Post := by
  intro p l e s m args below meth c D cs cv base A Q H locs lsA hF hH hL hN hret
  exact lv_isub hF.1 hF.2.1 hd  (k p l e s m args below meth c D cs cv base A Q H locs lsA hF hH hL hN hret)
theorem r_imul {x y : Int32} (hd : decode μ.2.1 pc = .ok (.imul, 1))  (k : fp_W X μ (pc + 1) ls (.int (x * y) :: st) sh M nc ns Post) : fp_W X μ pc ls (.int y :: .int x :: st) sh M nc ns Post := by
  intro p l e s m args below meth c D cs cv base A Q H locs lsA hF hH hL hN hret
  exact lv_imul hF.1 hF.2.1 hd  (k p l e s m args below meth c D cs cv base A Q H locs lsA hF hH hL hN hret)
theorem r_iand {x y : Int32} (hd : decode μ.2.1 pc = .ok (.iand, 1))  (k : fp_W X μ (pc + 1) ls (.int (x &&& y) :: st) sh M nc ns Post) : fp_W X μ pc ls (.int y :: .int x :: st) sh M nc ns Post := by
  intro p l e s m args below meth c D cs cv base A Q H locs lsA hF hH hL hN hret
  exact lv_iand hF.1 hF.2.1 hd  (k p l e s m args below meth c D cs cv base A Q H locs lsA hF hH hL hN hret)
theorem r_ior {x y : Int32} (hd : decode μ.2.1 pc = .ok (.ior, 1))  (k : fp_W X μ (pc + 1) ls (.int (x ||| y) :: st) sh M nc ns Post) : fp_W X μ pc ls (.int y :: .int x :: st) sh M nc ns Post := by
  intro p l e s m args below meth c D cs cv base A Q H locs lsA hF hH hL hN hret
  exact lv_ior hF.1 hF.2.1 hd  (k p l e s m args below meth c D cs cv base A Q H locs lsA hF hH hL hN hret)
theorem r_ixor {x y : Int32} (hd : decode μ.2.1 pc = .ok (.ixor, 1))  (k : fp_W X μ (pc + 1) ls (.int (x ^^^ y) :: st) sh M nc ns Post) : fp_W X μ pc ls (.int y :: .int x :: st) sh M nc ns Post := by
  intro p l e s m args below meth c D cs cv base A Q H locs lsA hF hH hL hN hret
  exact lv_ixor hF.1 hF.2.1 hd  (k p l e s m args below meth c D cs cv base A Q H locs lsA hF hH hL hN hret)
theorem r_ishl {x y : Int32} (hd : decode μ.2.1 pc = .ok (.ishl, 1))  (k : fp_W X μ (pc + 1) ls (.int (x <<< (y &&& 31)) :: st) sh M nc ns Post) : fp_W X μ pc ls (.int y :: .int x :: st) sh M nc ns Post := by
  intro p l e s m args below meth c D cs cv base A Q H locs lsA hF hH hL hN hret
  exact lv_ishl hF.1 hF.2.1 hd  (k p l e s m args below meth c D cs cv base A Q H locs lsA hF hH hL hN hret)
theorem r_ishr {x y : Int32} (hd : decode μ.2.1 pc = .ok (.ishr, 1))  (k : fp_W X μ (pc + 1) ls (.int (x >>> (y &&& 31)) :: st) sh M nc ns Post) : fp_W X μ pc ls (.int y :: .int x :: st) sh M nc ns Post := by
  intro p l e s m args below meth c D cs cv base A Q H locs lsA hF hH hL hN hret
  exact lv_ishr hF.1 hF.2.1 hd  (k p l e s m args below meth c D cs cv base A Q H locs lsA hF hH hL hN hret)
theorem r_idiv {x y : Int32} (hd : decode μ.2.1 pc = .ok (.idiv, 1)) (hne : ¬ y = 0) (k : fp_W X μ (pc + 1) ls (.int (x / y) :: st) sh M nc ns Post) : fp_W X μ pc ls (.int y :: .int x :: st) sh M nc ns Post := by
  intro p l e s m args below meth c D cs cv base A Q H locs lsA hF hH hL hN hret
  exact lv_idiv hF.1 hF.2.1 hd hne (k p l e s m args below meth c D cs cv base A Q H locs lsA hF hH hL hN hret)
theorem r_irem {x y : Int32} (hd : decode μ.2.1 pc = .ok (.irem, 1)) (hne : ¬ y = 0) (k : fp_W X μ (pc + 1) ls (.int (x - x / y * y) :: st) sh M nc ns Post) : fp_W X μ pc ls (.int y :: .int x :: st) sh M nc ns Post := by
  intro p l e s m args below meth c D cs cv base A Q H locs lsA hF hH hL hN hret
  exact lv_irem hF.1 hF.2.1 hd hne (k p l e s m args below meth c D cs cv base A Q H locs lsA hF hH hL hN hret)
theorem r_iushr {x y : Int32} (hd : decode μ.2.1 pc = .ok (.iushr, 1))  (k : fp_W X μ (pc + 1) ls (.int (x.toUInt32 >>> (y.toUInt32 &&& Int32.toUInt32 31)).toInt32 :: st) sh M nc ns Post) : fp_W X μ pc ls (.int y :: .int x :: st) sh M nc ns Post := by
  intro p l e s m args below meth c D cs cv base A Q H locs lsA hF hH hL hN hret
  exact lv_iushr hF.1 hF.2.1 hd rfl (k p l e s m args below meth c D cs cv base A Q H locs lsA hF hH hL hN hret)
theorem r_ineg {x : Int32} (hd : decode μ.2.1 pc = .ok (.ineg, 1))  (k : fp_W X μ (pc + 1) ls (.int (-x) :: st) sh M nc ns Post) : fp_W X μ pc ls (.int x :: st) sh M nc ns Post := by
  intro p l e s m args below meth c D cs cv base A Q H locs lsA hF hH hL hN hret
  exact lv_ineg hF.1 hF.2.1 hd  (k p l e s m args below meth c D cs cv base A Q H locs lsA hF hH hL hN hret)
theorem r_ladd {x y : Int64} (hd : decode μ.2.1 pc = .ok (.ladd, 1))  (k : fp_W X μ (pc + 1) ls (.long (x + y) :: st) sh M nc ns Post) : fp_W X μ pc ls (.long y :: .long x :: st) sh M nc ns Post := by
  intro p l e s m args below meth c D cs cv base A Q H locs lsA hF hH hL hN hret
  exact lv_ladd hF.1 hF.2.1 hd  (k p l e s m args below meth c D cs cv base A Q H locs lsA hF hH hL hN hret)
theorem r_lsub {x y : Int64} (hd : decode μ.2.1 pc = .ok (.lsub, 1))  (k : fp_W X μ (pc + 1) ls (.long (x - y) :: st) sh M nc ns Post) : fp_W X μ pc ls (.long y :: .long x :: st) sh M nc ns Post := by
  intro p l e s m args below meth c D cs cv base A Q H locs lsA hF hH hL hN hret
  exact lv_lsub hF.1 hF.2.1 hd  (k p l e s m args below meth c D cs cv base A Q H locs lsA hF hH hL hN hret)
theorem r_lmul {x y : Int64} (hd : decode μ.2.1 pc = .ok (.lmul, 1))  (k : fp_W X μ (pc + 1) ls (.long (x * y) :: st) sh M nc ns Post) : fp_W X μ pc ls (.long y :: .long x :: st) sh M nc ns Post := by
  intro p l e s m args below meth c D cs cv base A Q H locs lsA hF hH hL hN hret
  exact lv_lmul hF.1 hF.2.1 hd  (k p l e s m args below meth c D cs cv base A Q H locs lsA hF hH hL hN hret)
theorem r_ldiv {x y : Int64} (hd : decode μ.2.1 pc = .ok (.ldiv, 1)) (hne : ¬ y = 0) (k : fp_W X μ (pc + 1) ls (.long (x / y) :: st) sh M nc ns Post) : fp_W X μ pc ls (.long y :: .long x :: st) sh M nc ns Post := by
  intro p l e s m args below meth c D cs cv base A Q H locs lsA hF hH hL hN hret
  exact lv_ldiv hF.1 hF.2.1 hd hne (k p l e s m args below meth c D cs cv base A Q H locs lsA hF hH hL hN hret)
theorem r_lrem {x y : Int64} (hd : decode μ.2.1 pc = .ok (.lrem, 1)) (hne : ¬ y = 0) (k : fp_W X μ (pc + 1) ls (.long (x - x / y * y) :: st) sh M nc ns Post) : fp_W X μ pc ls (.long y :: .long x :: st) sh M nc ns Post := by
  intro p l e s m args below meth c D cs cv base A Q H locs lsA hF hH hL hN hret
  exact lv_lrem hF.1 hF.2.1 hd hne (k p l e s m args below meth c D cs cv base A Q H locs lsA hF hH hL hN hret)
theorem r_lneg {x : Int64} (hd : decode μ.2.1 pc = .ok (.lneg, 1))  (k : fp_W X μ (pc + 1) ls (.long (-x) :: st) sh M nc ns Post) : fp_W X μ pc ls (.long x :: st) sh M nc ns Post := by
  intro p l e s m args below meth c D cs cv base A Q H locs lsA hF hH hL hN hret
  exact lv_lneg hF.1 hF.2.1 hd  (k p l e s m args below meth c D cs cv base A Q H locs lsA hF hH hL hN hret)
theorem r_lcmp {x y : Int64} (hd : decode μ.2.1 pc = .ok (.lcmp, 1))  (k : fp_W X μ (pc + 1) ls (.int (lg_cmp x y) :: st) sh M nc ns Post) : fp_W X μ pc ls (.long y :: .long x :: st) sh M nc ns Post := by
  intro p l e s m args below meth c D cs cv base A Q H locs lsA hF hH hL hN hret
  exact W.lcmp hF.1 hF.2.1 hd  (k p l e s m args below meth c D cs cv base A Q H locs lsA hF hH hL hN hret)
theorem r_i2l {x : Int32} (hd : decode μ.2.1 pc = .ok (.i2l, 1))  (k : fp_W X μ (pc + 1) ls (.long x.toInt64 :: st) sh M nc ns Post) : fp_W X μ pc ls (.int x :: st) sh M nc ns Post := by
  intro p l e s m args below meth c D cs cv base A Q H locs lsA hF hH hL hN hret
  exact lv_i2l hF.1 hF.2.1 hd rfl (k p l e s m args below meth c D cs cv base A Q H locs lsA hF hH hL hN hret)
theorem r_l2i {x : Int64} (hd : decode μ.2.1 pc = .ok (.l2i, 1))  (k : fp_W X μ (pc + 1) ls (.int x.toInt32 :: st) sh M nc ns Post) : fp_W X μ pc ls (.long x :: st) sh M nc ns Post := by
  intro p l e s m args below meth c D cs cv base A Q H locs lsA hF hH hL hN hret
  exact lv_l2i hF.1 hF.2.1 hd rfl (k p l e s m args below meth c D cs cv base A Q H locs lsA hF hH hL hN hret)
theorem r_i2b {x : Int32} (hd : decode μ.2.1 pc = .ok (.i2b, 1))  (k : fp_W X μ (pc + 1) ls (.int x.toInt8.toInt32 :: st) sh M nc ns Post) : fp_W X μ pc ls (.int x :: st) sh M nc ns Post := by
  intro p l e s m args below meth c D cs cv base A Q H locs lsA hF hH hL hN hret
  exact lv_i2b hF.1 hF.2.1 hd rfl (k p l e s m args below meth c D cs cv base A Q H locs lsA hF hH hL hN hret)
theorem r_i2s {x : Int32} (hd : decode μ.2.1 pc = .ok (.i2s, 1))  (k : fp_W X μ (pc + 1) ls (.int x.toInt16.toInt32 :: st) sh M nc ns Post) : fp_W X μ pc ls (.int x :: st) sh M nc ns Post := by
  intro p l e s m args below meth c D cs cv base A Q H locs lsA hF hH hL hN hret
  exact lv_i2s hF.1 hF.2.1 hd rfl (k p l e s m args below meth c D cs cv base A Q H locs lsA hF hH hL hN hret)
theorem r_i2c {x : Int32} (hd : decode μ.2.1 pc = .ok (.i2c, 1))  (k : fp_W X μ (pc + 1) ls (.int (x.toUInt32 % 65536).toInt32 :: st) sh M nc ns Post) : fp_W X μ pc ls (.int x :: st) sh M nc ns Post := by
  intro p l e s m args below meth c D cs cv base A Q H locs lsA hF hH hL hN hret
  exact lv_i2c hF.1 hF.2.1 hd rfl (k p l e s m args below meth c D cs cv base A Q H locs lsA hF hH hL hN hret)
theorem r_iconst {i : Int} (v : Int32) (hd : decode μ.2.1 pc = .ok (.iconst i, 1)) (hv : Int32.ofInt i = v := by decide) (k : fp_W X μ (pc + 1) ls (.int v :: st) sh M nc ns Post) : fp_W X μ pc ls (st) sh M nc ns Post := by
  intro p l e s m args below meth c D cs cv base A Q H locs lsA hF hH hL hN hret
  exact lv_iconst hF.1 hF.2.1 hd hv (k p l e s m args below meth c D cs cv base A Q H locs lsA hF hH hL hN hret)
theorem r_bipush {i : Int} (v : Int32) (hd : decode μ.2.1 pc = .ok (.bipush i, 2)) (hv : (Int8.ofInt i).toInt32 = v := by decide) (k : fp_W X μ (pc + 2) ls (.int v :: st) sh M nc ns Post) : fp_W X μ pc ls (st) sh M nc ns Post := by
  intro p l e s m args below meth c D cs cv base A Q H locs lsA hF hH hL hN hret
  exact lv_bipush hF.1 hF.2.1 hd hv (k p l e s m args below meth c D cs cv base A Q H locs lsA hF hH hL hN hret)
theorem r_sipush {i : Int} (v : Int32) (hd : decode μ.2.1 pc = .ok (.sipush i, 3)) (hv : (Int16.ofInt i).toInt32 = v := by decide) (k : fp_W X μ (pc + 3) ls (.int v :: st) sh M nc ns Post) : fp_W X μ pc ls (st) sh M nc ns Post := by
  intro p l e s m args below meth c D cs cv base A Q H locs lsA hF hH hL hN hret
  exact lv_sipush hF.1 hF.2.1 hd hv (k p l e s m args below meth c D cs cv base A Q H locs lsA hF hH hL hN hret)
theorem r_lconst {i : Fin 2} (v : Int64) (hd : decode μ.2.1 pc = .ok (.lconst i, 1)) (hv : Int64.ofNat (i : Nat) = v := by decide) (k : fp_W X μ (pc + 1) ls (.long v :: st) sh M nc ns Post) : fp_W X μ pc ls (st) sh M nc ns Post := by
  intro p l e s m args below meth c D cs cv base A Q H locs lsA hF hH hL hN hret
  exact lv_lconst hF.1 hF.2.1 hd hv (k p l e s m args below meth c D cs cv base A Q H locs lsA hF hH hL hN hret)
theorem r_ldc {i : Nat} {v : Int32} (hd : decode μ.2.1 pc = .ok (.ldc i, 2)) (hw : Cond.constant μ.1.cls i v ∈ fp_tbl) (k : fp_W X μ (pc + 2) ls (.int v :: st) sh M nc ns Post) : fp_W X μ pc ls st sh M nc ns Post := by
  intro p l e s m args below meth c D cs cv base A Q H locs lsA hF hH hL hN hret
  exact lv_ldc hF.1 hF.2.1 hF.2.2.2.2.1 (hF.2.2.2.2.2.1 _ hw) hd (k p l e s m args below meth c D cs cv base A Q H locs lsA hF hH hL hN hret)
theorem r_ldcw {i : Nat} {v : Int32} (hd : decode μ.2.1 pc = .ok (.ldc_w i, 3)) (hw : Cond.constant μ.1.cls i v ∈ fp_tbl) (k : fp_W X μ (pc + 3) ls (.int v :: st) sh M nc ns Post) : fp_W X μ pc ls st sh M nc ns Post := by
  intro p l e s m args below meth c D cs cv base A Q H locs lsA hF hH hL hN hret
  exact lv_ldcw hF.1 hF.2.1 hF.2.2.2.2.1 (hF.2.2.2.2.2.1 _ hw) hd (k p l e s m args below meth c D cs cv base A Q H locs lsA hF hH hL hN hret)
theorem r_ldc2 {i : Nat} {v : Int64} (hd : decode μ.2.1 pc = .ok (.ldc2_w i, 3)) (hw : Cond.constantLong μ.1.cls i v ∈ fp_tbl) (k : fp_W X μ (pc + 3) ls (.long v :: st) sh M nc ns Post) : fp_W X μ pc ls st sh M nc ns Post := by
  intro p l e s m args below meth c D cs cv base A Q H locs lsA hF hH hL hN hret
  exact lv_ldc2 hF.1 hF.2.1 hF.2.2.2.2.1 (hF.2.2.2.2.2.1 _ hw) hd (k p l e s m args below meth c D cs cv base A Q H locs lsA hF hH hL hN hret)
theorem r_iload {i : Nat} {x : Int32} (hd : decode μ.2.1 pc = .ok (.iload i, 2)) (hl : ls[i]? = some (some (.int x))) (k : fp_W X μ (pc + 2) ls (.int x :: st) sh M nc ns Post) : fp_W X μ pc ls st sh M nc ns Post := by
  intro p l e s m args below meth c D cs cv base A Q H locs lsA hF hH hL hN hret
  exact lv_iload hF.1 hF.2.1 hd (hL.2.2.2 _ _ hl) (k p l e s m args below meth c D cs cv base A Q H locs lsA hF hH hL hN hret)
theorem r_iloadn {q : Fin 4} {x : Int32} (hd : decode μ.2.1 pc = .ok (.iload_n q, 1)) (hl : ls[(q : Nat)]? = some (some (.int x))) (k : fp_W X μ (pc + 1) ls (.int x :: st) sh M nc ns Post) : fp_W X μ pc ls st sh M nc ns Post := by
  intro p l e s m args below meth c D cs cv base A Q H locs lsA hF hH hL hN hret
  exact lv_iload_n hF.1 hF.2.1 hd rfl (hL.2.2.2 _ _ hl) (k p l e s m args below meth c D cs cv base A Q H locs lsA hF hH hL hN hret)
theorem r_lload {i : Nat} {x : Int64} (hd : decode μ.2.1 pc = .ok (.lload i, 2)) (hl : ls[i]? = some (some (.long x))) (k : fp_W X μ (pc + 2) ls (.long x :: st) sh M nc ns Post) : fp_W X μ pc ls st sh M nc ns Post := by
  intro p l e s m args below meth c D cs cv base A Q H locs lsA hF hH hL hN hret
  exact lv_lload hF.1 hF.2.1 hd (hL.2.2.2 _ _ hl) (k p l e s m args below meth c D cs cv base A Q H locs lsA hF hH hL hN hret)
theorem r_lloadn {q : Fin 4} {x : Int64} (hd : decode μ.2.1 pc = .ok (.lload_n q, 1)) (hl : ls[(q : Nat)]? = some (some (.long x))) (k : fp_W X μ (pc + 1) ls (.long x :: st) sh M nc ns Post) : fp_W X μ pc ls st sh M nc ns Post := by
  intro p l e s m args below meth c D cs cv base A Q H locs lsA hF hH hL hN hret
  exact lv_lload_n hF.1 hF.2.1 hd rfl (hL.2.2.2 _ _ hl) (k p l e s m args below meth c D cs cv base A Q H locs lsA hF hH hL hN hret)
theorem fp_isref {cv : Nat → Value} {base : Nat} {A : Nat → Prop} {s : State} {H : Heap} (hcv : ∀ k, k < 100 → cv k = .ref (fp_ad X base k)) (hR : fp_R X cv A s H) {k : Nat} (hk : k < 132 ∧ ¬ (112 ≤ k ∧ k < 120) ∨ k = 150) : ∃ a, cv k = .ref a := by
  obtain ⟨-, -, ⟨adK, adV, -, had, -⟩, ⟨b, hb, -⟩, -⟩ := hR
  by_cases h1 : k < 100
  · exact ⟨_, hcv k h1⟩
  · by_cases h2 : k < 112
    · refine ⟨adK (k - 100), ?_⟩
      have := (had (k - 100) (by omega)).1
      rwa [show 100 + (k - 100) = k by omega] at this
    · by_cases h3 : k < 132
      · refine ⟨adV (k - 120), ?_⟩
        have := (had (k - 120) (by omega)).2
        rwa [show 120 + (k - 120) = k by omega] at this
      · exact ⟨b, by rw [show k = 150 by omega]; exact hb⟩
theorem r_aload {i k : Nat} (hd : decode μ.2.1 pc = .ok (.aload i, 2)) (hl : ls[i]? = some (some (.ref k))) (hk : k < 132 ∧ ¬ (112 ≤ k ∧ k < 120) ∨ k = 150) (g : fp_W X μ (pc + 2) ls (.ref k :: st) sh M nc ns Post) : fp_W X μ pc ls st sh M nc ns Post := by
  intro p l e s m args below meth c D cs cv base A Q H locs lsA hF hH hL hN hret
  obtain ⟨a, ha⟩ := fp_isref hF.2.2.2.2.2.2.2.2.2.2.1.1 hF.2.2.2.2.2.2.2.2.2.2.2 hk
  have h1 := hL.2.2.2 _ _ hl
  have ev : fp_v cv (.ref k) = .ref a := ha
  rw [ev] at h1
  refine lv_aload hF.1 hF.2.1 hd h1 ?_
  have h2 := g p l e s m args below meth c D cs cv base A Q H locs lsA hF hH hL hN hret
  rw [List.map_cons, ev] at h2
  exact h2
theorem r_aloadn {q : Fin 4} {k : Nat} (hd : decode μ.2.1 pc = .ok (.aload_n q, 1)) (hl : ls[(q : Nat)]? = some (some (.ref k))) (hk : k < 132 ∧ ¬ (112 ≤ k ∧ k < 120) ∨ k = 150) (g : fp_W X μ (pc + 1) ls (.ref k :: st) sh M nc ns Post) : fp_W X μ pc ls st sh M nc ns Post := by
  intro p l e s m args below meth c D cs cv base A Q H locs lsA hF hH hL hN hret
  obtain ⟨a, ha⟩ := fp_isref hF.2.2.2.2.2.2.2.2.2.2.1.1 hF.2.2.2.2.2.2.2.2.2.2.2 hk
  have h1 := hL.2.2.2 _ _ hl
  have ev : fp_v cv (.ref k) = .ref a := ha
  rw [ev] at h1
  refine lv_aload_n hF.1 hF.2.1 hd rfl h1 ?_
  have h2 := g p l e s m args below meth c D cs cv base A Q H locs lsA hF hH hL hN hret
  rw [List.map_cons, ev] at h2
  exact h2
theorem r_istoreG {i : Nat} {x : Int32} (hd : decode μ.2.1 pc = .ok (.istore i, 2)) (hi : i < ls.length) (hp : ∀ j w, i = j + 1 → ls[j]? = some w → fp_nl w = true) (k : fp_W X μ (pc + 2) (ls.set i (some (.int x))) st sh M nc ns Post) : fp_W X μ pc ls (.int x :: st) sh M nc ns Post := by
  intro p l e s m args below meth c D cs cv base A Q H locs lsA hF hH hL hN hret
  exact lv_istore hF.1 hF.2.1 hd hL.has (by rw [← hL.2.2.1]; exact hi) rfl (fun ls' h' => k p l e s m args below meth c D cs cv base A Q H locs ls' hF hH (hL.store (v := .int x) hF.2.2.2.2.2.2.2.2.2.2.1.2 hp h') hN hret)
theorem r_istoreGn {q : Fin 4} {x : Int32} (hd : decode μ.2.1 pc = .ok (.istore_n q, 1)) (hi : (q : Nat) < ls.length) (hp : ∀ j w, (q : Nat) = j + 1 → ls[j]? = some w → fp_nl w = true) (k : fp_W X μ (pc + 1) (ls.set q (some (.int x))) st sh M nc ns Post) : fp_W X μ pc ls (.int x :: st) sh M nc ns Post := by
  intro p l e s m args below meth c D cs cv base A Q H locs lsA hF hH hL hN hret
  exact lv_istore_n hF.1 hF.2.1 hd rfl hL.has (by rw [← hL.2.2.1]; exact hi) rfl (fun ls' h' => k p l e s m args below meth c D cs cv base A Q H locs ls' hF hH (hL.store (v := .int x) hF.2.2.2.2.2.2.2.2.2.2.1.2 hp h') hN hret)
theorem r_lstoreG {i : Nat} {x : Int64} (hd : decode μ.2.1 pc = .ok (.lstore i, 2)) (hi : i + 1 < ls.length) (hp : ∀ j w, i = j + 1 → ls[j]? = some w → fp_nl w = true) (k : fp_W X μ (pc + 2) ((ls.set i (some (.long x))).set (i + 1) none) st sh M nc ns Post) : fp_W X μ pc ls (.long x :: st) sh M nc ns Post := by
  intro p l e s m args below meth c D cs cv base A Q H locs lsA hF hH hL hN hret
  exact lv_lstore hF.1 hF.2.1 hd hL.has (by rw [← hL.2.2.1]; exact hi) rfl (fun ls' h' => k p l e s m args below meth c D cs cv base A Q H locs ls' hF hH (hL.store2 hF.2.2.2.2.2.2.2.2.2.2.1.2 hp h') hN hret)
theorem r_lstoreGn {q : Fin 4} {x : Int64} (hd : decode μ.2.1 pc = .ok (.lstore_n q, 1)) (hi : (q : Nat) + 1 < ls.length) (hp : ∀ j w, (q : Nat) = j + 1 → ls[j]? = some w → fp_nl w = true) (k : fp_W X μ (pc + 1) ((ls.set q (some (.long x))).set ((q : Nat) + 1) none) st sh M nc ns Post) : fp_W X μ pc ls (.long x :: st) sh M nc ns Post := by
  intro p l e s m args below meth c D cs cv base A Q H locs lsA hF hH hL hN hret
  exact lv_lstore_n hF.1 hF.2.1 hd rfl hL.has (by rw [← hL.2.2.1]; exact hi) rfl (fun ls' h' => k p l e s m args below meth c D cs cv base A Q H locs ls' hF hH (hL.store2 hF.2.2.2.2.2.2.2.2.2.2.1.2 hp h') hN hret)
theorem r_astoreG {i r : Nat} (hd : decode μ.2.1 pc = .ok (.astore i, 2)) (hi : i < ls.length) (hp : ∀ j w, i = j + 1 → ls[j]? = some w → fp_nl w = true) (hk : r < 132 ∧ ¬ (112 ≤ r ∧ r < 120) ∨ r = 150) (k : fp_W X μ (pc + 2) (ls.set i (some (.ref r))) st sh M nc ns Post) : fp_W X μ pc ls (.ref r :: st) sh M nc ns Post := by
  intro p l e s m args below meth c D cs cv base A Q H locs lsA hF hH hL hN hret
  obtain ⟨a, ha⟩ := fp_isref hF.2.2.2.2.2.2.2.2.2.2.1.1 hF.2.2.2.2.2.2.2.2.2.2.2 hk
  have ev : fp_v cv (.ref r) = .ref a := ha
  rw [List.map_cons, ev]
  exact lv_astore hF.1 hF.2.1 hd hL.has (by rw [← hL.2.2.1]; exact hi) rfl (fun ls' h' => k p l e s m args below meth c D cs cv base A Q H locs ls' hF hH (hL.store (v := .ref r) hF.2.2.2.2.2.2.2.2.2.2.1.2 hp (by rw [ev]; exact h')) hN hret)
theorem r_astoreGn {q : Fin 4} {r : Nat} (hd : decode μ.2.1 pc = .ok (.astore_n q, 1)) (hi : (q : Nat) < ls.length) (hp : ∀ j w, (q : Nat) = j + 1 → ls[j]? = some w → fp_nl w = true) (hk : r < 132 ∧ ¬ (112 ≤ r ∧ r < 120) ∨ r = 150) (k : fp_W X μ (pc + 1) (ls.set (q : Nat) (some (.ref r))) st sh M nc ns Post) : fp_W X μ pc ls (.ref r :: st) sh M nc ns Post := by
  intro p l e s m args below meth c D cs cv base A Q H locs lsA hF hH hL hN hret
  obtain ⟨a, ha⟩ := fp_isref hF.2.2.2.2.2.2.2.2.2.2.1.1 hF.2.2.2.2.2.2.2.2.2.2.2 hk
  have ev : fp_v cv (.ref r) = .ref a := ha
  rw [List.map_cons, ev]
  exact lv_astore_n hF.1 hF.2.1 hd rfl hL.has (by rw [← hL.2.2.1]; exact hi) rfl (fun ls' h' => k p l e s m args below meth c D cs cv base A Q H locs ls' hF hH (hL.store (v := .ref r) hF.2.2.2.2.2.2.2.2.2.2.1.2 hp (by rw [ev]; exact h')) hN hret)
theorem r_iincG {i : Nat} {n : Int} {x v : Int32} (hd : decode μ.2.1 pc = .ok (.iinc i n, 3)) (hl : ls[i]? = some (some (.int x))) (hv : x + Int32.ofInt n = v) (hp : ∀ j w, i = j + 1 → ls[j]? = some w → fp_nl w = true) (k : fp_W X μ (pc + 3) (ls.set i (some (.int v))) st sh M nc ns Post) : fp_W X μ pc ls st sh M nc ns Post := by
  intro p l e s m args below meth c D cs cv base A Q H locs lsA hF hH hL hN hret
  have hm : (i, Value.int x) ∈ fp_lst cv ls := fp_lst_mem.mpr ⟨.int x, hl, rfl⟩
  obtain ⟨j, hj⟩ := List.getElem?_of_mem hm
  exact lv_iinc hF.1 hF.2.1 hd hL.has hj hv (by rw [← hL.2.2.1]; exact (List.getElem?_eq_some_iff.mp hl).1) rfl (fun ls' h' => k p l e s m args below meth c D cs cv base A Q H locs ls' hF hH (hL.store (v := .int v) hF.2.2.2.2.2.2.2.2.2.2.1.2 hp h') hN hret)
theorem r_istore0 {z : Option Value} {t : List (Option Value)} {x : Int32} (hd : decode μ.2.1 pc = .ok (.istore_n 0, 1)) (k : fp_W X μ (pc + 1) (some (.int x) :: t) st sh M nc ns Post) : fp_W X μ pc (z :: t) (.int x :: st) sh M nc ns Post := r_istoreGn hd (by show 0 < _; simp; try omega) (fun j w e h => absurd e (by omega))  k
theorem r_astore0 {z : Option Value} {t : List (Option Value)} {r : Nat} (hd : decode μ.2.1 pc = .ok (.astore_n 0, 1)) (hk : r < 132 ∧ ¬ (112 ≤ r ∧ r < 120) ∨ r = 150) (k : fp_W X μ (pc + 1) (some (.ref r) :: t) st sh M nc ns Post) : fp_W X μ pc (z :: t) (.ref r :: st) sh M nc ns Post := r_astoreGn hd (by show 0 < _; simp; try omega) (fun j w e h => absurd e (by omega)) hk k
theorem r_lstore0 {z z' : Option Value} {t : List (Option Value)} {x : Int64} (hd : decode μ.2.1 pc = .ok (.lstore_n 0, 1)) (k : fp_W X μ (pc + 1) (some (.long x) :: none :: t) st sh M nc ns Post) : fp_W X μ pc (z :: z' :: t) (.long x :: st) sh M nc ns Post := r_lstoreGn hd (by show 0 + 1 < _; simp; try omega) (fun j w e h => absurd e (by omega)) k
theorem r_iinc0 {t : List (Option Value)} {x : Int32} {i : Int} (d : Int32) (hd : decode μ.2.1 pc = .ok (.iinc 0 i, 3)) (k : fp_W X μ (pc + 3) (some (.int (x + d)) :: t) st sh M nc ns Post) (hv : Int32.ofInt i = d := by decide) : fp_W X μ pc (some (.int x) :: t) st sh M nc ns Post := r_iincG hd rfl (by rw [hv]) (fun j w e h => absurd e (by omega)) k
theorem r_istore1 {a0 : Option Value} {z : Option Value} {t : List (Option Value)} {x : Int32} (hd : decode μ.2.1 pc = .ok (.istore_n 1, 1)) (k : fp_W X μ (pc + 1) (a0 :: some (.int x) :: t) st sh M nc ns Post) (ha : fp_nl a0 = true := by rfl) : fp_W X μ pc (a0 :: z :: t) (.int x :: st) sh M nc ns Post := r_istoreGn hd (by show 1 < _; simp; try omega) (fp_hp (n := 0) (a := a0) rfl rfl ha)  k
theorem r_astore1 {a0 : Option Value} {z : Option Value} {t : List (Option Value)} {r : Nat} (hd : decode μ.2.1 pc = .ok (.astore_n 1, 1)) (hk : r < 132 ∧ ¬ (112 ≤ r ∧ r < 120) ∨ r = 150) (k : fp_W X μ (pc + 1) (a0 :: some (.ref r) :: t) st sh M nc ns Post) (ha : fp_nl a0 = true := by rfl) : fp_W X μ pc (a0 :: z :: t) (.ref r :: st) sh M nc ns Post := r_astoreGn hd (by show 1 < _; simp; try omega) (fp_hp (n := 0) (a := a0) rfl rfl ha) hk k
theorem r_lstore1 {a0 : Option Value} {z z' : Option Value} {t : List (Option Value)} {x : Int64} (hd : decode μ.2.1 pc = .ok (.lstore_n 1, 1)) (k : fp_W X μ (pc + 1) (a0 :: some (.long x) :: none :: t) st sh M nc ns Post) (ha : fp_nl a0 = true := by rfl) : fp_W X μ pc (a0 :: z :: z' :: t) (.long x :: st) sh M nc ns Post := r_lstoreGn hd (by show 1 + 1 < _; simp; try omega) (fp_hp (n := 0) (a := a0) rfl rfl ha) k
theorem r_iinc1 {a0 : Option Value} {t : List (Option Value)} {x : Int32} {i : Int} (d : Int32) (hd : decode μ.2.1 pc = .ok (.iinc 1 i, 3)) (k : fp_W X μ (pc + 3) (a0 :: some (.int (x + d)) :: t) st sh M nc ns Post) (hv : Int32.ofInt i = d := by decide) (ha : fp_nl a0 = true := by rfl) : fp_W X μ pc (a0 :: some (.int x) :: t) st sh M nc ns Post := r_iincG hd rfl (by rw [hv]) (fp_hp (n := 0) (a := a0) rfl rfl ha) k
theorem r_istore2 {a0 a1 : Option Value} {z : Option Value} {t : List (Option Value)} {x : Int32} (hd : decode μ.2.1 pc = .ok (.istore_n 2, 1)) (k : fp_W X μ (pc + 1) (a0 :: a1 :: some (.int x) :: t) st sh M nc ns Post) (ha : fp_nl a1 = true := by rfl) : fp_W X μ pc (a0 :: a1 :: z :: t) (.int x :: st) sh M nc ns Post := r_istoreGn hd (by show 2 < _; simp; try omega) (fp_hp (n := 1) (a := a1) rfl rfl ha)  k
theorem r_astore2 {a0 a1 : Option Value} {z : Option Value} {t : List (Option Value)} {r : Nat} (hd : decode μ.2.1 pc = .ok (.astore_n 2, 1)) (hk : r < 132 ∧ ¬ (112 ≤ r ∧ r < 120) ∨ r = 150) (k : fp_W X μ (pc + 1) (a0 :: a1 :: some (.ref r) :: t) st sh M nc ns Post) (ha : fp_nl a1 = true := by rfl) : fp_W X μ pc (a0 :: a1 :: z :: t) (.ref r :: st) sh M nc ns Post := r_astoreGn hd (by show 2 < _; simp; try omega) (fp_hp (n := 1) (a := a1) rfl rfl ha) hk k
theorem r_lstore2 {a0 a1 : Option Value} {z z' : Option Value} {t : List (Option Value)} {x : Int64} (hd : decode μ.2.1 pc = .ok (.lstore_n 2, 1)) (k : fp_W X μ (pc + 1) (a0 :: a1 :: some (.long x) :: none :: t) st sh M nc ns Post) (ha : fp_nl a1 = true := by rfl) : fp_W X μ pc (a0 :: a1 :: z :: z' :: t) (.long x :: st) sh M nc ns Post := r_lstoreGn hd (by show 2 + 1 < _; simp; try omega) (fp_hp (n := 1) (a := a1) rfl rfl ha) k
theorem r_iinc2 {a0 a1 : Option Value} {t : List (Option Value)} {x : Int32} {i : Int} (d : Int32) (hd : decode μ.2.1 pc = .ok (.iinc 2 i, 3)) (k : fp_W X μ (pc + 3) (a0 :: a1 :: some (.int (x + d)) :: t) st sh M nc ns Post) (hv : Int32.ofInt i = d := by decide) (ha : fp_nl a1 = true := by rfl) : fp_W X μ pc (a0 :: a1 :: some (.int x) :: t) st sh M nc ns Post := r_iincG hd rfl (by rw [hv]) (fp_hp (n := 1) (a := a1) rfl rfl ha) k
theorem r_istore3 {a0 a1 a2 : Option Value} {z : Option Value} {t : List (Option Value)} {x : Int32} (hd : decode μ.2.1 pc = .ok (.istore_n 3, 1)) (k : fp_W X μ (pc + 1) (a0 :: a1 :: a2 :: some (.int x) :: t) st sh M nc ns Post) (ha : fp_nl a2 = true := by rfl) : fp_W X μ pc (a0 :: a1 :: a2 :: z :: t) (.int x :: st) sh M nc ns Post := r_istoreGn hd (by show 3 < _; simp; try omega) (fp_hp (n := 2) (a := a2) rfl rfl ha)  k
theorem r_astore3 {a0 a1 a2 : Option Value} {z : Option Value} {t : List (Option Value)} {r : Nat} (hd : decode μ.2.1 pc = .ok (.astore_n 3, 1)) (hk : r < 132 ∧ ¬ (112 ≤ r ∧ r < 120) ∨ r = 150) (k : fp_W X μ (pc + 1) (a0 :: a1 :: a2 :: some (.ref r) :: t) st sh M nc ns Post) (ha : fp_nl a2 = true := by rfl) : fp_W X μ pc (a0 :: a1 :: a2 :: z :: t) (.ref r :: st) sh M nc ns Post := r_astoreGn hd (by show 3 < _; simp; try omega) (fp_hp (n := 2) (a := a2) rfl rfl ha) hk k
theorem r_lstore3 {a0 a1 a2 : Option Value} {z z' : Option Value} {t : List (Option Value)} {x : Int64} (hd : decode μ.2.1 pc = .ok (.lstore_n 3, 1)) (k : fp_W X μ (pc + 1) (a0 :: a1 :: a2 :: some (.long x) :: none :: t) st sh M nc ns Post) (ha : fp_nl a2 = true := by rfl) : fp_W X μ pc (a0 :: a1 :: a2 :: z :: z' :: t) (.long x :: st) sh M nc ns Post := r_lstoreGn hd (by show 3 + 1 < _; simp; try omega) (fp_hp (n := 2) (a := a2) rfl rfl ha) k
theorem r_iinc3 {a0 a1 a2 : Option Value} {t : List (Option Value)} {x : Int32} {i : Int} (d : Int32) (hd : decode μ.2.1 pc = .ok (.iinc 3 i, 3)) (k : fp_W X μ (pc + 3) (a0 :: a1 :: a2 :: some (.int (x + d)) :: t) st sh M nc ns Post) (hv : Int32.ofInt i = d := by decide) (ha : fp_nl a2 = true := by rfl) : fp_W X μ pc (a0 :: a1 :: a2 :: some (.int x) :: t) st sh M nc ns Post := r_iincG hd rfl (by rw [hv]) (fp_hp (n := 2) (a := a2) rfl rfl ha) k
theorem r_istore4 {a0 a1 a2 a3 : Option Value} {z : Option Value} {t : List (Option Value)} {x : Int32} (hd : decode μ.2.1 pc = .ok (.istore 4, 2)) (k : fp_W X μ (pc + 2) (a0 :: a1 :: a2 :: a3 :: some (.int x) :: t) st sh M nc ns Post) (ha : fp_nl a3 = true := by rfl) : fp_W X μ pc (a0 :: a1 :: a2 :: a3 :: z :: t) (.int x :: st) sh M nc ns Post := r_istoreG hd (by show 4 < _; simp; try omega) (fp_hp (n := 3) (a := a3) rfl rfl ha)  k
theorem r_astore4 {a0 a1 a2 a3 : Option Value} {z : Option Value} {t : List (Option Value)} {r : Nat} (hd : decode μ.2.1 pc = .ok (.astore 4, 2)) (hk : r < 132 ∧ ¬ (112 ≤ r ∧ r < 120) ∨ r = 150) (k : fp_W X μ (pc + 2) (a0 :: a1 :: a2 :: a3 :: some (.ref r) :: t) st sh M nc ns Post) (ha : fp_nl a3 = true := by rfl) : fp_W X μ pc (a0 :: a1 :: a2 :: a3 :: z :: t) (.ref r :: st) sh M nc ns Post := r_astoreG hd (by show 4 < _; simp; try omega) (fp_hp (n := 3) (a := a3) rfl rfl ha) hk k
theorem r_lstore4 {a0 a1 a2 a3 : Option Value} {z z' : Option Value} {t : List (Option Value)} {x : Int64} (hd : decode μ.2.1 pc = .ok (.lstore 4, 2)) (k : fp_W X μ (pc + 2) (a0 :: a1 :: a2 :: a3 :: some (.long x) :: none :: t) st sh M nc ns Post) (ha : fp_nl a3 = true := by rfl) : fp_W X μ pc (a0 :: a1 :: a2 :: a3 :: z :: z' :: t) (.long x :: st) sh M nc ns Post := r_lstoreG hd (by show 4 + 1 < _; simp; try omega) (fp_hp (n := 3) (a := a3) rfl rfl ha) k
theorem r_iinc4 {a0 a1 a2 a3 : Option Value} {t : List (Option Value)} {x : Int32} {i : Int} (d : Int32) (hd : decode μ.2.1 pc = .ok (.iinc 4 i, 3)) (k : fp_W X μ (pc + 3) (a0 :: a1 :: a2 :: a3 :: some (.int (x + d)) :: t) st sh M nc ns Post) (hv : Int32.ofInt i = d := by decide) (ha : fp_nl a3 = true := by rfl) : fp_W X μ pc (a0 :: a1 :: a2 :: a3 :: some (.int x) :: t) st sh M nc ns Post := r_iincG hd rfl (by rw [hv]) (fp_hp (n := 3) (a := a3) rfl rfl ha) k
theorem r_istore5 {a0 a1 a2 a3 a4 : Option Value} {z : Option Value} {t : List (Option Value)} {x : Int32} (hd : decode μ.2.1 pc = .ok (.istore 5, 2)) (k : fp_W X μ (pc + 2) (a0 :: a1 :: a2 :: a3 :: a4 :: some (.int x) :: t) st sh M nc ns Post) (ha : fp_nl a4 = true := by rfl) : fp_W X μ pc (a0 :: a1 :: a2 :: a3 :: a4 :: z :: t) (.int x :: st) sh M nc ns Post := r_istoreG hd (by show 5 < _; simp; try omega) (fp_hp (n := 4) (a := a4) rfl rfl ha)  k
theorem r_astore5 {a0 a1 a2 a3 a4 : Option Value} {z : Option Value} {t : List (Option Value)} {r : Nat} (hd : decode μ.2.1 pc = .ok (.astore 5, 2)) (hk : r < 132 ∧ ¬ (112 ≤ r ∧ r < 120) ∨ r = 150) (k : fp_W X μ (pc + 2) (a0 :: a1 :: a2 :: a3 :: a4 :: some (.ref r) :: t) st sh M nc ns Post) (ha : fp_nl a4 = true := by rfl) : fp_W X μ pc (a0 :: a1 :: a2 :: a3 :: a4 :: z :: t) (.ref r :: st) sh M nc ns Post := r_astoreG hd (by show 5 < _; simp; try omega) (fp_hp (n := 4) (a := a4) rfl rfl ha) hk k
theorem r_lstore5 {a0 a1 a2 a3 a4 : Option Value} {z z' : Option Value} {t : List (Option Value)} {x : Int64} (hd : decode μ.2.1 pc = .ok (.lstore 5, 2)) (k : fp_W X μ (pc + 2) (a0 :: a1 :: a2 :: a3 :: a4 :: some (.long x) :: none :: t) st sh M nc ns Post) (ha : fp_nl a4 = true := by rfl) : fp_W X μ pc (a0 :: a1 :: a2 :: a3 :: a4 :: z :: z' :: t) (.long x :: st) sh M nc ns Post := r_lstoreG hd (by show 5 + 1 < _; simp; try omega) (fp_hp (n := 4) (a := a4) rfl rfl ha) k
theorem r_iinc5 {a0 a1 a2 a3 a4 : Option Value} {t : List (Option Value)} {x : Int32} {i : Int} (d : Int32) (hd : decode μ.2.1 pc = .ok (.iinc 5 i, 3)) (k : fp_W X μ (pc + 3) (a0 :: a1 :: a2 :: a3 :: a4 :: some (.int (x + d)) :: t) st sh M nc ns Post) (hv : Int32.ofInt i = d := by decide) (ha : fp_nl a4 = true := by rfl) : fp_W X μ pc (a0 :: a1 :: a2 :: a3 :: a4 :: some (.int x) :: t) st sh M nc ns Post := r_iincG hd rfl (by rw [hv]) (fp_hp (n := 4) (a := a4) rfl rfl ha) k
theorem r_istore6 {a0 a1 a2 a3 a4 a5 : Option Value} {z : Option Value} {t : List (Option Value)} {x : Int32} (hd : decode μ.2.1 pc = .ok (.istore 6, 2)) (k : fp_W X μ (pc + 2) (a0 :: a1 :: a2 :: a3 :: a4 :: a5 :: some (.int x) :: t) st sh M nc ns Post) (ha : fp_nl a5 = true := by rfl) : fp_W X μ pc (a0 :: a1 :: a2 :: a3 :: a4 :: a5 :: z :: t) (.int x :: st) sh M nc ns Post := r_istoreG hd (by show 6 < _; simp; try omega) (fp_hp (n := 5) (a := a5) rfl rfl ha)  k
theorem r_astore6 {a0 a1 a2 a3 a4 a5 : Option Value} {z : Option Value} {t : List (Option Value)} {r : Nat} (hd : decode μ.2.1 pc = .ok (.astore 6, 2)) (hk : r < 132 ∧ ¬ (112 ≤ r ∧ r < 120) ∨ r = 150) (k : fp_W X μ (pc + 2) (a0 :: a1 :: a2 :: a3 :: a4 :: a5 :: some (.ref r) :: t) st sh M nc ns Post) (ha : fp_nl a5 = true := by rfl) : fp_W X μ pc (a0 :: a1 :: a2 :: a3 :: a4 :: a5 :: z :: t) (.ref r :: st) sh M nc ns Post := r_astoreG hd (by show 6 < _; simp; try omega) (fp_hp (n := 5) (a := a5) rfl rfl ha) hk k
theorem r_lstore6 {a0 a1 a2 a3 a4 a5 : Option Value} {z z' : Option Value} {t : List (Option Value)} {x : Int64} (hd : decode μ.2.1 pc = .ok (.lstore 6, 2)) (k : fp_W X μ (pc + 2) (a0 :: a1 :: a2 :: a3 :: a4 :: a5 :: some (.long x) :: none :: t) st sh M nc ns Post) (ha : fp_nl a5 = true := by rfl) : fp_W X μ pc (a0 :: a1 :: a2 :: a3 :: a4 :: a5 :: z :: z' :: t) (.long x :: st) sh M nc ns Post := r_lstoreG hd (by show 6 + 1 < _; simp; try omega) (fp_hp (n := 5) (a := a5) rfl rfl ha) k
theorem r_iinc6 {a0 a1 a2 a3 a4 a5 : Option Value} {t : List (Option Value)} {x : Int32} {i : Int} (d : Int32) (hd : decode μ.2.1 pc = .ok (.iinc 6 i, 3)) (k : fp_W X μ (pc + 3) (a0 :: a1 :: a2 :: a3 :: a4 :: a5 :: some (.int (x + d)) :: t) st sh M nc ns Post) (hv : Int32.ofInt i = d := by decide) (ha : fp_nl a5 = true := by rfl) : fp_W X μ pc (a0 :: a1 :: a2 :: a3 :: a4 :: a5 :: some (.int x) :: t) st sh M nc ns Post := r_iincG hd rfl (by rw [hv]) (fp_hp (n := 5) (a := a5) rfl rfl ha) k
theorem r_istore7 {a0 a1 a2 a3 a4 a5 a6 : Option Value} {z : Option Value} {t : List (Option Value)} {x : Int32} (hd : decode μ.2.1 pc = .ok (.istore 7, 2)) (k : fp_W X μ (pc + 2) (a0 :: a1 :: a2 :: a3 :: a4 :: a5 :: a6 :: some (.int x) :: t) st sh M nc ns Post) (ha : fp_nl a6 = true := by rfl) : fp_W X μ pc (a0 :: a1 :: a2 :: a3 :: a4 :: a5 :: a6 :: z :: t) (.int x :: st) sh M nc ns Post := r_istoreG hd (by show 7 < _; simp; try omega) (fp_hp (n := 6) (a := a6) rfl rfl ha)  k
theorem r_astore7 {a0 a1 a2 a3 a4 a5 a6 : Option Value} {z : Option Value} {t : List (Option Value)} {r : Nat} (hd : decode μ.2.1 pc = .ok (.astore 7, 2)) (hk : r < 132 ∧ ¬ (112 ≤ r ∧ r < 120) ∨ r = 150) (k : fp_W X μ (pc + 2) (a0 :: a1 :: a2 :: a3 :: a4 :: a5 :: a6 :: some (.ref r) :: t) st sh M nc ns Post) (ha : fp_nl a6 = true := by rfl) : fp_W X μ pc (a0 :: a1 :: a2 :: a3 :: a4 :: a5 :: a6 :: z :: t) (.ref r :: st) sh M nc ns Post := r_astoreG hd (by show 7 < _; simp; try omega) (fp_hp (n := 6) (a := a6) rfl rfl ha) hk k
theorem r_lstore7 {a0 a1 a2 a3 a4 a5 a6 : Option Value} {z z' : Option Value} {t : List (Option Value)} {x : Int64} (hd : decode μ.2.1 pc = .ok (.lstore 7, 2)) (k : fp_W X μ (pc + 2) (a0 :: a1 :: a2 :: a3 :: a4 :: a5 :: a6 :: some (.long x) :: none :: t) st sh M nc ns Post) (ha : fp_nl a6 = true := by rfl) : fp_W X μ pc (a0 :: a1 :: a2 :: a3 :: a4 :: a5 :: a6 :: z :: z' :: t) (.long x :: st) sh M nc ns Post := r_lstoreG hd (by show 7 + 1 < _; simp; try omega) (fp_hp (n := 6) (a := a6) rfl rfl ha) k
theorem r_iinc7 {a0 a1 a2 a3 a4 a5 a6 : Option Value} {t : List (Option Value)} {x : Int32} {i : Int} (d : Int32) (hd : decode μ.2.1 pc = .ok (.iinc 7 i, 3)) (k : fp_W X μ (pc + 3) (a0 :: a1 :: a2 :: a3 :: a4 :: a5 :: a6 :: some (.int (x + d)) :: t) st sh M nc ns Post) (hv : Int32.ofInt i = d := by decide) (ha : fp_nl a6 = true := by rfl) : fp_W X μ pc (a0 :: a1 :: a2 :: a3 :: a4 :: a5 :: a6 :: some (.int x) :: t) st sh M nc ns Post := r_iincG hd rfl (by rw [hv]) (fp_hp (n := 6) (a := a6) rfl rfl ha) k
theorem r_istore8 {a0 a1 a2 a3 a4 a5 a6 a7 : Option Value} {z : Option Value} {t : List (Option Value)} {x : Int32} (hd : decode μ.2.1 pc = .ok (.istore 8, 2)) (k : fp_W X μ (pc + 2) (a0 :: a1 :: a2 :: a3 :: a4 :: a5 :: a6 :: a7 :: some (.int x) :: t) st sh M nc ns Post) (ha : fp_nl a7 = true := by rfl) : fp_W X μ pc (a0 :: a1 :: a2 :: a3 :: a4 :: a5 :: a6 :: a7 :: z :: t) (.int x :: st) sh M nc ns Post := r_istoreG hd (by show 8 < _; simp; try omega) (fp_hp (n := 7) (a := a7) rfl rfl ha)  k
theorem r_astore8 {a0 a1 a2 a3 a4 a5 a6 a7 : Option Value} {z : Option Value} {t : List (Option Value)} {r : Nat} (hd : decode μ.2.1 pc = .ok (.astore 8, 2)) (hk : r < 132 ∧ ¬ (112 ≤ r ∧ r < 120) ∨ r = 150) (k : fp_W X μ (pc + 2) (a0 :: a1 :: a2 :: a3 :: a4 :: a5 :: a6 :: a7 :: some (.ref r) :: t) st sh M nc ns Post) (ha : fp_nl a7 = true := by rfl) : fp_W X μ pc (a0 :: a1 :: a2 :: a3 :: a4 :: a5 :: a6 :: a7 :: z :: t) (.ref r :: st) sh M nc ns Post := r_astoreG hd (by show 8 < _; simp; try omega) (fp_hp (n := 7) (a := a7) rfl rfl ha) hk k
theorem r_lstore8 {a0 a1 a2 a3 a4 a5 a6 a7 : Option Value} {z z' : Option Value} {t : List (Option Value)} {x : Int64} (hd : decode μ.2.1 pc = .ok (.lstore 8, 2)) (k : fp_W X μ (pc + 2) (a0 :: a1 :: a2 :: a3 :: a4 :: a5 :: a6 :: a7 :: some (.long x) :: none :: t) st sh M nc ns Post) (ha : fp_nl a7 = true := by rfl) : fp_W X μ pc (a0 :: a1 :: a2 :: a3 :: a4 :: a5 :: a6 :: a7 :: z :: z' :: t) (.long x :: st) sh M nc ns Post := r_lstoreG hd (by show 8 + 1 < _; simp; try omega) (fp_hp (n := 7) (a := a7) rfl rfl ha) k
theorem r_iinc8 {a0 a1 a2 a3 a4 a5 a6 a7 : Option Value} {t : List (Option Value)} {x : Int32} {i : Int} (d : Int32) (hd : decode μ.2.1 pc = .ok (.iinc 8 i, 3)) (k : fp_W X μ (pc + 3) (a0 :: a1 :: a2 :: a3 :: a4 :: a5 :: a6 :: a7 :: some (.int (x + d)) :: t) st sh M nc ns Post) (hv : Int32.ofInt i = d := by decide) (ha : fp_nl a7 = true := by rfl) : fp_W X μ pc (a0 :: a1 :: a2 :: a3 :: a4 :: a5 :: a6 :: a7 :: some (.int x) :: t) st sh M nc ns Post := r_iincG hd rfl (by rw [hv]) (fp_hp (n := 7) (a := a7) rfl rfl ha) k
theorem r_istore9 {a0 a1 a2 a3 a4 a5 a6 a7 a8 : Option Value} {z : Option Value} {t : List (Option Value)} {x : Int32} (hd : decode μ.2.1 pc = .ok (.istore 9, 2)) (k : fp_W X μ (pc + 2) (a0 :: a1 :: a2 :: a3 :: a4 :: a5 :: a6 :: a7 :: a8 :: some (.int x) :: t) st sh M nc ns Post) (ha : fp_nl a8 = true := by rfl) : fp_W X μ pc (a0 :: a1 :: a2 :: a3 :: a4 :: a5 :: a6 :: a7 :: a8 :: z :: t) (.int x :: st) sh M nc ns Post := r_istoreG hd (by show 9 < _; simp; try omega) (fp_hp (n := 8) (a := a8) rfl rfl ha)  k
theorem r_astore9 {a0 a1 a2 a3 a4 a5 a6 a7 a8 : Option Value} {z : Option Value} {t : List (Option Value)} {r : Nat} (hd : decode μ.2.1 pc = .ok (.astore 9, 2)) (hk : r < 132 ∧ ¬ (112 ≤ r ∧ r < 120) ∨ r = 150) (k : fp_W X μ (pc + 2) (a0 :: a1 :: a2 :: a3 :: a4 :: a5 :: a6 :: a7 :: a8 :: some (.ref r) :: t) st sh M nc ns Post) (ha : fp_nl a8 = true := by rfl) : fp_W X μ pc (a0 :: a1 :: a2 :: a3 :: a4 :: a5 :: a6 :: a7 :: a8 :: z :: t) (.ref r :: st) sh M nc ns Post := r_astoreG hd (by show 9 < _; simp; try omega) (fp_hp (n := 8) (a := a8) rfl rfl ha) hk k
theorem r_lstore9 {a0 a1 a2 a3 a4 a5 a6 a7 a8 : Option Value} {z z' : Option Value} {t : List (Option Value)} {x : Int64} (hd : decode μ.2.1 pc = .ok (.lstore 9, 2)) (k : fp_W X μ (pc + 2) (a0 :: a1 :: a2 :: a3 :: a4 :: a5 :: a6 :: a7 :: a8 :: some (.long x) :: none :: t) st sh M nc ns Post) (ha : fp_nl a8 = true := by rfl) : fp_W X μ pc (a0 :: a1 :: a2 :: a3 :: a4 :: a5 :: a6 :: a7 :: a8 :: z :: z' :: t) (.long x :: st) sh M nc ns Post := r_lstoreG hd (by show 9 + 1 < _; simp; try omega) (fp_hp (n := 8) (a := a8) rfl rfl ha) k
theorem r_iinc9 {a0 a1 a2 a3 a4 a5 a6 a7 a8 : Option Value} {t : List (Option Value)} {x : Int32} {i : Int} (d : Int32) (hd : decode μ.2.1 pc = .ok (.iinc 9 i, 3)) (k : fp_W X μ (pc + 3) (a0 :: a1 :: a2 :: a3 :: a4 :: a5 :: a6 :: a7 :: a8 :: some (.int (x + d)) :: t) st sh M nc ns Post) (hv : Int32.ofInt i = d := by decide) (ha : fp_nl a8 = true := by rfl) : fp_W X μ pc (a0 :: a1 :: a2 :: a3 :: a4 :: a5 :: a6 :: a7 :: a8 :: some (.int x) :: t) st sh M nc ns Post := r_iincG hd rfl (by rw [hv]) (fp_hp (n := 8) (a := a8) rfl rfl ha) k
theorem r_istore10 {a0 a1 a2 a3 a4 a5 a6 a7 a8 a9 : Option Value} {z : Option Value} {t : List (Option Value)} {x : Int32} (hd : decode μ.2.1 pc = .ok (.istore 10, 2)) (k : fp_W X μ (pc + 2) (a0 :: a1 :: a2 :: a3 :: a4 :: a5 :: a6 :: a7 :: a8 :: a9 :: some (.int x) :: t) st sh M nc ns Post) (ha : fp_nl a9 = true := by rfl) : fp_W X μ pc (a0 :: a1 :: a2 :: a3 :: a4 :: a5 :: a6 :: a7 :: a8 :: a9 :: z :: t) (.int x :: st) sh M nc ns Post := r_istoreG hd (by show 10 < _; simp; try omega) (fp_hp (n := 9) (a := a9) rfl rfl ha)  k
theorem r_astore10 {a0 a1 a2 a3 a4 a5 a6 a7 a8 a9 : Option Value} {z : Option Value} {t : List (Option Value)} {r : Nat} (hd : decode μ.2.1 pc = .ok (.astore 10, 2)) (hk : r < 132 ∧ ¬ (112 ≤ r ∧ r < 120) ∨ r = 150) (k : fp_W X μ (pc + 2) (a0 :: a1 :: a2 :: a3 :: a4 :: a5 :: a6 :: a7 :: a8 :: a9 :: some (.ref r) :: t) st sh M nc ns Post) (ha : fp_nl a9 = true := by rfl) : fp_W X μ pc (a0 :: a1 :: a2 :: a3 :: a4 :: a5 :: a6 :: a7 :: a8 :: a9 :: z :: t) (.ref r :: st) sh M nc ns Post := r_astoreG hd (by show 10 < _; simp; try omega) (fp_hp (n := 9) (a := a9) rfl rfl ha) hk k
theorem r_lstore10 {a0 a1 a2 a3 a4 a5 a6 a7 a8 a9 : Option Value} {z z' : Option Value} {t : List (Option Value)} {x : Int64} (hd : decode μ.2.1 pc = .ok (.lstore 10, 2)) (k : fp_W X μ (pc + 2) (a0 :: a1 :: a2 :: a3 :: a4 :: a5 :: a6 :: a7 :: a8 :: a9 :: some (.long x) :: none :: t) st sh M nc ns Post) (ha : fp_nl a9 = true := by rfl) : fp_W X μ pc (a0 :: a1 :: a2 :: a3 :: a4 :: a5 :: a6 :: a7 :: a8 :: a9 :: z :: z' :: t) (.long x :: st) sh M nc ns Post := r_lstoreG hd (by show 10 + 1 < _; simp; try omega) (fp_hp (n := 9) (a := a9) rfl rfl ha) k
theorem r_iinc10 {a0 a1 a2 a3 a4 a5 a6 a7 a8 a9 : Option Value} {t : List (Option Value)} {x : Int32} {i : Int} (d : Int32) (hd : decode μ.2.1 pc = .ok (.iinc 10 i, 3)) (k : fp_W X μ (pc + 3) (a0 :: a1 :: a2 :: a3 :: a4 :: a5 :: a6 :: a7 :: a8 :: a9 :: some (.int (x + d)) :: t) st sh M nc ns Post) (hv : Int32.ofInt i = d := by decide) (ha : fp_nl a9 = true := by rfl) : fp_W X μ pc (a0 :: a1 :: a2 :: a3 :: a4 :: a5 :: a6 :: a7 :: a8 :: a9 :: some (.int x) :: t) st sh M nc ns Post := r_iincG hd rfl (by rw [hv]) (fp_hp (n := 9) (a := a9) rfl rfl ha) k
theorem r_istore11 {a0 a1 a2 a3 a4 a5 a6 a7 a8 a9 a10 : Option Value} {z : Option Value} {t : List (Option Value)} {x : Int32} (hd : decode μ.2.1 pc = .ok (.istore 11, 2)) (k : fp_W X μ (pc + 2) (a0 :: a1 :: a2 :: a3 :: a4 :: a5 :: a6 :: a7 :: a8 :: a9 :: a10 :: some (.int x) :: t) st sh M nc ns Post) (ha : fp_nl a10 = true := by rfl) : fp_W X μ pc (a0 :: a1 :: a2 :: a3 :: a4 :: a5 :: a6 :: a7 :: a8 :: a9 :: a10 :: z :: t) (.int x :: st) sh M nc ns Post := r_istoreG hd (by show 11 < _; simp; try omega) (fp_hp (n := 10) (a := a10) rfl rfl ha)  k
theorem r_astore11 {a0 a1 a2 a3 a4 a5 a6 a7 a8 a9 a10 : Option Value} {z : Option Value} {t : List (Option Value)} {r : Nat} (hd : decode μ.2.1 pc = .ok (.astore 11, 2)) (hk : r < 132 ∧ ¬ (112 ≤ r ∧ r < 120) ∨ r = 150) (k : fp_W X μ (pc + 2) (a0 :: a1 :: a2 :: a3 :: a4 :: a5 :: a6 :: a7 :: a8 :: a9 :: a10 :: some (.ref r) :: t) st sh M nc ns Post) (ha : fp_nl a10 = true := by rfl) : fp_W X μ pc (a0 :: a1 :: a2 :: a3 :: a4 :: a5 :: a6 :: a7 :: a8 :: a9 :: a10 :: z :: t) (.ref r :: st) sh M nc ns Post := r_astoreG hd (by show 11 < _; simp; try omega) (fp_hp (n := 10) (a := a10) rfl rfl ha) hk k
theorem r_lstore11 {a0 a1 a2 a3 a4 a5 a6 a7 a8 a9 a10 : Option Value} {z z' : Option Value} {t : List (Option Value)} {x : Int64} (hd : decode μ.2.1 pc = .ok (.lstore 11, 2)) (k : fp_W X μ (pc + 2) (a0 :: a1 :: a2 :: a3 :: a4 :: a5 :: a6 :: a7 :: a8 :: a9 :: a10 :: some (.long x) :: none :: t) st sh M nc ns Post) (ha : fp_nl a10 = true := by rfl) : fp_W X μ pc (a0 :: a1 :: a2 :: a3 :: a4 :: a5 :: a6 :: a7 :: a8 :: a9 :: a10 :: z :: z' :: t) (.long x :: st) sh M nc ns Post := r_lstoreG hd (by show 11 + 1 < _; simp; try omega) (fp_hp (n := 10) (a := a10) rfl rfl ha) k
theorem r_iinc11 {a0 a1 a2 a3 a4 a5 a6 a7 a8 a9 a10 : Option Value} {t : List (Option Value)} {x : Int32} {i : Int} (d : Int32) (hd : decode μ.2.1 pc = .ok (.iinc 11 i, 3)) (k : fp_W X μ (pc + 3) (a0 :: a1 :: a2 :: a3 :: a4 :: a5 :: a6 :: a7 :: a8 :: a9 :: a10 :: some (.int (x + d)) :: t) st sh M nc ns Post) (hv : Int32.ofInt i = d := by decide) (ha : fp_nl a10 = true := by rfl) : fp_W X μ pc (a0 :: a1 :: a2 :: a3 :: a4 :: a5 :: a6 :: a7 :: a8 :: a9 :: a10 :: some (.int x) :: t) st sh M nc ns Post := r_iincG hd rfl (by rw [hv]) (fp_hp (n := 10) (a := a10) rfl rfl ha) k
theorem r_istore12 {a0 a1 a2 a3 a4 a5 a6 a7 a8 a9 a10 a11 : Option Value} {z : Option Value} {t : List (Option Value)} {x : Int32} (hd : decode μ.2.1 pc = .ok (.istore 12, 2)) (k : fp_W X μ (pc + 2) (a0 :: a1 :: a2 :: a3 :: a4 :: a5 :: a6 :: a7 :: a8 :: a9 :: a10 :: a11 :: some (.int x) :: t) st sh M nc ns Post) (ha : fp_nl a11 = true := by rfl) : fp_W X μ pc (a0 :: a1 :: a2 :: a3 :: a4 :: a5 :: a6 :: a7 :: a8 :: a9 :: a10 :: a11 :: z :: t) (.int x :: st) sh M nc ns Post := r_istoreG hd (by show 12 < _; simp; try omega) (fp_hp (n := 11) (a := a11) rfl rfl ha)  k
theorem r_astore12 {a0 a1 a2 a3 a4 a5 a6 a7 a8 a9 a10 a11 : Option Value} {z : Option Value} {t : List (Option Value)} {r : Nat} (hd : decode μ.2.1 pc = .ok (.astore 12, 2)) (hk : r < 132 ∧ ¬ (112 ≤ r ∧ r < 120) ∨ r = 150) (k : fp_W X μ (pc + 2) (a0 :: a1 :: a2 :: a3 :: a4 :: a5 :: a6 :: a7 :: a8 :: a9 :: a10 :: a11 :: some (.ref r) :: t) st sh M nc ns Post) (ha : fp_nl a11 = true := by rfl) : fp_W X μ pc (a0 :: a1 :: a2 :: a3 :: a4 :: a5 :: a6 :: a7 :: a8 :: a9 :: a10 :: a11 :: z :: t) (.ref r :: st) sh M nc ns Post := r_astoreG hd (by show 12 < _; simp; try omega) (fp_hp (n := 11) (a := a11) rfl rfl ha) hk k
theorem r_lstore12 {a0 a1 a2 a3 a4 a5 a6 a7 a8 a9 a10 a11 : Option Value} {z z' : Option Value} {t : List (Option Value)} {x : Int64} (hd : decode μ.2.1 pc = .ok (.lstore 12, 2)) (k : fp_W X μ (pc + 2) (a0 :: a1 :: a2 :: a3 :: a4 :: a5 :: a6 :: a7 :: a8 :: a9 :: a10 :: a11 :: some (.long x) :: none :: t) st sh M nc ns Post) (ha : fp_nl a11 = true := by rfl) : fp_W X μ pc (a0 :: a1 :: a2 :: a3 :: a4 :: a5 :: a6 :: a7 :: a8 :: a9 :: a10 :: a11 :: z :: z' :: t) (.long x :: st) sh M nc ns Post := r_lstoreG hd (by show 12 + 1 < _; simp; try omega) (fp_hp (n := 11) (a := a11) rfl rfl ha) k
theorem r_iinc12 {a0 a1 a2 a3 a4 a5 a6 a7 a8 a9 a10 a11 : Option Value} {t : List (Option Value)} {x : Int32} {i : Int} (d : Int32) (hd : decode μ.2.1 pc = .ok (.iinc 12 i, 3)) (k : fp_W X μ (pc + 3) (a0 :: a1 :: a2 :: a3 :: a4 :: a5 :: a6 :: a7 :: a8 :: a9 :: a10 :: a11 :: some (.int (x + d)) :: t) st sh M nc ns Post) (hv : Int32.ofInt i = d := by decide) (ha : fp_nl a11 = true := by rfl) : fp_W X μ pc (a0 :: a1 :: a2 :: a3 :: a4 :: a5 :: a6 :: a7 :: a8 :: a9 :: a10 :: a11 :: some (.int x) :: t) st sh M nc ns Post := r_iincG hd rfl (by rw [hv]) (fp_hp (n := 11) (a := a11) rfl rfl ha) k
theorem r_istore13 {a0 a1 a2 a3 a4 a5 a6 a7 a8 a9 a10 a11 a12 : Option Value} {z : Option Value} {t : List (Option Value)} {x : Int32} (hd : decode μ.2.1 pc = .ok (.istore 13, 2)) (k : fp_W X μ (pc + 2) (a0 :: a1 :: a2 :: a3 :: a4 :: a5 :: a6 :: a7 :: a8 :: a9 :: a10 :: a11 :: a12 :: some (.int x) :: t) st sh M nc ns Post) (ha : fp_nl a12 = true := by rfl) : fp_W X μ pc (a0 :: a1 :: a2 :: a3 :: a4 :: a5 :: a6 :: a7 :: a8 :: a9 :: a10 :: a11 :: a12 :: z :: t) (.int x :: st) sh M nc ns Post := r_istoreG hd (by show 13 < _; simp; try omega) (fp_hp (n := 12) (a := a12) rfl rfl ha)  k
theorem r_astore13 {a0 a1 a2 a3 a4 a5 a6 a7 a8 a9 a10 a11 a12 : Option Value} {z : Option Value} {t : List (Option Value)} {r : Nat} (hd : decode μ.2.1 pc = .ok (.astore 13, 2)) (hk : r < 132 ∧ ¬ (112 ≤ r ∧ r < 120) ∨ r = 150) (k : fp_W X μ (pc + 2) (a0 :: a1 :: a2 :: a3 :: a4 :: a5 :: a6 :: a7 :: a8 :: a9 :: a10 :: a11 :: a12 :: some (.ref r) :: t) st sh M nc ns Post) (ha : fp_nl a12 = true := by rfl) : fp_W X μ pc (a0 :: a1 :: a2 :: a3 :: a4 :: a5 :: a6 :: a7 :: a8 :: a9 :: a10 :: a11 :: a12 :: z :: t) (.ref r :: st) sh M nc ns Post := r_astoreG hd (by show 13 < _; simp; try omega) (fp_hp (n := 12) (a := a12) rfl rfl ha) hk k
theorem r_lstore13 {a0 a1 a2 a3 a4 a5 a6 a7 a8 a9 a10 a11 a12 : Option Value} {z z' : Option Value} {t : List (Option Value)} {x : Int64} (hd : decode μ.2.1 pc = .ok (.lstore 13, 2)) (k : fp_W X μ (pc + 2) (a0 :: a1 :: a2 :: a3 :: a4 :: a5 :: a6 :: a7 :: a8 :: a9 :: a10 :: a11 :: a12 :: some (.long x) :: none :: t) st sh M nc ns Post) (ha : fp_nl a12 = true := by rfl) : fp_W X μ pc (a0 :: a1 :: a2 :: a3 :: a4 :: a5 :: a6 :: a7 :: a8 :: a9 :: a10 :: a11 :: a12 :: z :: z' :: t) (.long x :: st) sh M nc ns Post := r_lstoreG hd (by show 13 + 1 < _; simp; try omega) (fp_hp (n := 12) (a := a12) rfl rfl ha) k
theorem r_iinc13 {a0 a1 a2 a3 a4 a5 a6 a7 a8 a9 a10 a11 a12 : Option Value} {t : List (Option Value)} {x : Int32} {i : Int} (d : Int32) (hd : decode μ.2.1 pc = .ok (.iinc 13 i, 3)) (k : fp_W X μ (pc + 3) (a0 :: a1 :: a2 :: a3 :: a4 :: a5 :: a6 :: a7 :: a8 :: a9 :: a10 :: a11 :: a12 :: some (.int (x + d)) :: t) st sh M nc ns Post) (hv : Int32.ofInt i = d := by decide) (ha : fp_nl a12 = true := by rfl) : fp_W X μ pc (a0 :: a1 :: a2 :: a3 :: a4 :: a5 :: a6 :: a7 :: a8 :: a9 :: a10 :: a11 :: a12 :: some (.int x) :: t) st sh M nc ns Post := r_iincG hd rfl (by rw [hv]) (fp_hp (n := 12) (a := a12) rfl rfl ha) k
theorem r_istore14 {a0 a1 a2 a3 a4 a5 a6 a7 a8 a9 a10 a11 a12 a13 : Option Value} {z : Option Value} {t : List (Option Value)} {x : Int32} (hd : decode μ.2.1 pc = .ok (.istore 14, 2)) (k : fp_W X μ (pc + 2) (a0 :: a1 :: a2 :: a3 :: a4 :: a5 :: a6 :: a7 :: a8 :: a9 :: a10 :: a11 :: a12 :: a13 :: some (.int x) :: t) st sh M nc ns Post) (ha : fp_nl a13 = true := by rfl) : fp_W X μ pc (a0 :: a1 :: a2 :: a3 :: a4 :: a5 :: a6 :: a7 :: a8 :: a9 :: a10 :: a11 :: a12 :: a13 :: z :: t) (.int x :: st) sh M nc ns Post := r_istoreG hd (by show 14 < _; simp; try omega) (fp_hp (n := 13) (a := a13) rfl rfl ha)  k
theorem r_astore14 {a0 a1 a2 a3 a4 a5 a6 a7 a8 a9 a10 a11 a12 a13 : Option Value} {z : Option Value} {t : List (Option Value)} {r : Nat} (hd : decode μ.2.1 pc = .ok (.astore 14, 2)) (hk : r < 132 ∧ ¬ (112 ≤ r ∧ r < 120) ∨ r = 150) (k : fp_W X μ (pc + 2) (a0 :: a1 :: a2 :: a3 :: a4 :: a5 :: a6 :: a7 :: a8 :: a9 :: a10 :: a11 :: a12 :: a13 :: some (.ref r) :: t) st sh M nc ns Post) (ha : fp_nl a13 = true := by rfl) : fp_W X μ pc (a0 :: a1 :: a2 :: a3 :: a4 :: a5 :: a6 :: a7 :: a8 :: a9 :: a10 :: a11 :: a12 :: a13 :: z :: t) (.ref r :: st) sh M nc ns Post := r_astoreG hd (by show 14 < _; simp; try omega) (fp_hp (n := 13) (a := a13) rfl rfl ha) hk k
theorem r_lstore14 {a0 a1 a2 a3 a4 a5 a6 a7 a8 a9 a10 a11 a12 a13 : Option Value} {z z' : Option Value} {t : List (Option Value)} {x : Int64} (hd : decode μ.2.1 pc = .ok (.lstore 14, 2)) (k : fp_W X μ (pc + 2) (a0 :: a1 :: a2 :: a3 :: a4 :: a5 :: a6 :: a7 :: a8 :: a9 :: a10 :: a11 :: a12 :: a13 :: some (.long x) :: none :: t) st sh M nc ns Post) (ha : fp_nl a13 = true := by rfl) : fp_W X μ pc (a0 :: a1 :: a2 :: a3 :: a4 :: a5 :: a6 :: a7 :: a8 :: a9 :: a10 :: a11 :: a12 :: a13 :: z :: z' :: t) (.long x :: st) sh M nc ns Post := r_lstoreG hd (by show 14 + 1 < _; simp; try omega) (fp_hp (n := 13) (a := a13) rfl rfl ha) k
theorem r_iinc14 {a0 a1 a2 a3 a4 a5 a6 a7 a8 a9 a10 a11 a12 a13 : Option Value} {t : List (Option Value)} {x : Int32} {i : Int} (d : Int32) (hd : decode μ.2.1 pc = .ok (.iinc 14 i, 3)) (k : fp_W X μ (pc + 3) (a0 :: a1 :: a2 :: a3 :: a4 :: a5 :: a6 :: a7 :: a8 :: a9 :: a10 :: a11 :: a12 :: a13 :: some (.int (x + d)) :: t) st sh M nc ns Post) (hv : Int32.ofInt i = d := by decide) (ha : fp_nl a13 = true := by rfl) : fp_W X μ pc (a0 :: a1 :: a2 :: a3 :: a4 :: a5 :: a6 :: a7 :: a8 :: a9 :: a10 :: a11 :: a12 :: a13 :: some (.int x) :: t) st sh M nc ns Post := r_iincG hd rfl (by rw [hv]) (fp_hp (n := 13) (a := a13) rfl rfl ha) k
theorem r_istore15 {a0 a1 a2 a3 a4 a5 a6 a7 a8 a9 a10 a11 a12 a13 a14 : Option Value} {z : Option Value} {t : List (Option Value)} {x : Int32} (hd : decode μ.2.1 pc = .ok (.istore 15, 2)) (k : fp_W X μ (pc + 2) (a0 :: a1 :: a2 :: a3 :: a4 :: a5 :: a6 :: a7 :: a8 :: a9 :: a10 :: a11 :: a12 :: a13 :: a14 :: some (.int x) :: t) st sh M nc ns Post) (ha : fp_nl a14 = true := by rfl) : fp_W X μ pc (a0 :: a1 :: a2 :: a3 :: a4 :: a5 :: a6 :: a7 :: a8 :: a9 :: a10 :: a11 :: a12 :: a13 :: a14 :: z :: t) (.int x :: st) sh M nc ns Post := r_istoreG hd (by show 15 < _; simp; try omega) (fp_hp (n := 14) (a := a14) rfl rfl ha)  k
theorem r_astore15 {a0 a1 a2 a3 a4 a5 a6 a7 a8 a9 a10 a11 a12 a13 a14 : Option Value} {z : Option Value} {t : List (Option Value)} {r : Nat} (hd : decode μ.2.1 pc = .ok (.astore 15, 2)) (hk : r < 132 ∧ ¬ (112 ≤ r ∧ r < 120) ∨ r = 150) (k : fp_W X μ (pc + 2) (a0 :: a1 :: a2 :: a3 :: a4 :: a5 :: a6 :: a7 :: a8 :: a9 :: a10 :: a11 :: a12 :: a13 :: a14 :: some (.ref r) :: t) st sh M nc ns Post) (ha : fp_nl a14 = true := by rfl) : fp_W X μ pc (a0 :: a1 :: a2 :: a3 :: a4 :: a5 :: a6 :: a7 :: a8 :: a9 :: a10 :: a11 :: a12 :: a13 :: a14 :: z :: t) (.ref r :: st) sh M nc ns Post := r_astoreG hd (by show 15 < _; simp; try omega) (fp_hp (n := 14) (a := a14) rfl rfl ha) hk k
theorem r_lstore15 {a0 a1 a2 a3 a4 a5 a6 a7 a8 a9 a10 a11 a12 a13 a14 : Option Value} {z z' : Option Value} {t : List (Option Value)} {x : Int64} (hd : decode μ.2.1 pc = .ok (.lstore 15, 2)) (k : fp_W X μ (pc + 2) (a0 :: a1 :: a2 :: a3 :: a4 :: a5 :: a6 :: a7 :: a8 :: a9 :: a10 :: a11 :: a12 :: a13 :: a14 :: some (.long x) :: none :: t) st sh M nc ns Post) (ha : fp_nl a14 = true := by rfl) : fp_W X μ pc (a0 :: a1 :: a2 :: a3 :: a4 :: a5 :: a6 :: a7 :: a8 :: a9 :: a10 :: a11 :: a12 :: a13 :: a14 :: z :: z' :: t) (.long x :: st) sh M nc ns Post := r_lstoreG hd (by show 15 + 1 < _; simp; try omega) (fp_hp (n := 14) (a := a14) rfl rfl ha) k
theorem r_iinc15 {a0 a1 a2 a3 a4 a5 a6 a7 a8 a9 a10 a11 a12 a13 a14 : Option Value} {t : List (Option Value)} {x : Int32} {i : Int} (d : Int32) (hd : decode μ.2.1 pc = .ok (.iinc 15 i, 3)) (k : fp_W X μ (pc + 3) (a0 :: a1 :: a2 :: a3 :: a4 :: a5 :: a6 :: a7 :: a8 :: a9 :: a10 :: a11 :: a12 :: a13 :: a14 :: some (.int (x + d)) :: t) st sh M nc ns Post) (hv : Int32.ofInt i = d := by decide) (ha : fp_nl a14 = true := by rfl) : fp_W X μ pc (a0 :: a1 :: a2 :: a3 :: a4 :: a5 :: a6 :: a7 :: a8 :: a9 :: a10 :: a11 :: a12 :: a13 :: a14 :: some (.int x) :: t) st sh M nc ns Post := r_iincG hd rfl (by rw [hv]) (fp_hp (n := 14) (a := a14) rfl rfl ha) k
theorem r_dup {v : Value} (hd : decode μ.2.1 pc = .ok (.dup, 1)) (k : fp_W X μ (pc + 1) ls (v :: v :: st) sh M nc ns Post) (hv : v.category = 1 := by rfl) : fp_W X μ pc ls (v :: st) sh M nc ns Post := by
  intro p l e s m args below meth c D cs cv base A Q H locs lsA hF hH hL hN hret
  exact lv_dup hF.1 hF.2.1 hd (by rw [fp_cat cv hF.2.2.2.2.2.2.2.2.2.2.1.2]; exact hv) (k p l e s m args below meth c D cs cv base A Q H locs lsA hF hH hL hN hret)
theorem r_dup2 {v w : Value} (hd : decode μ.2.1 pc = .ok (.dup2, 1)) (k : fp_W X μ (pc + 1) ls (v :: w :: v :: w :: st) sh M nc ns Post) (hv : v.category = 1 := by rfl) (hw : w.category = 1 := by rfl) : fp_W X μ pc ls (v :: w :: st) sh M nc ns Post := by
  intro p l e s m args below meth c D cs cv base A Q H locs lsA hF hH hL hN hret
  exact lv_dup2_11 hF.1 hF.2.1 hd (by rw [fp_cat cv hF.2.2.2.2.2.2.2.2.2.2.1.2]; exact hv) (by rw [fp_cat cv hF.2.2.2.2.2.2.2.2.2.2.1.2]; exact hw) (k p l e s m args below meth c D cs cv base A Q H locs lsA hF hH hL hN hret)
theorem r_pop {v : Value} (hd : decode μ.2.1 pc = .ok (.pop, 1)) (k : fp_W X μ (pc + 1) ls st sh M nc ns Post) (hv : v.category = 1 := by rfl) : fp_W X μ pc ls (v :: st) sh M nc ns Post := by
  intro p l e s m args below meth c D cs cv base A Q H locs lsA hF hH hL hN hret
  exact lv_pop hF.1 hF.2.1 hd (by rw [fp_cat cv hF.2.2.2.2.2.2.2.2.2.2.1.2]; exact hv) (k p l e s m args below meth c D cs cv base A Q H locs lsA hF hH hL hN hret)
theorem r_if_eq (tgt : Nat) {x : Int32} {off : Int} (hd : decode μ.2.1 pc = .ok (.ifCond .eq off, 3)) (kt : x = 0 → fp_W X μ tgt ls st sh M nc ns Post) (kf : ¬ x = 0 → fp_W X μ (pc + 3) ls st sh M nc ns Post) (ht : (pc : Int) + off = (tgt : Int) := by decide) : fp_W X μ pc ls (.int x :: st) sh M nc ns Post := by
  intro p l e s m args below meth c D cs cv base A Q H locs lsA hF hH hL hN hret
  exact lv_if_eq hF.1 hF.2.1 hd ht (fun h => kt h p l e s m args below meth c D cs cv base A Q H locs lsA hF hH hL hN hret) (fun h => kf h p l e s m args below meth c D cs cv base A Q H locs lsA hF hH hL hN hret)
theorem r_icmp_eq (tgt : Nat) {x y : Int32} {off : Int} (hd : decode μ.2.1 pc = .ok (.if_icmp .eq off, 3)) (kt : x = y → fp_W X μ tgt ls st sh M nc ns Post) (kf : ¬ x = y → fp_W X μ (pc + 3) ls st sh M nc ns Post) (ht : (pc : Int) + off = (tgt : Int) := by decide) : fp_W X μ pc ls (.int y :: .int x :: st) sh M nc ns Post := by
  intro p l e s m args below meth c D cs cv base A Q H locs lsA hF hH hL hN hret
  exact lv_icmp_eq hF.1 hF.2.1 hd ht (fun h => kt h p l e s m args below meth c D cs cv base A Q H locs lsA hF hH hL hN hret) (fun h => kf h p l e s m args below meth c D cs cv base A Q H locs lsA hF hH hL hN hret)
theorem r_if_ne (tgt : Nat) {x : Int32} {off : Int} (hd : decode μ.2.1 pc = .ok (.ifCond .ne off, 3)) (kt : ¬ x = 0 → fp_W X μ tgt ls st sh M nc ns Post) (kf : x = 0 → fp_W X μ (pc + 3) ls st sh M nc ns Post) (ht : (pc : Int) + off = (tgt : Int) := by decide) : fp_W X μ pc ls (.int x :: st) sh M nc ns Post := by
  intro p l e s m args below meth c D cs cv base A Q H locs lsA hF hH hL hN hret
  exact lv_if_ne hF.1 hF.2.1 hd ht (fun h => kt h p l e s m args below meth c D cs cv base A Q H locs lsA hF hH hL hN hret) (fun h => kf h p l e s m args below meth c D cs cv base A Q H locs lsA hF hH hL hN hret)
theorem r_icmp_ne (tgt : Nat) {x y : Int32} {off : Int} (hd : decode μ.2.1 pc = .ok (.if_icmp .ne off, 3)) (kt : ¬ x = y → fp_W X μ tgt ls st sh M nc ns Post) (kf : x = y → fp_W X μ (pc + 3) ls st sh M nc ns Post) (ht : (pc : Int) + off = (tgt : Int) := by decide) : fp_W X μ pc ls (.int y :: .int x :: st) sh M nc ns Post := by
  intro p l e s m args below meth c D cs cv base A Q H locs lsA hF hH hL hN hret
  exact lv_icmp_ne hF.1 hF.2.1 hd ht (fun h => kt h p l e s m args below meth c D cs cv base A Q H locs lsA hF hH hL hN hret) (fun h => kf h p l e s m args below meth c D cs cv base A Q H locs lsA hF hH hL hN hret)
theorem r_if_lt (tgt : Nat) {x : Int32} {off : Int} (hd : decode μ.2.1 pc = .ok (.ifCond .lt off, 3)) (kt : x < 0 → fp_W X μ tgt ls st sh M nc ns Post) (kf : ¬ x < 0 → fp_W X μ (pc + 3) ls st sh M nc ns Post) (ht : (pc : Int) + off = (tgt : Int) := by decide) : fp_W X μ pc ls (.int x :: st) sh M nc ns Post := by
  intro p l e s m args below meth c D cs cv base A Q H locs lsA hF hH hL hN hret
  exact lv_if_lt hF.1 hF.2.1 hd ht (fun h => kt h p l e s m args below meth c D cs cv base A Q H locs lsA hF hH hL hN hret) (fun h => kf h p l e s m args below meth c D cs cv base A Q H locs lsA hF hH hL hN hret)
theorem r_icmp_lt (tgt : Nat) {x y : Int32} {off : Int} (hd : decode μ.2.1 pc = .ok (.if_icmp .lt off, 3)) (kt : x < y → fp_W X μ tgt ls st sh M nc ns Post) (kf : ¬ x < y → fp_W X μ (pc + 3) ls st sh M nc ns Post) (ht : (pc : Int) + off = (tgt : Int) := by decide) : fp_W X μ pc ls (.int y :: .int x :: st) sh M nc ns Post := by
  intro p l e s m args below meth c D cs cv base A Q H locs lsA hF hH hL hN hret
  exact lv_icmp_lt hF.1 hF.2.1 hd ht (fun h => kt h p l e s m args below meth c D cs cv base A Q H locs lsA hF hH hL hN hret) (fun h => kf h p l e s m args below meth c D cs cv base A Q H locs lsA hF hH hL hN hret)
theorem r_if_ge (tgt : Nat) {x : Int32} {off : Int} (hd : decode μ.2.1 pc = .ok (.ifCond .ge off, 3)) (kt : 0 ≤ x → fp_W X μ tgt ls st sh M nc ns Post) (kf : ¬ 0 ≤ x → fp_W X μ (pc + 3) ls st sh M nc ns Post) (ht : (pc : Int) + off = (tgt : Int) := by decide) : fp_W X μ pc ls (.int x :: st) sh M nc ns Post := by
  intro p l e s m args below meth c D cs cv base A Q H locs lsA hF hH hL hN hret
  exact lv_if_ge hF.1 hF.2.1 hd ht (fun h => kt h p l e s m args below meth c D cs cv base A Q H locs lsA hF hH hL hN hret) (fun h => kf h p l e s m args below meth c D cs cv base A Q H locs lsA hF hH hL hN hret)
theorem r_icmp_ge (tgt : Nat) {x y : Int32} {off : Int} (hd : decode μ.2.1 pc = .ok (.if_icmp .ge off, 3)) (kt : y ≤ x → fp_W X μ tgt ls st sh M nc ns Post) (kf : ¬ y ≤ x → fp_W X μ (pc + 3) ls st sh M nc ns Post) (ht : (pc : Int) + off = (tgt : Int) := by decide) : fp_W X μ pc ls (.int y :: .int x :: st) sh M nc ns Post := by
  intro p l e s m args below meth c D cs cv base A Q H locs lsA hF hH hL hN hret
  exact lv_icmp_ge hF.1 hF.2.1 hd ht (fun h => kt h p l e s m args below meth c D cs cv base A Q H locs lsA hF hH hL hN hret) (fun h => kf h p l e s m args below meth c D cs cv base A Q H locs lsA hF hH hL hN hret)
theorem r_if_gt (tgt : Nat) {x : Int32} {off : Int} (hd : decode μ.2.1 pc = .ok (.ifCond .gt off, 3)) (kt : 0 < x → fp_W X μ tgt ls st sh M nc ns Post) (kf : ¬ 0 < x → fp_W X μ (pc + 3) ls st sh M nc ns Post) (ht : (pc : Int) + off = (tgt : Int) := by decide) : fp_W X μ pc ls (.int x :: st) sh M nc ns Post := by
  intro p l e s m args below meth c D cs cv base A Q H locs lsA hF hH hL hN hret
  exact lv_if_gt hF.1 hF.2.1 hd ht (fun h => kt h p l e s m args below meth c D cs cv base A Q H locs lsA hF hH hL hN hret) (fun h => kf h p l e s m args below meth c D cs cv base A Q H locs lsA hF hH hL hN hret)
theorem r_icmp_gt (tgt : Nat) {x y : Int32} {off : Int} (hd : decode μ.2.1 pc = .ok (.if_icmp .gt off, 3)) (kt : y < x → fp_W X μ tgt ls st sh M nc ns Post) (kf : ¬ y < x → fp_W X μ (pc + 3) ls st sh M nc ns Post) (ht : (pc : Int) + off = (tgt : Int) := by decide) : fp_W X μ pc ls (.int y :: .int x :: st) sh M nc ns Post := by
  intro p l e s m args below meth c D cs cv base A Q H locs lsA hF hH hL hN hret
  exact lv_icmp_gt hF.1 hF.2.1 hd ht (fun h => kt h p l e s m args below meth c D cs cv base A Q H locs lsA hF hH hL hN hret) (fun h => kf h p l e s m args below meth c D cs cv base A Q H locs lsA hF hH hL hN hret)
theorem r_if_le (tgt : Nat) {x : Int32} {off : Int} (hd : decode μ.2.1 pc = .ok (.ifCond .le off, 3)) (kt : x ≤ 0 → fp_W X μ tgt ls st sh M nc ns Post) (kf : ¬ x ≤ 0 → fp_W X μ (pc + 3) ls st sh M nc ns Post) (ht : (pc : Int) + off = (tgt : Int) := by decide) : fp_W X μ pc ls (.int x :: st) sh M nc ns Post := by
  intro p l e s m args below meth c D cs cv base A Q H locs lsA hF hH hL hN hret
  exact lv_if_le hF.1 hF.2.1 hd ht (fun h => kt h p l e s m args below meth c D cs cv base A Q H locs lsA hF hH hL hN hret) (fun h => kf h p l e s m args below meth c D cs cv base A Q H locs lsA hF hH hL hN hret)
theorem r_icmp_le (tgt : Nat) {x y : Int32} {off : Int} (hd : decode μ.2.1 pc = .ok (.if_icmp .le off, 3)) (kt : x ≤ y → fp_W X μ tgt ls st sh M nc ns Post) (kf : ¬ x ≤ y → fp_W X μ (pc + 3) ls st sh M nc ns Post) (ht : (pc : Int) + off = (tgt : Int) := by decide) : fp_W X μ pc ls (.int y :: .int x :: st) sh M nc ns Post := by
  intro p l e s m args below meth c D cs cv base A Q H locs lsA hF hH hL hN hret
  exact lv_icmp_le hF.1 hF.2.1 hd ht (fun h => kt h p l e s m args below meth c D cs cv base A Q H locs lsA hF hH hL hN hret) (fun h => kf h p l e s m args below meth c D cs cv base A Q H locs lsA hF hH hL hN hret)
theorem r_goto (tgt : Nat) {off : Int} (hd : decode μ.2.1 pc = .ok (.goto off, 3)) (k : fp_W X μ tgt ls st sh M nc ns Post) (ht : (pc : Int) + off = (tgt : Int) := by decide) : fp_W X μ pc ls st sh M nc ns Post := by
  intro p l e s m args below meth c D cs cv base A Q H locs lsA hF hH hL hN hret
  exact lv_goto hF.1 hF.2.1 hd ht (k p l e s m args below meth c D cs cv base A Q H locs lsA hF hH hL hN hret)
theorem r_tblIn (tgt : Nat) {dflt lo hi off : Int} {offs : Array Int} {len : Nat} {x K : Int32} (hx : x = K) (hd : decode μ.2.1 pc = .ok (.tableswitch dflt lo hi offs, len)) (k : fp_W X μ tgt ls st sh M nc ns Post) (h1 : ¬ K.toInt < lo := by decide) (h2 : ¬ hi < K.toInt := by decide) (ho : offs[(K.toInt - lo).toNat]? = some off := by rfl) (ht : (pc : Int) + off = (tgt : Int) := by decide) : fp_W X μ pc ls (.int x :: st) sh M nc ns Post := by
  intro p l e s m args below meth c D cs cv base A Q H locs lsA hF hH hL hN hret
  subst hx
  exact lv_tableIn hF.1 hF.2.1 hd h1 h2 ho ht (k p l e s m args below meth c D cs cv base A Q H locs lsA hF hH hL hN hret)
theorem r_tblOut (tgt : Nat) {dflt lo hi : Int} {offs : Array Int} {len : Nat} {x : Int32} (hd : decode μ.2.1 pc = .ok (.tableswitch dflt lo hi offs, len)) (hx : x.toInt < lo ∨ hi < x.toInt) (k : fp_W X μ tgt ls st sh M nc ns Post) (ht : (pc : Int) + dflt = (tgt : Int) := by decide) : fp_W X μ pc ls (.int x :: st) sh M nc ns Post := by
  intro p l e s m args below meth c D cs cv base A Q H locs lsA hF hH hL hN hret
  exact lv_tableOut hF.1 hF.2.1 hd hx ht (k p l e s m args below meth c D cs cv base A Q H locs lsA hF hH hL hN hret)
theorem r_iret {v : Int32} {t : FieldType} (hd : decode μ.2.1 pc = .ok (.ireturn, 1)) (hp : Post (some (.int v)) sh M) (ht : μ.2.2.2.1 = some t := by rfl) (hn : narrow t (.int v) = .int v := by rfl) : fp_W X μ pc ls [.int v] sh M nc ns Post := by
  intro p l e s m args below meth c D cs cv base A Q H locs lsA hF hH hL hN hret
  exact hret .ireturn (some (.int v)) pc lsA sh M H locs nc ns hd (Or.inl ⟨rfl, v, t, ht, hn, rfl⟩) hN hp hH
theorem r_lret {v : Int64} (hd : decode μ.2.1 pc = .ok (.lreturn, 1)) (hp : Post (some (.long v)) sh M) (ht : μ.2.2.2.1 = some .long := by rfl) : fp_W X μ pc ls [.long v] sh M nc ns Post := by
  intro p l e s m args below meth c D cs cv base A Q H locs lsA hF hH hL hN hret
  exact hret .lreturn (some (.long v)) pc lsA sh M H locs nc ns hd (Or.inr (Or.inl ⟨rfl, ht, v, rfl⟩)) hN hp hH
theorem r_aret {k : Nat} {t : String} (hd : decode μ.2.1 pc = .ok (.areturn, 1)) (hp : Post (some (.ref k)) sh M) (h1 : 100 ≤ k := by decide) (h2 : k < 112 := by decide) (ht : μ.2.2.2.1 = some (.object t) := by rfl) : fp_W X μ pc ls [.ref k] sh M nc ns Post := by
  intro p l e s m args below meth c D cs cv base A Q H locs lsA hF hH hL hN hret
  exact hret .areturn (some (.ref k)) pc lsA sh M H locs nc ns hd (Or.inr (Or.inr (Or.inl ⟨rfl, k, t, ht, h1, h2, rfl⟩))) hN hp hH
theorem r_vret (hd : decode μ.2.1 pc = .ok (.return_, 1)) (hp : Post none sh M) (ht : μ.2.2.2.1 = none := by rfl) : fp_W X μ pc ls [] sh M nc ns Post := by
  intro p l e s m args below meth c D cs cv base A Q H locs lsA hF hH hL hN hret
  exact hret .return_ none pc lsA sh M H locs nc ns hd (Or.inr (Or.inr (Or.inr ⟨rfl, ht, rfl⟩))) hN hp hH
end FPR
