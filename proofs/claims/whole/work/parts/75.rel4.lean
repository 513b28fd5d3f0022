/-! ===== calls told alike 2: charts ===== -/
theorem k_first_cg' {P Q : Nat → Bool} : ∀ (n i : Nat), (∀ j, i ≤ j → j < i + n → P j = Q j) → k_first P n i = k_first Q n i
  | 0, _, _ => rfl
  | n + 1, i, h => by
    unfold k_first
    rw [h i (Nat.le_refl i) (by omega), k_first_cg' n (i + 1) (fun j a b => h j (by omega) (by omega))]
theorem q_C.mid {T : q_M} (h : q_C T) {f t : Nat} (hf : f < 8) (ht : t < 8) {v : Int} (h1 : -(T t f) ≤ v) (h2 : v ≤ T f t) : ∃ x, q_S T x ∧ x t - x f = v := by
  have hC := q_lim_C (m := v) h hf ht h1
  refine ⟨fun k => q_lim T f t v f k, ((q_lim_S (m := v) h hf ht _).mp (hC.pt hf)).1, ?_⟩
  have e1 := hC.1 f hf
  have e2 : q_lim T f t v f t = v := by
    have a1 := h.1 f hf
    have a2 := h.1 t ht
    unfold q_lim
    split <;> omega
  show q_lim T f t v f t - q_lim T f t v f f = v
  omega
section WD
variable {A B : fp_M} {c : Nat}
theorem w_Tb (O : w_O A B 1 50 c) (v : w_v A 1 c) {set : Int32} (h : k_can A c set) {a b : Nat} (ha : a < 8) (hb : b < 8) : (-999 ≤ (k_T (k_ch A c set) a b).toInt ∧ (k_T (k_ch A c set) a b).toInt ≤ 999) ∧ 0 ≤ (k_T (k_ch A c set) a b).toInt + (k_T (k_ch A c set) b a).toInt := by
  rcases w_kJ O v v.1 set with ⟨a1, a2, a3, a4⟩ | ⟨a1, a2⟩
  · have r1 := a2.bd a3 a b ha hb
    have r2 := a2.2 a a b ha ha hb
    have r3 := a2.1 a ha
    refine ⟨r1, ?_⟩
    show 0 ≤ q_T (k_draw A c set (A 1 2)) a b + q_T (k_draw A c set (A 1 2)) b a
    omega
  · exact absurd a1 h
theorem w_chR (R : w_Rc A B c) (s1 s2 : Int32) : w_Rc (k_ch A c s1) (g_cm B c s2) c := R.cg (k_ch_ech A c s1).wa (g_cm_e (w_gwf R.1 R.2.1)).wb
theorem w_chS (R : w_Rc A B c) {s1 s2 u v : Int32} (e : u = v) : w_St A B ((u, k_ch A c s1) : Int32 × fp_M) (v, g_cm B c s2) := ⟨e, (w_chR R s1 s2).r, (k_ch_ech A c s1).wc, (g_cm_e (w_gwf R.1 R.2.1)).wg⟩
theorem w_chF (R : w_Rc A B c) {s1 s2 u v : Int32} {w : Nat} (hw : w < 7) (e : u = v) : w_St A B ((u, k_fd (k_ch A c s1) w) : Int32 × fp_M) (v, g_fd (g_cm B c s2) w) := w_fd (w_chR R s1 s2).r (k_ch_ech A c s1).wc (g_cm_e (w_gwf R.1 R.2.1)).wg hw e
theorem w_gcc (R : w_Rc A B c) : g_cc B c = g_cm B c (k_cn A c) := by
  show g_cm B c (nI (g_con B (B 50 1 + 0) c)) = _
  rw [w_cn R.1]
theorem w_no (R : w_Rc A B c) {set : Int32} : k_ch A c set 34 0 = 0 ↔ g_ok (g_cm B c set) = 0 := by
  have h := w_can R.1 R.2.1 set
  constructor
  · intro q
    exact Classical.byContradiction fun z => h.mpr z q
  · intro q
    exact Classical.byContradiction fun z => h.mp z q
theorem w_fits (R : w_Rc A B c) : w_St A B (sp_fits A c) (sg_fits B c) := by
  unfold sp_fits sg_fits
  rw [w_gcc R]
  refine w_chS R ?_
  by_cases q : k_ch A c (k_cn A c) 34 0 = 0
  · rw [if_pos q, if_pos ((w_no R).mp q)]
  · rw [if_neg q, if_neg (fun z => q ((w_no R).mpr z))]
theorem w_span (R : w_Rc A B c) {a b w : Int32} : w_St A B (sp_span A c a b w) (sg_span B c a b w) := by
  unfold sp_span sg_span
  rw [w_gcc R]
  by_cases h : k_pair a b ∧ (0 ≤ w ∧ w ≤ 2)
  · rw [if_pos h, if_pos h]
    obtain ⟨ea, la⟩ := g_v7 h.1.1
    obtain ⟨eb, lb⟩ := g_v7 h.1.2.1
    by_cases q : k_ch A c (k_cn A c) 34 0 = 0
    · rw [if_pos q, if_pos ((w_no R).mp q)]
      exact w_chF R (by decide) (by decide)
    · rw [if_neg q, if_neg (fun z => q ((w_no R).mpr z)), w_wid R.1 R.2.1 q la lb, w_ch R.1 R.2.1 q la lb, w_ch R.1 R.2.1 q lb la]
      by_cases h0 : w = 0
      · rw [if_pos h0, if_pos h0]; exact w_chS R rfl
      · rw [if_neg h0, if_neg h0]
        by_cases h1 : w = 1
        · rw [if_pos h1, if_pos h1]; exact w_chS R rfl
        · rw [if_neg h1, if_neg h1]; exact w_chS R rfl
  · rw [if_neg h, if_neg h]
    exact w_fd0 R.r (by decide) (by decide)
theorem w_sure (R : w_Rc A B c) {a : Int32} : w_St A B (sp_sure A c a) (sg_sure B c a) := by
  unfold sp_sure sg_sure
  rw [w_gcc R]
  by_cases h : 0 ≤ a ∧ a ≤ 7
  · rw [if_pos h, if_pos h]
    obtain ⟨ea, la⟩ := g_v7 h
    by_cases q : k_ch A c (k_cn A c) 34 0 = 0
    · rw [if_pos q, if_pos ((w_no R).mp q)]
      exact w_chF R (by decide) (by decide)
    · rw [if_neg q, if_neg (fun z => q ((w_no R).mpr z))]
      refine w_chS R (congrArg nI (k_bn_cg 8 fun i hi => ?_))
      rw [w_wid R.1 R.2.1 q la hi]
  · rw [if_neg h, if_neg h]
    exact w_fd0 R.r (by decide) (by decide)
theorem w_below (R : w_Rc A B c) {a : Int32} : w_St A B (sp_below A c a) (sg_below B c a) := by
  unfold sp_below sg_below
  rw [w_gcc R]
  by_cases h : 0 ≤ a ∧ a ≤ 7
  · rw [if_pos h, if_pos h]
    obtain ⟨ea, la⟩ := g_v7 h
    by_cases q : k_ch A c (k_cn A c) 34 0 = 0
    · rw [if_pos q, if_pos ((w_no R).mp q)]
      exact w_chF R (by decide) (by decide)
    · rw [if_neg q, if_neg (fun z => q ((w_no R).mpr z))]
      refine w_chS R (congrArg nI (k_bn_cg 8 fun i hi => decide_eq_decide.mpr ?_))
      rw [w_ch R.1 R.2.1 q hi la]
      have b := (w_Tb R.1 R.2.1 q hi la).1
      have en : (-(k_T (k_ch A c (k_cn A c)) i (k_v a))).toInt = -(k_T (k_ch A c (k_cn A c)) i (k_v a)).toInt := q_neg rfl (by omega)
      rw [Int32.lt_iff_toInt_lt, Int32.lt_iff_toInt_lt, en, show (0 : Int32).toInt = 0 from by decide]
      constructor <;> intro z <;> omega
  · rw [if_neg h, if_neg h]
    exact w_fd0 R.r (by decide) (by decide)
theorem w_unknown (R : w_Rc A B c) : w_St A B (sp_unknown A c) (sg_unknown B c) := by
  unfold sp_unknown sg_unknown
  rw [w_gcc R]
  by_cases q : k_ch A c (k_cn A c) 34 0 = 0
  · rw [if_pos q, if_pos ((w_no R).mp q)]
    exact w_chF R (by decide) (by decide)
  · rw [if_neg q, if_neg (fun z => q ((w_no R).mpr z))]
    exact w_chS R (k_allw_cg fun a b ha hb => (w_wid R.1 R.2.1 q ha hb).symm)
theorem w_canC (R : w_Rc A B c) {a b v : Int32} : w_St A B (sp_can A c a b v) (sg_can B c a b v) := by
  unfold sp_can sg_can
  rw [w_gcc R]
  by_cases h : k_pair a b ∧ (-999 ≤ v ∧ v ≤ 999)
  · rw [if_pos h, if_pos h]
    obtain ⟨ea, la⟩ := g_v7 h.1.1
    obtain ⟨eb, lb⟩ := g_v7 h.1.2.1
    refine w_chS R ?_
    by_cases q : k_ch A c (k_cn A c) 34 0 = 0
    · rw [if_neg (fun z => z.1 q), if_neg (fun z => z.1 ((w_no R).mp q))]
    · rw [w_ch R.1 R.2.1 q la lb, w_ch R.1 R.2.1 q lb la]
      have b1 := (w_Tb R.1 R.2.1 q la lb).1
      have b2 := (w_Tb R.1 R.2.1 q lb la).1
      have v1 := Int32.le_iff_toInt_le.mp h.2.1
      have v2 := Int32.le_iff_toInt_le.mp h.2.2
      rw [show (-999 : Int32).toInt = -999 from by decide] at v1
      rw [show (999 : Int32).toInt = 999 from by decide] at v2
      have en : (-(k_T (k_ch A c (k_cn A c)) (k_v b) (k_v a))).toInt = -(k_T (k_ch A c (k_cn A c)) (k_v b) (k_v a)).toInt := q_neg rfl (by omega)
      have ev : (-v).toInt = -v.toInt := q_neg rfl (by omega)
      have e : (-(k_T (k_ch A c (k_cn A c)) (k_v b) (k_v a)) ≤ v) ↔ (-v ≤ k_T (k_ch A c (k_cn A c)) (k_v b) (k_v a)) := by
        rw [Int32.le_iff_toInt_le, Int32.le_iff_toInt_le, en, ev]
        constructor <;> intro z <;> omega
      by_cases z : v ≤ k_T (k_ch A c (k_cn A c)) (k_v a) (k_v b) ∧ -(k_T (k_ch A c (k_cn A c)) (k_v b) (k_v a)) ≤ v
      · rw [if_pos ⟨q, z⟩, if_pos ⟨fun y => q ((w_no R).mpr y), z.1, e.mp z.2⟩]
      · rw [if_neg (fun y => z y.2), if_neg (fun y => z ⟨y.2.1, e.mpr y.2.2⟩)]
  · rw [if_neg h, if_neg h]
    exact w_fd0 R.r (by decide) (by decide)
theorem w_p2 : ∀ c, c ≤ 8 → ((1 : Int32) <<< (nI c &&& 31)).toInt = 2 ^ c ∧ ((1 : Int32) <<< (nI c &&& 31) - 1).toInt = 2 ^ c - 1 := by decide +kernel
theorem w_set (R : w_Rc A B c) {a : Int32} : v_set A a ↔ g_set B a := by
  have h := w_p2 c R.1.1
  show (0 ≤ a ∧ a < 1 <<< (A 1 1 &&& 31)) ↔ (0 ≤ a ∧ a ≤ (1 : Int32) <<< (B 50 0 &&& 31) - 1)
  rw [R.1.2.1, R.1.2.2.1, Int32.lt_iff_toInt_lt, Int32.le_iff_toInt_le (y := (1 : Int32) <<< (nI c &&& 31) - 1), h.1, h.2]
  constructor
  · rintro ⟨z1, z2⟩
    exact ⟨z1, by omega⟩
  · rintro ⟨z1, z2⟩
    exact ⟨z1, by omega⟩
theorem w_agree (R : w_Rc A B c) {a : Int32} : w_St A B (sp_agree A c a) (sg_agree B c a) := by
  unfold sp_agree sg_agree
  by_cases h : v_set A a
  · rw [if_pos h, if_pos ((w_set R).mp h)]
    refine w_chS R ?_
    by_cases q : k_ch A c a 34 0 = 0
    · rw [if_pos q, if_pos ((w_no R).mp q)]
    · rw [if_neg q, if_neg (fun z => q ((w_no R).mpr z))]
  · rw [if_neg h, if_neg (fun z => h ((w_set R).mpr z))]
    exact w_fd0 R.r (by decide) (by decide)
theorem w_wb (R : w_Rc A B c) (o : Option Nat) (f : Nat → Int32) : w_St A B ((k_wv o f 3, k_wb A o 3) : Int32 × fp_M) (k_wv o f 3, g_wb B o) := by
  cases o with
  | none => exact w_fd0 R.r (by decide) rfl
  | some n => exact w_St.id R.r rfl
theorem w_whenE (R : w_Rc A B c) : g_when B c 501 0 = k_when A c 501 0 := by
  refine k_first_cg' 501 0 fun j _ _ => decide_eq_decide.mpr ?_
  rw [w_dn R.1]
  exact not_congr (w_can R.1 R.2.1 _).symm
theorem w_when (R : w_Rc A B c) : w_St A B ((k_wv (k_when A c 501 0) nI 3, k_wb A (k_when A c 501 0) 3) : Int32 × fp_M) (k_wv (g_when B c 501 0) nI 3, g_wb B (g_when B c 501 0)) := by
  rw [w_whenE R]
  exact w_wb R _ _
theorem w_known (R : w_Rc A B c) {a b : Int32} : w_St A B (sp_known A c a b) (sg_known B c a b) := by
  unfold sp_known sg_known
  by_cases h : k_pair a b
  · rw [if_pos h, if_pos h]
    obtain ⟨ea, la⟩ := g_v7 h.1
    obtain ⟨eb, lb⟩ := g_v7 h.2.1
    have e : g_known B c (k_v a) (k_v b) 501 0 = k_known A c (k_v a) (k_v b) 501 0 := by
      refine k_first_cg' 501 0 fun j _ _ => decide_eq_decide.mpr ?_
      rw [w_dn R.1]
      constructor
      · rintro ⟨z1, z2⟩
        have q := (w_can R.1 R.2.1 _).mpr z1
        exact ⟨q, by rw [← w_wid R.1 R.2.1 q la lb]; exact z2⟩
      · rintro ⟨q, z2⟩
        exact ⟨(w_can R.1 R.2.1 _).mp q, by rw [w_wid R.1 R.2.1 q la lb]; exact z2⟩
    rw [e]
    exact w_wb R _ _
  · rw [if_neg h, if_neg h]
    exact w_fd0 R.r (by decide) (by decide)
theorem w_suspects (R : w_Rc A B c) : w_St A B ((nI (k_susp A c (k_cn A c) c), A) : Int32 × fp_M) (nI (g_susp B c (g_cn B c) c), B) := by
  refine w_St.id R.r (congrArg nI ?_)
  rw [show g_cn B c = k_cn A c from w_cn R.1]
  refine k_bn_cg c fun i hi => decide_eq_decide.mpr ?_
  exact and_congr_right fun _ => w_can R.1 R.2.1 _
theorem w_implied (R : w_Rc A B c) : w_St A B (sp_implied A c) (sg_implied B c) := by
  unfold sp_implied sg_implied
  rw [show g_cn B c = k_cn A c from w_cn R.1]
  by_cases q : k_can A c (k_cn A c)
  · rw [if_pos q, if_pos ((w_can R.1 R.2.1 _).mp q)]
    refine w_St.id R.r (congrArg nI (k_bn_cg c fun i hi => decide_eq_decide.mpr ?_))
    obtain ⟨g1, g2, g3, g4, g5⟩ := w_gl R.1 R.2.1 i hi
    show ((k_isin (k_cn A c) i ∧ k_can A c (k_wo (k_cn A c) i)) ∧ _) ↔ ((k_isin (k_cn A c) i ∧ g_hold B c (k_wo (k_cn A c) i)) ∧ _)
    rw [w_least R.1 hi, w_most R.1 hi]
    constructor
    · rintro ⟨⟨z1, z2⟩, z3, z4⟩
      refine ⟨⟨z1, (w_can R.1 R.2.1 _).mp z2⟩, ?_, ?_⟩
      · show g_cm B c _ 58 (8 * q_gf B i + q_gt B i) ≤ _
        rw [← g1, ← g2, w_ch R.1 R.2.1 z2 g3 g4]
        exact z4
      · show _ ≤ -(g_cm B c _ 58 (8 * q_gt B i + q_gf B i))
        rw [← g1, ← g2, w_ch R.1 R.2.1 z2 g4 g3]
        exact z3
    · rintro ⟨⟨z1, z2⟩, z3, z4⟩
      have z2' := (w_can R.1 R.2.1 _).mpr z2
      have z3' : g_cm B c (k_wo (k_cn A c) i) 58 (8 * q_gf B i + q_gt B i) ≤ _ := z3
      have z4' : _ ≤ -(g_cm B c (k_wo (k_cn A c) i) 58 (8 * q_gt B i + q_gf B i)) := z4
      rw [← g1, ← g2, w_ch R.1 R.2.1 z2' g3 g4] at z3'
      rw [← g1, ← g2, w_ch R.1 R.2.1 z2' g4 g3] at z4'
      exact ⟨⟨z1, z2'⟩, z4', z3'⟩
  · rw [if_neg q, if_neg (fun z => q ((w_can R.1 R.2.1 _).mpr z))]
    exact w_fd0 R.r (by decide) (by decide)
/-! the widest pair -/
theorem k_it_add {α : Type} (f : Nat → α → α) : ∀ (m n i : Nat) (s : α), k_it f (m + n) i s = k_it f n (i + m) (k_it f m i s)
  | 0, n, i, s => by rw [Nat.zero_add, Nat.add_zero]; rfl
  | m + 1, n, i, s => by
    rw [show m + 1 + n = (m + n) + 1 by omega, k_it_s, k_it_s, k_it_add f m n (i + 1), show i + 1 + m = i + (m + 1) by omega]
theorem k_it_8 {α : Type} (f : Nat → α → α) : ∀ (n i : Nat) (s : α), k_it f (8 * n) (8 * i) s = k_it (fun a s => k_it f 8 (8 * a) s) n i s
  | 0, i, s => rfl
  | n + 1, i, s => by
    rw [show 8 * (n + 1) = 8 + 8 * n by omega, k_it_add, show 8 * i + 8 = 8 * (i + 1) by omega, k_it_8 f n (i + 1)]
    rfl
/-- best pair so far on both sides -/
def w_bp (w : Nat → Nat → Int32) (s : Int32 × Int32) (b : Nat) : Prop := b < 64 ∧ s.1 = nI b ∧ s.2 = w (b / 8) (b % 8)
theorem w_bp_row {N : fp_M} {w : Nat → Nat → Int32} (hw : ∀ a b, a < 8 → b < 8 → g_wid N a b = w a b) {a : Nat} (ha : a < 8) : ∀ (n j : Nat), j + n = 8 → a < j → ∀ (s : Int32 × Int32) (b : Nat), w_bp w s b → w_bp w (k_it (k_wpj w a) n j s) (k_it (g_wk N) n (8 * a + j) b) := by
  intro n
  induction n with
  | zero => intro j _ _ s b h; exact h
  | succ n ih =>
    intro j hj hja s b h
    rw [k_it_s, k_it_s, show 8 * a + j + 1 = 8 * a + (j + 1) by omega]
    refine ih (j + 1) (by omega) (by omega) _ _ ?_
    obtain ⟨h1, h2, h3⟩ := h
    have e1 : (8 * a + j) / 8 = a := by omega
    have e2 : (8 * a + j) % 8 = j := by omega
    unfold k_wpj g_wk
    rw [e1, e2, hw a j ha (by omega), hw (b / 8) (b % 8) (by omega) (by omega), h3]
    by_cases q : w (b / 8) (b % 8) < w a j
    · rw [if_pos q, if_pos ⟨hja, q⟩]
      exact ⟨by omega, rfl, by rw [e1, e2]⟩
    · rw [if_neg q, if_neg (fun z => q z.2)]
      exact ⟨h1, h2, h3⟩
theorem g_wk_no {N : fp_M} {a : Nat} : ∀ (n j b : Nat), j + n ≤ a + 1 → a < 8 → k_it (g_wk N) n (8 * a + j) b = b := by
  intro n
  induction n with
  | zero => intro j b _ _; rfl
  | succ n ih =>
    intro j b hj ha
    rw [k_it_s, show 8 * a + j + 1 = 8 * a + (j + 1) by omega, ih (j + 1) _ (by omega) ha]
    unfold g_wk
    rw [if_neg (fun z => by have := z.1; omega)]
theorem w_bp_all {N : fp_M} {w : Nat → Nat → Int32} (hw : ∀ a b, a < 8 → b < 8 → g_wid N a b = w a b) : ∀ (n a : Nat), a + n = 8 → ∀ (s : Int32 × Int32) (b : Nat), w_bp w s b → w_bp w (k_it (fun a s => k_it (k_wpj w a) (7 - a) (a + 1) s) n a s) (k_it (fun a b => k_it (g_wk N) 8 (8 * a) b) n a b) := by
  intro n
  induction n with
  | zero => intro a _ s b h; exact h
  | succ n ih =>
    intro a ha s b h
    rw [k_it_s, k_it_s]
    refine ih (a + 1) (by omega) _ _ ?_
    have e : k_it (g_wk N) 8 (8 * a) b = k_it (g_wk N) (7 - a) (8 * a + (a + 1)) b := by
      have e1 := k_it_add (g_wk N) (a + 1) (7 - a) (8 * a) b
      rw [show a + 1 + (7 - a) = 8 by omega] at e1
      rw [e1]
      have e2 : k_it (g_wk N) (a + 1) (8 * a) b = b := g_wk_no (N := N) (a := a) (a + 1) 0 b (by omega) (by omega)
      rw [e2]
    show w_bp w (k_it (k_wpj w a) (7 - a) (a + 1) s) (k_it (g_wk N) 8 (8 * a) b)
    rw [e]
    exact w_bp_row hw (by omega) (7 - a) (a + 1) (by omega) (by omega) s b h
theorem w_bp_wp {N : fp_M} {w : Nat → Nat → Int32} (hw : ∀ a b, a < 8 → b < 8 → g_wid N a b = w a b) (h0 : 0 < w 0 1) : (k_wp w).1 = nI (k_it (g_wk N) 62 2 1) := by
  have e1 : k_it (g_wk N) 62 2 1 = k_it (fun a b => k_it (g_wk N) 8 (8 * a) b) 8 0 1 := by
    rw [← k_it_8 (g_wk N) 8 0 1, show 8 * 8 = 2 + 62 from rfl, k_it_add (g_wk N) 2 62]
    have e : k_it (g_wk N) 2 (8 * 0) 1 = 1 := by
      show g_wk N 1 (g_wk N 0 1) = 1
      have z0 : g_wk N 0 1 = 1 := if_neg (fun z => absurd z.1 (by decide))
      rw [z0]
      exact if_neg (fun z => by
        have := Int32.lt_iff_toInt_lt.mp z.2
        omega)
    rw [e]
  have e2 : k_wp w = k_it (fun a s => k_it (k_wpj w a) (7 - a) (a + 1) s) 8 0 (1, w 0 1) := by
    have e3 : k_it (k_wpj w 0) (7 - 0) (0 + 1) (1, 0) = k_it (k_wpj w 0) (7 - 0) (0 + 1) (1, w 0 1) := by
      show k_it (k_wpj w 0) 6 2 (k_wpj w 0 1 (1, 0)) = k_it (k_wpj w 0) 6 2 (k_wpj w 0 1 (1, w 0 1))
      have z1 : k_wpj w 0 1 (1, 0) = (1, w 0 1) := if_pos h0
      have z2 : k_wpj w 0 1 (1, w 0 1) = (1, w 0 1) := if_neg (fun z => by
        have z' : w 0 1 < w 0 1 := z
        have := Int32.lt_iff_toInt_lt.mp z'
        omega)
      rw [z1, z2]
    show k_it (fun a s => k_it (k_wpj w a) (7 - a) (a + 1) s) 7 1 (k_it (k_wpj w 0) (7 - 0) (0 + 1) (1, 0)) = k_it (fun a s => k_it (k_wpj w a) (7 - a) (a + 1) s) 7 1 (k_it (k_wpj w 0) (7 - 0) (0 + 1) (1, w 0 1))
    rw [e3]
  rw [e1, e2]
  exact (w_bp_all hw 8 0 (by omega) (1, w 0 1) 1 ⟨by decide, rfl, rfl⟩).2.1
theorem w_wid1 (O : w_O A B 1 50 c) (v : w_v A 1 c) {set : Int32} (h : k_can A c set) {a b : Nat} (ha : a < 8) (hb : b < 8) : 1 ≤ (k_wid (k_ch A c set) a b).toInt ∧ (k_wid (k_ch A c set) a b).toInt ≤ 1999 := by
  have b1 := w_Tb O v h ha hb
  have b2 := w_Tb O v h hb ha
  show 1 ≤ (k_T (k_ch A c set) a b - -(k_T (k_ch A c set) b a) + 1).toInt ∧ (k_T (k_ch A c set) a b - -(k_T (k_ch A c set) b a) + 1).toInt ≤ 1999
  rw [Int32.sub_neg]
  have e1 : (k_T (k_ch A c set) a b + k_T (k_ch A c set) b a).toInt = (k_T (k_ch A c set) a b).toInt + (k_T (k_ch A c set) b a).toInt := q_add rfl rfl (by omega)
  have e2 : (k_T (k_ch A c set) a b + k_T (k_ch A c set) b a + 1).toInt = (k_T (k_ch A c set) a b).toInt + (k_T (k_ch A c set) b a).toInt + 1 := q_add e1 (show (1 : Int32).toInt = 1 from by decide) (by omega)
  rw [e2]
  omega
theorem w_widest (R : w_Rc A B c) : w_St A B (sp_widest A c) (sg_widest B c) := by
  unfold sp_widest sg_widest
  rw [w_gcc R]
  by_cases q : k_ch A c (k_cn A c) 34 0 = 0
  · rw [if_pos q, if_pos ((w_no R).mp q)]
    exact w_chF R (by decide) (by decide)
  · rw [if_neg q, if_neg (fun z => q ((w_no R).mpr z))]
    refine w_chS R (w_bp_wp (fun a b ha hb => w_wid R.1 R.2.1 q ha hb) ?_)
    rw [Int32.lt_iff_toInt_lt, show (0 : Int32).toInt = 0 from by decide]
    have h1 := (w_wid1 R.1 R.2.1 q (show 0 < 8 by decide) (show 1 < 8 by decide)).1
    exact Int.lt_of_lt_of_le (by decide) h1
end WD
