/-! ===== the other one: the fewest ===== -/
/-- its matrix hangs on its row alone -/
def g_Rx (s s' : fp_M) : Prop := s 50 = s' 50 ∧ ∀ j, j < 64 → s 58 j = s' 58 j
theorem g_Rx.w {s s' : fp_M} (h : g_Rx s s') {j : Nat} {v : Int32} : g_Rx (fp_wr s 58 j v) (fp_wr s' 58 j v) := by
  refine ⟨?_, fun i hi => ?_⟩
  · rw [fp_wr_row (by decide), fp_wr_row (by decide)]; exact h.1
  · show (if 58 = 58 ∧ i = j then v else s 58 i) = (if 58 = 58 ∧ i = j then v else s' 58 i)
    rw [h.2 i hi]
theorem g_Rx.b {s s' : fp_M} (h : g_Rx s s') {a b : Nat} (ha : a < 8) (hb : b < 8) {v : Int32} : g_Rx (g_bind s a b v) (g_bind s' a b v) := by
  unfold g_bind
  rw [h.2 _ (by omega)]
  exact h.w
theorem g_Rx.lay {m M : fp_M} {c : Nat} {set : Int32} (h : m 50 = M 50) (hw : g_wf M c) : g_Rx (g_lay m c set) (g_lay M c set) := by
  unfold g_lay
  refine k_it_rel (fun s s' : fp_M => g_Rx s s' ∧ s' 50 = M 50) c 0 (fun i _ hi s s' hs => ?_) _ _ ?_ |>.1
  · obtain ⟨f, t, hf8, ht8, hf, ht, _⟩ := hw.2.2 i (by omega)
    have ef : k_v (s' 50 (5 + 6 * i + 1)) = f := by show (s' 50 (5 + 6 * i + 1)).toNatClampNeg = f; rw [hs.2, hf]; exact nI_clamp (by omega)
    have et : k_v (s' 50 (5 + 6 * i + 2)) = t := by show (s' 50 (5 + 6 * i + 2)).toNatClampNeg = t; rw [hs.2, ht]; exact nI_clamp (by omega)
    unfold g_dr
    split
    · have e5 : g_most s i = g_most s' i := by unfold g_most; rw [hs.1.1]
      have e6 : g_least s i = g_least s' i := by unfold g_least; rw [hs.1.1]
      rw [hs.1.1, ef, et, e5, e6]
      refine ⟨(hs.1.b hf8 ht8).b ht8 hf8, ?_⟩
      unfold g_bind
      rw [fp_wr_row (by decide), fp_wr_row (by decide)]
      exact hs.2
    · exact hs
  · refine ⟨⟨?_, fun j hj => ?_⟩, ?_⟩
    · funext j; rw [g_c1_at, g_c1_at, if_neg (by omega), if_neg (by omega), h]
    · have q : 58 = 58 ∧ 0 ≤ j ∧ j < 0 + 64 := ⟨rfl, by omega, by omega⟩
      rw [g_c1_at, g_c1_at, if_pos q, if_pos q]
    · funext j; rw [g_c1_at, if_neg (by omega)]
theorem g_Rx.fol {s s' : fp_M} (h : g_Rx s s') : g_Rx (g_fol s) (g_fol s') := by
  unfold g_fol
  refine k_it_rel g_Rx 8 0 (fun b _ hb s s' hs => ?_) s s' h
  refine k_it_rel g_Rx 64 0 (fun k _ hk s s' hs => ?_) s s' hs
  unfold g_fw
  rw [hs.2 k (by omega), hs.2 (8 * (k / 8) + b) (by omega), hs.2 (8 * b + k % 8) (by omega)]
  exact hs.w
theorem g_cm_Rx {m M : fp_M} {c : Nat} {set : Int32} (h : m 50 = M 50) (hw : g_wf M c) : g_Rx (g_cm m c set) (g_cm M c set) := (g_Rx.lay h hw).fol
theorem g_ok_Rx {s s' : fp_M} (h : g_Rx s s') : g_ok s = g_ok s' := by
  unfold g_ok
  exact k_it_cg 8 0 (fun j _ hj v => by rw [h.2 (8 * j + j) (by omega)]) 1
theorem g_hold_Rx {m M : fp_M} {c : Nat} {set : Int32} (h : m 50 = M 50) (hw : g_wf M c) : g_hold m c set ↔ g_hold M c set := by
  unfold g_hold
  rw [g_ok_Rx (g_cm_Rx h hw)]
/-- beside scratch all stays -/
def g_x (M m : fp_M) : Prop := ∀ k j, ¬ k = 58 → ¬ (k = 49 ∧ 11 ≤ j) → ¬ k = 52 → m k j = M k j
theorem g_x_refl (M : fp_M) : g_x M M := fun _ _ _ _ _ => rfl
theorem g_x.tr {M m m' : fp_M} (h : g_x M m) (h2 : g_x m m') : g_x M m' := fun k j a b d => (h2 k j a b d).trans (h k j a b d)
theorem g_e.x {M m : fp_M} (h : g_e M m) : g_x M m := fun k j a _ _ => h k j (fun q => a q.1)
theorem g_x_w49 {M : fp_M} {j : Nat} {v : Int32} (hj : 11 ≤ j) : g_x M (fp_wr M 49 j v) := by
  intro k i _ h _
  unfold fp_wr
  rw [if_neg (fun q => h ⟨q.1, by omega⟩)]
def g_ob : Option Nat → Int32
  | none => -1
  | some x => nI x
def g_le1 (o : Nat) : Option Nat → Prop
  | none => True
  | some x => k_bc (nI o) ≤ k_bc (nI x)
def g_lt1 (o : Nat) : Option Nat → Prop
  | none => True
  | some x => k_bc (nI o) < k_bc (nI x)
abbrev g_rest (S o : Nat) (more : Int32) : Int32 := nI S &&& (nI o ^^^ (-1)) ||| more
abbrev g_sub (S o : Nat) : Prop := nI o &&& (nI S ^^^ (-1)) = 0
noncomputable def g_fs (M : fp_M) (c S : Nat) (more : Int32) (o : Nat) (s : Option Nat × Int32) : Option Nat × Int32 := by
  classical exact if g_sub S o ∧ g_le1 o s.1 ∧ g_hold M c (g_rest S o more) then (if g_lt1 o s.1 then (some o, 1) else (s.1, s.2 + 1)) else s
theorem g_fs_no {M : fp_M} {c S o : Nat} {more : Int32} {s : Option Nat × Int32} (h : ¬ (g_sub S o ∧ g_le1 o s.1 ∧ g_hold M c (g_rest S o more))) : g_fs M c S more o s = s := by
  unfold g_fs
  rw [if_neg h]
theorem g_fs_lt {M : fp_M} {c S o : Nat} {more : Int32} {s : Option Nat × Int32} (h : g_sub S o ∧ g_le1 o s.1 ∧ g_hold M c (g_rest S o more)) (h2 : g_lt1 o s.1) : g_fs M c S more o s = (some o, 1) := by
  unfold g_fs
  rw [if_pos h, if_pos h2]
theorem g_fs_eq {M : fp_M} {c S o : Nat} {more : Int32} {s : Option Nat × Int32} (h : g_sub S o ∧ g_le1 o s.1 ∧ g_hold M c (g_rest S o more)) (h2 : ¬ g_lt1 o s.1) : g_fs M c S more o s = (s.1, s.2 + 1) := by
  unfold g_fs
  rw [if_pos h, if_neg h2]
theorem g_e.at49 {M N : fp_M} {a : Int32} (h : g_e (fp_wr M 49 11 a) N) : N 49 11 = a := (h 49 11 (fun q => absurd q.1 (by decide))).trans fp_wr_eq
theorem g_e.w49 {M N : fp_M} {a v : Int32} (h : g_e (fp_wr M 49 11 a) N) : g_e (fp_wr M 49 11 v) (fp_wr N 49 11 v) := by
  intro k j q
  have e := h k j q
  unfold fp_wr at e ⊢
  by_cases h2 : k = 49 ∧ j = 11
  · rw [if_pos h2, if_pos h2]
  · rw [if_neg h2] at e
    rw [if_neg h2, if_neg h2, e]
theorem g_wf.w49 {M : fp_M} {c j : Nat} {v : Int32} (h : g_wf M c) : g_wf (fp_wr M 49 j v) c := h.w58 (by decide)
theorem lp_X6_fewestOf {X : fp_X} {M : fp_M} {c S : Nat} {more : Int32} (hw : g_wf M c) (hS : S < 256) : ∀ (n o : Nat), o + n = S + 1 → ∀ (N : fp_M) (b : Option Nat) (a : Int32) (w5 : Option Value), (∀ x, b = some x → x < 256) → g_e (fp_wr M 49 11 a) N → fp_W X mX6_fewestOf 10 [some (.ref 49), some (.int (nI S)), some (.int more), some (.int (g_ob b)), some (.int (nI o)), w5] [] fp_sh N 0 0 (fun r s m => r = some (.int (g_ob (k_it (g_fs M c S more) n o (b, a)).1)) ∧ s = fp_sh ∧ g_e (fp_wr M 49 11 (k_it (g_fs M c S more) n o (b, a)).2) m) := by
  have ts : (nI S).toInt = (S : Int) := nI_toInt (by omega)
  intro n
  induction n with
  | zero =>
    intro o ho N b a w5 hx hN
    have to : (nI o).toInt = (o : Int) := nI_toInt (by omega)
    refine r_iload dX6_fewestOf_10 rfl ?_
    refine r_iloadn dX6_fewestOf_12 rfl ?_
    refine r_icmp_gt 127 dX6_fewestOf_13 (fun h13 => ?_) (fun h13 => ?_)
    · refine r_iloadn dX6_fewestOf_127 rfl ?_
      exact r_iret dX6_fewestOf_128 ⟨rfl, rfl, hN⟩
    · exfalso; simp only [Int32.le_iff_toInt_le, Int32.lt_iff_toInt_lt, Int32.reduceToInt] at h13; omega
  | succ n ih =>
    intro o ho N b a w5 hx hN
    have to : (nI o).toInt = (o : Int) := nI_toInt (by omega)
    have e50 : N 50 = M 50 := hN.r50.trans (fp_wr_row (by decide))
    cases b with
    | none =>
      refine r_iload dX6_fewestOf_10 rfl ?_
      refine r_iloadn dX6_fewestOf_12 rfl ?_
      refine r_icmp_gt 127 dX6_fewestOf_13 (fun h13 => ?_) (fun h13 => ?_)
      · exfalso; simp only [Int32.le_iff_toInt_le, Int32.lt_iff_toInt_lt, Int32.reduceToInt] at h13; omega
      · refine r_iloadn dX6_fewestOf_16 rfl ?_
        refine r_if_lt 32 dX6_fewestOf_17 (fun h17 => ?_) (fun h17 => ?_)
        · refine r_ic (1) dX6_fewestOf_32 ?_
          refine r_goto 37 dX6_fewestOf_33 ?_
          refine r_istore5 dX6_fewestOf_37 ?_
          refine r_iload dX6_fewestOf_39 rfl ?_
          refine r_iloadn dX6_fewestOf_41 rfl ?_
          refine r_ic (-1) dX6_fewestOf_42 ?_
          refine r_ixor dX6_fewestOf_43 ?_
          refine r_iand dX6_fewestOf_44 ?_
          refine r_if_ne 121 dX6_fewestOf_45 (fun h45 => ?_) (fun h45 => ?_)
          · refine r_iinc4 (1) dX6_fewestOf_121 ?_
            refine r_goto 10 dX6_fewestOf_124 ?_
            rw [nI_1, k_it_s]
            rw [g_fs_no (s := (none, a)) (fun q => h45 q.1)]
            exact ih (o + 1) (by omega) N none a _ hx hN
          · refine r_iload dX6_fewestOf_48 rfl ?_
            refine r_if_eq 121 dX6_fewestOf_50 (fun h50 => ?_) (fun h50 => ?_)
            · exact absurd h50 (by decide)
            · refine r_aloadn dX6_fewestOf_53 rfl (by decide) ?_
              refine r_iloadn dX6_fewestOf_54 rfl ?_
              refine r_iload dX6_fewestOf_55 rfl ?_
              refine r_ic (-1) dX6_fewestOf_57 ?_
              refine r_ixor dX6_fewestOf_58 ?_
              refine r_iand dX6_fewestOf_59 ?_
              refine r_iloadn dX6_fewestOf_60 rfl ?_
              refine r_ior dX6_fewestOf_61 ?_
              refine c_V1 (μz := mX6_canHold) dX6_fewestOf_62 kl_RX6_122 mv_X6_canHold rfl (ok_X6_canHold (hN.wf hw.w49)) ?_
              refine r_if_eq 121 dX6_fewestOf_65 (fun h65 => ?_) (fun h65 => ?_)
              · refine r_iinc4 (1) dX6_fewestOf_121 ?_
                refine r_goto 10 dX6_fewestOf_124 ?_
                rw [nI_1, k_it_s]
                rw [g_fs_no (s := (none, a)) (fun q => (g_hold_Rx e50 hw).mpr q.2.2 h65)]
                exact ih (o + 1) (by omega) _ none a _ hx (hN.tr (g_cm_e (set := g_rest S o more) (hN.wf hw.w49)))
              · refine r_aloadn dX6_fewestOf_68 rfl (by decide) ?_
                refine r_iloadn dX6_fewestOf_69 rfl ?_
                refine r_if_lt 85 dX6_fewestOf_70 (fun h70 => ?_) (fun h70 => ?_)
                · refine r_ic (1) dX6_fewestOf_85 ?_
                  refine r_goto 95 dX6_fewestOf_86 ?_
                  refine r_putfi dX6_fewestOf_95 kf_RX6_143 rfl rfl ?_
                  refine r_iloadn dX6_fewestOf_98 rfl ?_
                  refine r_if_lt 114 dX6_fewestOf_99 (fun h99 => ?_) (fun h99 => ?_)
                  · refine r_iload dX6_fewestOf_114 rfl ?_
                    refine r_goto 120 dX6_fewestOf_116 ?_
                    refine r_istore3 dX6_fewestOf_120 ?_
                    refine r_iinc4 (1) dX6_fewestOf_121 ?_
                    refine r_goto 10 dX6_fewestOf_124 ?_
                    rw [nI_1, k_it_s]
                    rw [g_fs_lt (s := (none, a)) ⟨h45, trivial, (g_hold_Rx e50 hw).mp h65⟩ (trivial)]
                    exact ih (o + 1) (by omega) _ (some o) 1 _ (fun y hy => by cases hy; omega) (hN.tr (g_cm_e (set := g_rest S o more) (hN.wf hw.w49))).w49
                  · exact absurd (by decide) h99
                · exact absurd (by decide) h70
        · exact absurd (by decide) h17
    | some x =>
      have hx2 := hx x rfl
      refine r_iload dX6_fewestOf_10 rfl ?_
      refine r_iloadn dX6_fewestOf_12 rfl ?_
      refine r_icmp_gt 127 dX6_fewestOf_13 (fun h13 => ?_) (fun h13 => ?_)
      · exfalso; simp only [Int32.le_iff_toInt_le, Int32.lt_iff_toInt_lt, Int32.reduceToInt] at h13; omega
      · refine r_iloadn dX6_fewestOf_16 rfl ?_
        refine r_if_lt 32 dX6_fewestOf_17 (fun h17 => ?_) (fun h17 => ?_)
        · exact absurd h17 (nI_pos (by omega))
        · refine r_iload dX6_fewestOf_20 rfl ?_
          refine c_S1 (μz := mX6_many) dX6_fewestOf_22 kl_RX6_147 ms_X6_many (ok_X6_many (by omega)) ?_
          refine r_iloadn dX6_fewestOf_25 rfl ?_
          refine c_S1 (μz := mX6_many) dX6_fewestOf_26 kl_RX6_147 ms_X6_many (ok_X6_many (by omega)) ?_
          refine r_icmp_gt 36 dX6_fewestOf_29 (fun h29 => ?_) (fun h29 => ?_)
          · refine r_ic (0) dX6_fewestOf_36 ?_
            refine r_istore5 dX6_fewestOf_37 ?_
            refine r_iload dX6_fewestOf_39 rfl ?_
            refine r_iloadn dX6_fewestOf_41 rfl ?_
            refine r_ic (-1) dX6_fewestOf_42 ?_
            refine r_ixor dX6_fewestOf_43 ?_
            refine r_iand dX6_fewestOf_44 ?_
            refine r_if_ne 121 dX6_fewestOf_45 (fun h45 => ?_) (fun h45 => ?_)
            · refine r_iinc4 (1) dX6_fewestOf_121 ?_
              refine r_goto 10 dX6_fewestOf_124 ?_
              rw [nI_1, k_it_s]
              rw [g_fs_no (s := ((some x), a)) (fun q => h45 q.1)]
              exact ih (o + 1) (by omega) N (some x) a _ hx hN
            · refine r_iload dX6_fewestOf_48 rfl ?_
              refine r_if_eq 121 dX6_fewestOf_50 (fun h50 => ?_) (fun h50 => ?_)
              · refine r_iinc4 (1) dX6_fewestOf_121 ?_
                refine r_goto 10 dX6_fewestOf_124 ?_
                rw [nI_1, k_it_s]
                rw [g_fs_no (s := ((some x), a)) (fun q => absurd h29 (Int32.not_lt.mpr q.2.1))]
                exact ih (o + 1) (by omega) N (some x) a _ hx hN
              · exact absurd rfl h50
          · refine r_ic (1) dX6_fewestOf_32 ?_
            refine r_goto 37 dX6_fewestOf_33 ?_
            refine r_istore5 dX6_fewestOf_37 ?_
            refine r_iload dX6_fewestOf_39 rfl ?_
            refine r_iloadn dX6_fewestOf_41 rfl ?_
            refine r_ic (-1) dX6_fewestOf_42 ?_
            refine r_ixor dX6_fewestOf_43 ?_
            refine r_iand dX6_fewestOf_44 ?_
            refine r_if_ne 121 dX6_fewestOf_45 (fun h45 => ?_) (fun h45 => ?_)
            · refine r_iinc4 (1) dX6_fewestOf_121 ?_
              refine r_goto 10 dX6_fewestOf_124 ?_
              rw [nI_1, k_it_s]
              rw [g_fs_no (s := ((some x), a)) (fun q => h45 q.1)]
              exact ih (o + 1) (by omega) N (some x) a _ hx hN
            · refine r_iload dX6_fewestOf_48 rfl ?_
              refine r_if_eq 121 dX6_fewestOf_50 (fun h50 => ?_) (fun h50 => ?_)
              · exact absurd h50 (by decide)
              · refine r_aloadn dX6_fewestOf_53 rfl (by decide) ?_
                refine r_iloadn dX6_fewestOf_54 rfl ?_
                refine r_iload dX6_fewestOf_55 rfl ?_
                refine r_ic (-1) dX6_fewestOf_57 ?_
                refine r_ixor dX6_fewestOf_58 ?_
                refine r_iand dX6_fewestOf_59 ?_
                refine r_iloadn dX6_fewestOf_60 rfl ?_
                refine r_ior dX6_fewestOf_61 ?_
                refine c_V1 (μz := mX6_canHold) dX6_fewestOf_62 kl_RX6_122 mv_X6_canHold rfl (ok_X6_canHold (hN.wf hw.w49)) ?_
                refine r_if_eq 121 dX6_fewestOf_65 (fun h65 => ?_) (fun h65 => ?_)
                · refine r_iinc4 (1) dX6_fewestOf_121 ?_
                  refine r_goto 10 dX6_fewestOf_124 ?_
                  rw [nI_1, k_it_s]
                  rw [g_fs_no (s := ((some x), a)) (fun q => (g_hold_Rx e50 hw).mpr q.2.2 h65)]
                  exact ih (o + 1) (by omega) _ (some x) a _ hx (hN.tr (g_cm_e (set := g_rest S o more) (hN.wf hw.w49)))
                · refine r_aloadn dX6_fewestOf_68 rfl (by decide) ?_
                  refine r_iloadn dX6_fewestOf_69 rfl ?_
                  refine r_if_lt 85 dX6_fewestOf_70 (fun h70 => ?_) (fun h70 => ?_)
                  · exact absurd h70 (nI_pos (by omega))
                  · refine r_iload dX6_fewestOf_73 rfl ?_
                    refine c_S1 (μz := mX6_many) dX6_fewestOf_75 kl_RX6_147 ms_X6_many (ok_X6_many (by omega)) ?_
                    refine r_iloadn dX6_fewestOf_78 rfl ?_
                    refine c_S1 (μz := mX6_many) dX6_fewestOf_79 kl_RX6_147 ms_X6_many (ok_X6_many (by omega)) ?_
                    refine r_icmp_ge 89 dX6_fewestOf_82 (fun h82 => ?_) (fun h82 => ?_)
                    · refine r_aloadn dX6_fewestOf_89 rfl (by decide) ?_
                      refine r_getfi dX6_fewestOf_90 kf_RX6_143 rfl rfl ?_
                      refine r_ic (1) dX6_fewestOf_93 ?_
                      refine r_iadd dX6_fewestOf_94 ?_
                      refine r_putfi dX6_fewestOf_95 kf_RX6_143 rfl rfl ?_
                      refine r_iloadn dX6_fewestOf_98 rfl ?_
                      refine r_if_lt 114 dX6_fewestOf_99 (fun h99 => ?_) (fun h99 => ?_)
                      · exact absurd h99 (nI_pos (by omega))
                      · refine r_iload dX6_fewestOf_102 rfl ?_
                        refine c_S1 (μz := mX6_many) dX6_fewestOf_104 kl_RX6_147 ms_X6_many (ok_X6_many (by omega)) ?_
                        refine r_iloadn dX6_fewestOf_107 rfl ?_
                        refine c_S1 (μz := mX6_many) dX6_fewestOf_108 kl_RX6_147 ms_X6_many (ok_X6_many (by omega)) ?_
                        refine r_icmp_ge 119 dX6_fewestOf_111 (fun h111 => ?_) (fun h111 => ?_)
                        · refine r_iloadn dX6_fewestOf_119 rfl ?_
                          refine r_istore3 dX6_fewestOf_120 ?_
                          refine r_iinc4 (1) dX6_fewestOf_121 ?_
                          refine r_goto 10 dX6_fewestOf_124 ?_
                          rw [nI_1, k_it_s]
                          rw [g_fs_eq (s := ((some x), a)) ⟨h45, Int32.not_lt.mp h29, (g_hold_Rx e50 hw).mp h65⟩ (fun q => absurd h82 (Int32.not_le.mpr q))]
                          rw [(hN.tr (g_cm_e (set := g_rest S o more) (hN.wf hw.w49))).at49]
                          exact ih (o + 1) (by omega) _ (some x) (a + 1) _ hx (hN.tr (g_cm_e (set := g_rest S o more) (hN.wf hw.w49))).w49
                        · exact absurd h82 h111
                    · refine r_ic (1) dX6_fewestOf_85 ?_
                      refine r_goto 95 dX6_fewestOf_86 ?_
                      refine r_putfi dX6_fewestOf_95 kf_RX6_143 rfl rfl ?_
                      refine r_iloadn dX6_fewestOf_98 rfl ?_
                      refine r_if_lt 114 dX6_fewestOf_99 (fun h99 => ?_) (fun h99 => ?_)
                      · exact absurd h99 (nI_pos (by omega))
                      · refine r_iload dX6_fewestOf_102 rfl ?_
                        refine c_S1 (μz := mX6_many) dX6_fewestOf_104 kl_RX6_147 ms_X6_many (ok_X6_many (by omega)) ?_
                        refine r_iloadn dX6_fewestOf_107 rfl ?_
                        refine c_S1 (μz := mX6_many) dX6_fewestOf_108 kl_RX6_147 ms_X6_many (ok_X6_many (by omega)) ?_
                        refine r_icmp_ge 119 dX6_fewestOf_111 (fun h111 => ?_) (fun h111 => ?_)
                        · exact absurd h111 h82
                        · refine r_iload dX6_fewestOf_114 rfl ?_
                          refine r_goto 120 dX6_fewestOf_116 ?_
                          refine r_istore3 dX6_fewestOf_120 ?_
                          refine r_iinc4 (1) dX6_fewestOf_121 ?_
                          refine r_goto 10 dX6_fewestOf_124 ?_
                          rw [nI_1, k_it_s]
                          rw [g_fs_lt (s := ((some x), a)) ⟨h45, Int32.not_lt.mp h29, (g_hold_Rx e50 hw).mp h65⟩ (Int32.not_le.mp h82)]
                          exact ih (o + 1) (by omega) _ (some o) 1 _ (fun y hy => by cases hy; omega) (hN.tr (g_cm_e (set := g_rest S o more) (hN.wf hw.w49))).w49
noncomputable def g_few (M : fp_M) (c S : Nat) (more : Int32) : Option Nat × Int32 := k_it (g_fs M c S more) (S + 1) 0 (none, 0)
theorem ok_X6_fewestOf {X : fp_X} {M : fp_M} {c S : Nat} {more : Int32} (hw : g_wf M c) (hS : S < 256) : fp_Ok X mX6_fewestOf [.ref 49, .int (nI S), .int more] fp_sh M (fun r s m => r = some (.int (g_ob (g_few M c S more).1)) ∧ s = fp_sh ∧ g_e (fp_wr M 49 11 (g_few M c S more).2) m) := by
  refine fp_ok [some (.ref 49), some (.int (nI S)), some (.int more), none, none, none] ?_
  refine r_ic (-1) dX6_fewestOf_0 ?_
  refine r_istore3 dX6_fewestOf_1 ?_
  refine r_aloadn dX6_fewestOf_2 rfl (by decide) ?_
  refine r_ic (0) dX6_fewestOf_3 ?_
  refine r_putfi dX6_fewestOf_4 kf_RX6_143 rfl rfl ?_
  refine r_ic (0) dX6_fewestOf_7 ?_
  refine r_istore4 dX6_fewestOf_8 ?_
  exact lp_X6_fewestOf hw hS (S + 1) 0 (by omega) _ none 0 none (fun y hy => by cases hy) (g_e_refl _)
theorem g_con_lt (M : fp_M) {c : Nat} (d : Int32) (hc : c ≤ 8) : g_con M d c < 256 := Nat.lt_of_lt_of_le (k_bn_lt _ c) (Nat.pow_le_pow_right (by decide) hc)
theorem ok_X6_strike {X : fp_X} {M : fp_M} {c : Nat} (hw : g_wf M c) : fp_Ok X mX6_strike [.ref 49] fp_sh M (fun r s m => r = some (.int (g_ob (g_few M c (g_con M (M 50 1 + 0) c) 0).1)) ∧ s = fp_sh ∧ g_x M m) := by
  refine fp_ok [some (.ref 49)] ?_
  refine r_aloadn dX6_strike_0 rfl (by decide) ?_
  refine r_aloadn dX6_strike_1 rfl (by decide) ?_
  refine r_ic (0) dX6_strike_2 ?_
  refine c_V1 (μz := mX6_countIn) dX6_strike_3 kl_RX6_96 mv_X6_countIn rfl (ok_X6_countIn hw) ?_
  refine r_ic (0) dX6_strike_6 ?_
  refine c_V2w (μz := mX6_fewestOf) dX6_strike_7 kl_RX6_150 mv_X6_fewestOf rfl (ok_X6_fewestOf hw (g_con_lt M _ hw.1)) (fun N hN => ?_)
  exact r_iret dX6_strike_10 ⟨rfl, rfl, (g_x_w49 (by decide)).tr hN.x⟩
theorem ok_X6_strikes {X : fp_X} {M : fp_M} {c : Nat} (hw : g_wf M c) : fp_Ok X mX6_strikes [.ref 49] fp_sh M (fun r s m => r = some (.int (if 0 ≤ g_ob (g_few M c (g_con M (M 50 1 + 0) c) 0).1 then (g_few M c (g_con M (M 50 1 + 0) c) 0).2 else 0)) ∧ s = fp_sh ∧ g_x M m) := by
  refine fp_ok [some (.ref 49), none] ?_
  refine r_aloadn dX6_strikes_0 rfl (by decide) ?_
  refine r_aloadn dX6_strikes_1 rfl (by decide) ?_
  refine r_ic (0) dX6_strikes_2 ?_
  refine c_V1 (μz := mX6_countIn) dX6_strikes_3 kl_RX6_96 mv_X6_countIn rfl (ok_X6_countIn hw) ?_
  refine r_ic (0) dX6_strikes_6 ?_
  refine c_V2w (μz := mX6_fewestOf) dX6_strikes_7 kl_RX6_150 mv_X6_fewestOf rfl (ok_X6_fewestOf hw (g_con_lt M _ hw.1)) (fun N hN => ?_)
  refine r_istore1 dX6_strikes_10 ?_
  refine r_iloadn dX6_strikes_11 rfl ?_
  refine r_if_ge 19 dX6_strikes_12 (fun h12 => ?_) (fun h12 => ?_)
  · refine r_aloadn dX6_strikes_19 rfl (by decide) ?_
    refine r_getfi dX6_strikes_20 kf_RX6_143 rfl rfl ?_
    exact r_iret dX6_strikes_23 ⟨by rw [if_pos h12, hN.at49], rfl, (g_x_w49 (by decide)).tr hN.x⟩
  · refine r_ic (0) dX6_strikes_15 ?_
    refine r_goto 23 dX6_strikes_16 ?_
    exact r_iret dX6_strikes_23 ⟨by rw [if_neg h12], rfl, (g_x_w49 (by decide)).tr hN.x⟩
theorem g_bs {M : fp_M} {c : Nat} {a : Int32} (hw : g_wf M c) (h : 0 ≤ a ∧ a ≤ (1 : Int32) <<< (M 50 0 &&& 31) - 1) : ∃ S, S < 2 ^ c ∧ a = nI S := by
  obtain ⟨n, hn, rfl⟩ := nI_of (Int32.not_lt.mpr h.1)
  refine ⟨n, ?_, rfl⟩
  have h2 := h.2
  rw [hw.2.1, g_pow c hw.1] at h2
  have h3 := (nI_leI hn (Nat.lt_of_le_of_lt (Nat.sub_le _ _) (Nat.lt_of_le_of_lt (Nat.pow_le_pow_right (by decide) hw.1) (by decide)))).mp h2
  have h4 : 0 < 2 ^ c := Nat.pow_pos (by decide)
  omega
abbrev g_set (M : fp_M) (a : Int32) : Prop := 0 ≤ a ∧ a ≤ (1 : Int32) <<< (M 50 0 &&& 31) - 1
noncomputable def sg_merge (M : fp_M) (c : Nat) (a b : Int32) : Int32 × fp_M := if g_set M a ∧ g_set M b then (if g_hold M c a then (g_ob (g_few M c (k_v (b &&& (a ^^^ (-1)))) a).1, M) else (-1000004, g_fd M 3)) else (-1000001, g_fd M 0)
theorem g_few_Rx {m M : fp_M} {c S : Nat} {more : Int32} (h : m 50 = M 50) (hw : g_wf M c) : g_few m c S more = g_few M c S more := by
  unfold g_few
  refine k_it_cg (S + 1) 0 (fun o _ _ s => ?_) _
  unfold g_fs
  have e := g_hold_Rx (set := g_rest S o more) h hw
  by_cases q : g_sub S o ∧ g_le1 o s.1 ∧ g_hold M c (g_rest S o more)
  · rw [if_pos q, if_pos ⟨q.1, q.2.1, e.mpr q.2.2⟩]
  · rw [if_neg q, if_neg (fun z => q ⟨z.1, z.2.1, e.mp z.2.2⟩)]
theorem ok_X6_merge {X : fp_X} {M : fp_M} {c : Nat} {a b : Int32} (hw : g_wf M c) : fp_Ok X mX6_merge [.ref 49, .int a, .int b] fp_sh M (fun r s m => r = some (.int (sg_merge M c a b).1) ∧ s = fp_sh ∧ g_x (sg_merge M c a b).2 m) := by
  refine fp_ok [some (.ref 49), some (.int a), some (.int b)] ?_
  refine r_aloadn dX6_merge_0 rfl (by decide) ?_
  refine r_iloadn dX6_merge_1 rfl ?_
  refine c_V1 (μz := mX6_isSet) dX6_merge_2 kl_RX6_140 mv_X6_isSet rfl ok_X6_isSet ?_
  refine r_if_eq 16 dX6_merge_5 (fun h5 => ?_) (fun h5 => ?_)
  · refine r_aloadn dX6_merge_16 rfl (by decide) ?_
    refine r_ldc dX6_merge_17 kc_RX6_37 ?_
    refine c_V1 (μz := mX6_finds) dX6_merge_19 kl_RX6_47 mv_X6_finds rfl (ok_X6_finds (w := 0) (by decide) (by decide)) ?_
    exact r_iret dX6_merge_22 ⟨by unfold sg_merge; rw [if_neg (fun q => bi_0.mp h5 q.1)], rfl, by unfold sg_merge; rw [if_neg (fun q => bi_0.mp h5 q.1)]; exact g_x_refl _⟩
  · refine r_aloadn dX6_merge_8 rfl (by decide) ?_
    refine r_iloadn dX6_merge_9 rfl ?_
    refine c_V1 (μz := mX6_isSet) dX6_merge_10 kl_RX6_140 mv_X6_isSet rfl ok_X6_isSet ?_
    refine r_if_ne 23 dX6_merge_13 (fun h13 => ?_) (fun h13 => ?_)
    · refine r_aloadn dX6_merge_23 rfl (by decide) ?_
      refine r_iloadn dX6_merge_24 rfl ?_
      refine c_V1 (μz := mX6_canHold) dX6_merge_25 kl_RX6_122 mv_X6_canHold rfl (ok_X6_canHold hw) ?_
      refine r_if_eq 44 dX6_merge_28 (fun h28 => ?_) (fun h28 => ?_)
      · refine r_aloadn dX6_merge_44 rfl (by decide) ?_
        refine r_ldc dX6_merge_45 kc_RX6_46 ?_
        refine c_V1 (μz := mX6_finds) dX6_merge_47 kl_RX6_47 mv_X6_finds rfl (ok_X6_finds (w := 3) (by decide) (by decide)) ?_
        exact r_iret dX6_merge_50 ⟨by unfold sg_merge; rw [if_pos ⟨bi_1.mp h5, bi_1.mp h13⟩, if_neg (fun q => q h28)], rfl, by unfold sg_merge; rw [if_pos ⟨bi_1.mp h5, bi_1.mp h13⟩, if_neg (fun q => q h28)]; exact (g_cm_e hw).fd.x⟩
      · refine r_aloadn dX6_merge_31 rfl (by decide) ?_
        refine r_iloadn dX6_merge_32 rfl ?_
        refine r_iloadn dX6_merge_33 rfl ?_
        refine r_ic (-1) dX6_merge_34 ?_
        refine r_ixor dX6_merge_35 ?_
        refine r_iand dX6_merge_36 ?_
        refine r_iloadn dX6_merge_37 rfl ?_
        obtain ⟨T, hT, eT⟩ := g_bs hw (bi_1.mp h13)
        obtain ⟨S, hS, eS⟩ := k_and256 (a := T) (b := a ^^^ (-1)) (Nat.lt_of_lt_of_le hT (Nat.pow_le_pow_right (by decide) hw.1))
        have hS2 : S < 256 := Nat.lt_of_le_of_lt hS (Nat.lt_of_lt_of_le hT (Nat.pow_le_pow_right (by decide) hw.1))
        have eb : b &&& (a ^^^ (-1)) = nI S := by rw [eT]; exact eS
        have ev : k_v (b &&& (a ^^^ (-1))) = S := by show (b &&& (a ^^^ (-1))).toNatClampNeg = S; rw [eb]; exact nI_clamp (by omega)
        have e0 : sg_merge M c a b = (g_ob (g_few M c S a).1, M) := by
          unfold sg_merge
          rw [if_pos ⟨bi_1.mp h5, bi_1.mp h13⟩, if_pos h28, ev]
        rw [e0, eb]
        refine c_V2w (μz := mX6_fewestOf) dX6_merge_38 kl_RX6_150 mv_X6_fewestOf rfl (ok_X6_fewestOf ((g_cm_e hw).wf hw) hS2) (fun N hN => ?_)
        refine r_goto 50 dX6_merge_41 ?_
        exact r_iret dX6_merge_50 ⟨by rw [g_few_Rx (g_cm_e hw).r50 hw], rfl, (g_cm_e hw).x.tr ((g_x_w49 (by decide)).tr hN.x)⟩
    · refine r_aloadn dX6_merge_16 rfl (by decide) ?_
      refine r_ldc dX6_merge_17 kc_RX6_37 ?_
      refine c_V1 (μz := mX6_finds) dX6_merge_19 kl_RX6_47 mv_X6_finds rfl (ok_X6_finds (w := 0) (by decide) (by decide)) ?_
      exact r_iret dX6_merge_22 ⟨by unfold sg_merge; rw [if_neg (fun q => bi_0.mp h13 q.2)], rfl, by unfold sg_merge; rw [if_neg (fun q => bi_0.mp h13 q.2)]; exact g_x_refl _⟩
