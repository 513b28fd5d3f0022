/-! ===== FarPost: what its calls share ===== -/
/-- a finding is counted -/
abbrev k_fd (M : fp_M) (w : Nat) : fp_M := fp_wr M 40 w (M 40 w + 1)
/-- the office at o is well formed: c letters, their towns, struck or not -/
def k_wf (M : fp_M) (o c : Nat) : Prop := c ≤ 8 ∧ M o 1 = nI c ∧ ∀ i, i < c → ∃ f t : Nat, f < 8 ∧ t < 8 ∧ M (o + 2 + i) 1 = nI f ∧ M (o + 2 + i) 2 = nI t ∧ (M (o + 2 + i) 5 = 0 ∨ M (o + 2 + i) 5 = 1)
/-- the offices and what they hold are as they were -/
def k_e34 (M M' : fp_M) : Prop := ∀ k j, k < 34 → M' k j = M k j
theorem k_e34.rf (M : fp_M) : k_e34 M M := fun _ _ _ => rfl
theorem k_e34.tr {A B C : fp_M} (h1 : k_e34 A B) (h2 : k_e34 B C) : k_e34 A C := fun k j h => (h2 k j h).trans (h1 k j h)
theorem k_e34.wr {M : fp_M} {k j : Nat} {v : Int32} (h : 34 ≤ k) : k_e34 M (fp_wr M k j v) := fun k' j' h' => fp_wr_ne (by omega)
theorem k_e34.wf {M M' : fp_M} {o c : Nat} (h : k_e34 M M') (ho : fp_of o) (hw : k_wf M o c) : k_wf M' o c := by
  have hl := ho.lt
  refine ⟨hw.1, (h o 1 (by omega)).trans hw.2.1, fun i hi => ?_⟩
  obtain ⟨f, t, h1, h2, h3, h4, h5⟩ := hw.2.2 i hi
  have hc := hw.1
  exact ⟨f, t, h1, h2, by rw [h _ _ (by omega)]; exact h3, by rw [h _ _ (by omega)]; exact h4, by rw [h _ _ (by omega)]; exact h5⟩
theorem k_bn_cg {p q : Nat → Bool} : ∀ n, (∀ i, i < n → p i = q i) → k_bn p n = k_bn q n
  | 0, _ => rfl
  | n + 1, h => by
    unfold k_bn
    rw [k_bn_cg n (fun i hi => h i (by omega)), h n (by omega)]
theorem k_e34.con {M M' : fp_M} {o c : Nat} {d : Int32} (h : k_e34 M M') (ho : fp_of o) (hc : c ≤ 8) : k_con M' o c d = k_con M o c d := by
  have hl := ho.lt
  refine k_bn_cg c (fun i hi => ?_)
  simp only [k_cnt]
  rw [h _ 5 (by omega), h _ 0 (by omega), h _ 4 (by omega), h _ 3 (by omega), h o 3 (by omega)]
/-- folds keep what each round keeps -/
theorem k_it_ind {α : Type} {f : Nat → α → α} (P : α → Prop) (hf : ∀ i s, P s → P (f i s)) : ∀ n i s, P s → P (k_it f n i s)
  | 0, _, _, h => h
  | n + 1, i, s, h => k_it_ind P hf n (i + 1) (f i s) (hf i s h)
/-- beside the chart all stays -/
def k_ech (M M' : fp_M) : Prop := ∀ k j, ¬ k = 34 → ¬ k = 35 → M' k j = M k j
theorem k_ech.rf (M : fp_M) : k_ech M M := fun _ _ _ _ => rfl
theorem k_ech.tr {A B C : fp_M} (h1 : k_ech A B) (h2 : k_ech B C) : k_ech A C := fun k j a b => (h2 k j a b).trans (h1 k j a b)
theorem k_ech.wr4 {M : fp_M} {j : Nat} {v : Int32} : k_ech M (fp_wr M 34 j v) := fun k' j' a b => fp_wr_ne a
theorem k_ech.wr5 {M : fp_M} {j : Nat} {v : Int32} : k_ech M (fp_wr M 35 j v) := fun k' j' a b => fp_wr_ne b
theorem k_ech.e34 {M M' : fp_M} (h : k_ech M M') : k_e34 M M' := fun k j hk => h k j (by omega) (by omega)
theorem k_ech_it {f : Nat → fp_M → fp_M} (hf : ∀ i M, k_ech M (f i M)) (n i : Nat) (M : fp_M) : k_ech M (k_it f n i M) := k_it_ind (fun N => k_ech M N) (fun i N h => h.tr (hf i N)) n i M (k_ech.rf M)
theorem k_lim_ech (M : fp_M) (a b : Nat) (m : Int32) : k_ech M (k_lim M a b m) := by
  unfold k_lim
  split
  · exact k_ech.rf M
  · split
    · exact k_ech.wr4
    · refine k_ech_it (fun i N => ?_) 8 0 M
      unfold k_limi
      refine k_ech_it (fun j N => ?_) 8 0 N
      unfold k_limj
      split
      · exact k_ech.wr5
      · exact k_ech.rf N
theorem k_nar_ech (M : fp_M) (a b : Nat) (l m : Int32) : k_ech M (k_nar M a b l m) := (k_lim_ech M a b m).tr (k_lim_ech _ b a _)
theorem k_clr_ech (M : fp_M) : k_ech M (k_clr M) := by
  unfold k_clr
  refine k_ech.tr ?_ (k_ech_it (fun i N => k_ech.wr5) 8 0 _)
  refine k_ech.tr (k_ech.wr4 (j := 0) (v := 1)) ?_
  intro k j a b
  unfold k_fill
  rw [if_neg (fun q => b q.1)]
/-- the chart of a set of letters: one letter, all -/
def k_dr (set slip : Int32) (i : Nat) (M : fp_M) : fp_M := if M 34 0 = 0 then M else if (set >>> (nI i &&& 31)) &&& 1 = 1 then k_nar M (M (3 + i) 1).toNatClampNeg (M (3 + i) 2).toNatClampNeg (k_least (M (3 + i) 0) (M (3 + i) 3) slip) (k_most (M (3 + i) 0) (M (3 + i) 3) slip) else M
def k_draw (M : fp_M) (c : Nat) (set slip : Int32) : fp_M := k_it (k_dr set slip) c 0 (k_clr M)
theorem k_dr_ech (set slip : Int32) (i : Nat) (M : fp_M) : k_ech M (k_dr set slip i M) := by
  unfold k_dr
  split
  · exact k_ech.rf M
  · split
    · exact k_nar_ech _ _ _ _ _
    · exact k_ech.rf M
theorem k_draw_ech (M : fp_M) (c : Nat) (set slip : Int32) : k_ech M (k_draw M c set slip) := (k_clr_ech M).tr (k_ech_it (k_dr_ech set slip) c 0 _)
theorem k_dr_stop {set slip : Int32} : ∀ (n i : Nat) (M : fp_M), M 34 0 = 0 → k_it (k_dr set slip) n i M = M
  | 0, _, _, _ => rfl
  | n + 1, i, M, h => by
    rw [k_it_s]
    have e : k_dr set slip i M = M := by unfold k_dr; rw [if_pos h]
    rw [e]
    exact k_dr_stop n (i + 1) M h
/-- possible is 0 or 1 -/
def k_p01 (M : fp_M) : Prop := M 34 0 = 0 ∨ M 34 0 = 1
theorem k_p01_35 {M : fp_M} {j : Nat} {v : Int32} (h : k_p01 M) : k_p01 (fp_wr M 35 j v) := by
  unfold k_p01
  rw [fp_wr_ne (by decide)]
  exact h
theorem k_lim_p01 {M : fp_M} {a b : Nat} {m : Int32} (h : k_p01 M) : k_p01 (k_lim M a b m) := by
  unfold k_lim
  split
  · exact h
  · split
    · exact Or.inl (by simp [fp_wr])
    · refine k_it_ind k_p01 (fun i N hN => ?_) 8 0 M h
      unfold k_limi
      refine k_it_ind k_p01 (fun j N hN => ?_) 8 0 N hN
      unfold k_limj
      split
      · exact k_p01_35 hN
      · exact hN
theorem k_clr_p (M : fp_M) : k_clr M 34 0 = 1 := by
  unfold k_clr
  refine k_it_ind (fun N : fp_M => N 34 0 = 1) (fun i N hN => ?_) 8 0 _ ?_
  · show fp_wr N 35 (8 * i + i) 0 34 0 = 1
    rw [fp_wr_ne (by decide)]
    exact hN
  · unfold k_fill
    rw [if_neg (by omega)]
    simp [fp_wr]
theorem k_draw_p01 (M : fp_M) (c : Nat) (set slip : Int32) : k_p01 (k_draw M c set slip) := by
  unfold k_draw
  refine k_it_ind k_p01 (fun i N hN => ?_) c 0 _ (Or.inr (k_clr_p M))
  unfold k_dr
  split
  · exact hN
  · split
    · exact k_lim_p01 (k_lim_p01 hN)
    · exact hN
theorem k_nar01 {v : Int32} (h : v = 0 ∨ v = 1) : narrow .boolean (.int v) = .int v := by rcases h with rfl | rfl <;> rfl
/-- the set of letters that count; the chart of a set as the office has it -/
abbrev k_cn (M : fp_M) (c : Nat) : Int32 := nI (k_con M 1 c (M 1 4))
abbrev k_ch (M : fp_M) (c : Nat) (set : Int32) : fp_M := k_draw M c set (M 1 2)
theorem ok_X5_finding {X : fp_X} {M : fp_M} {w : Nat} {v : Int32} (hv : v = nI w) (hw : w < 7): fp_Ev X mX5_finding [.ref 0, .int v] fp_sh M (some (.int (-1000001 - v))) (k_fd M w) := by
  refine fp_ok [some (.ref 0), some (.int v)] ?_
  refine r_aloadn dX5_finding_0 rfl (by decide) ?_
  refine r_getfr dX5_finding_1 kf_RX5_53 rfl rfl ?_
  refine r_iloadn dX5_finding_4 rfl ?_
  refine r_dup2 dX5_finding_5 ?_
  refine r_ialdL (j := w) dX5_finding_6 rfl hv ⟨hw, by decide⟩ ?_
  refine r_ic (1) dX5_finding_7 ?_
  refine r_iadd dX5_finding_8 ?_
  refine r_iastL (j := w) dX5_finding_9 rfl hv ⟨hw, by decide⟩ ?_
  refine r_ldcw dX5_finding_10 kc_RX5_284 ?_
  refine r_iloadn dX5_finding_13 rfl ?_
  refine r_isub dX5_finding_14 ?_
  exact r_iret dX5_finding_15 ⟨rfl, rfl, rfl⟩
theorem ok_X5_counting {X : fp_X} {M : fp_M} {c : Nat} (hw : k_wf M 1 c): fp_Ev X mX5_counting [.ref 0] fp_sh M (some (.int (k_cn M c))) M := by
  refine fp_ok [some (.ref 0)] ?_
  refine r_aloadn dX5_counting_0 rfl (by decide) ?_
  refine r_getfr dX5_counting_1 kf_RX5_10 rfl rfl ?_
  refine r_aloadn dX5_counting_4 rfl (by decide) ?_
  refine r_getfr dX5_counting_5 kf_RX5_10 rfl rfl ?_
  refine r_getfi dX5_counting_8 kf_RX5_107 rfl rfl ?_
  refine c_V1 (μz := mX2_countingOn) dX5_counting_11 kl_RX5_162 mv_X2_countingOn rfl (ok_X2_countingOn fp_of_1 hw.2.1 hw.1) ?_
  exact r_iret dX5_counting_14 ⟨rfl, rfl, rfl⟩
theorem lp_X5_drawChart {X : fp_X} {c : Nat} {set slip : Int32} : ∀ (n i : Nat), i + n = c → ∀ (M : fp_M) (w4 : Option Value), (k_wf M 1 c) → fp_W X mX5_drawChart 9 [some (.ref 0), some (.int set), some (.int slip), some (.int (nI i)), w4] [] fp_sh M 0 0 (fun r s m => r = none ∧ s = fp_sh ∧ m = k_it (k_dr set slip) n i M) := by
  intro n
  induction n with
  | zero =>
    intro i hi M  w4  hinv
    have h8 := hinv.1
    have ti : (nI i).toInt = (i : Int) := nI_toInt (by omega)
    have tc : (M 1 1).toInt = (c : Int) := by rw [hinv.2.1]; exact nI_toInt (by omega)
    refine r_iloadn dX5_drawChart_9 rfl ?_
    refine r_aloadn dX5_drawChart_10 rfl (by decide) ?_
    refine r_getfr dX5_drawChart_11 kf_RX5_10 rfl rfl ?_
    refine r_getfi dX5_drawChart_14 kf_RX5_77 rfl rfl ?_
    refine r_icmp_ge 84 dX5_drawChart_17 (fun h17 => ?_) (fun h17 => ?_)
    · exact r_vret dX5_drawChart_84 ⟨rfl, rfl, rfl⟩
    · exfalso; simp only [Int32.le_iff_toInt_le, Int32.lt_iff_toInt_lt, Int32.reduceToInt] at h17; omega
  | succ n ih =>
    intro i hi M  w4  hinv
    have h8 := hinv.1
    have ti : (nI i).toInt = (i : Int) := nI_toInt (by omega)
    have tc : (M 1 1).toInt = (c : Int) := by rw [hinv.2.1]; exact nI_toInt (by omega)
    refine r_iloadn dX5_drawChart_9 rfl ?_
    refine r_aloadn dX5_drawChart_10 rfl (by decide) ?_
    refine r_getfr dX5_drawChart_11 kf_RX5_10 rfl rfl ?_
    refine r_getfi dX5_drawChart_14 kf_RX5_77 rfl rfl ?_
    refine r_icmp_ge 84 dX5_drawChart_17 (fun h17 => ?_) (fun h17 => ?_)
    · exfalso; simp only [Int32.le_iff_toInt_le, Int32.lt_iff_toInt_lt, Int32.reduceToInt] at h17; omega
    · refine r_aloadn dX5_drawChart_20 rfl (by decide) ?_
      refine r_getfr dX5_drawChart_21 kf_RX5_29 rfl rfl ?_
      refine r_getfi dX5_drawChart_24 kf_RX5_205 rfl rfl ?_
      refine r_if_eq 84 dX5_drawChart_27 (fun h27 => ?_) (fun h27 => ?_)
      · exact r_vret dX5_drawChart_84 ⟨rfl, rfl, by rw [k_it_s, show k_dr set slip i M = M from by unfold k_dr; rw [if_pos h27], k_dr_stop n (i + 1) M h27]⟩
      · obtain ⟨f, t, hf8, ht8, hf, ht, h01⟩ := hinv.2.2 i (by omega)
        refine r_iloadn dX5_drawChart_30 rfl ?_
        refine r_iloadn dX5_drawChart_31 rfl ?_
        refine c_S2 (μz := mX5_isIn) dX5_drawChart_32 kl_RX5_179 ms_X5_isIn ok_X5_isIn ?_
        refine r_if_eq 78 dX5_drawChart_35 (fun h35 => ?_) (fun h35 => ?_)
        · refine r_iinc3 (1) dX5_drawChart_78 ?_
          refine r_goto 9 dX5_drawChart_81 ?_
          rw [nI_1, k_it_s, show k_dr set slip i M = M from by unfold k_dr; rw [if_neg h27, if_neg (bi_0.mp h35)]]
          exact ih (i + 1) (by omega) M _ hinv
        · refine r_aloadn dX5_drawChart_38 rfl (by decide) ?_
          refine r_getfr dX5_drawChart_39 kf_RX5_10 rfl rfl ?_
          refine r_getfr dX5_drawChart_42 kf_RX5_88 rfl rfl ?_
          refine r_iloadn dX5_drawChart_45 rfl ?_
          refine r_aaldL (j := i) dX5_drawChart_46 (sh_r fp_of_1) rfl (sh_rr (by omega)) (by omega) (Nat.le_of_ble_eq_true rfl) ?_
          refine r_astore4 dX5_drawChart_47 (Or.inl ⟨by omega, by omega⟩) ?_
          refine r_aloadn dX5_drawChart_49 rfl (by decide) ?_
          refine r_getfr dX5_drawChart_50 kf_RX5_29 rfl rfl ?_
          refine r_aload dX5_drawChart_53 rfl (Or.inl ⟨by omega, by omega⟩) ?_
          refine r_getfi dX5_drawChart_55 kf_RX5_288 (sh_l fp_of_1 (by omega)) rfl ?_
          refine r_aload dX5_drawChart_58 rfl (Or.inl ⟨by omega, by omega⟩) ?_
          refine r_getfi dX5_drawChart_60 kf_RX5_291 (sh_l fp_of_1 (by omega)) rfl ?_
          refine r_aload dX5_drawChart_63 rfl (Or.inl ⟨by omega, by omega⟩) ?_
          refine r_iloadn dX5_drawChart_65 rfl ?_
          refine c_V1 (μz := mX1_least) dX5_drawChart_66 kl_RX5_95 mv_X1_least (sh_l fp_of_1 (by omega)) (ok_X1_least (sh_l fp_of_1 (by omega))) ?_
          refine r_aload dX5_drawChart_69 rfl (Or.inl ⟨by omega, by omega⟩) ?_
          refine r_iloadn dX5_drawChart_71 rfl ?_
          refine c_V1 (μz := mX1_most) dX5_drawChart_72 kl_RX5_98 mv_X1_most (sh_l fp_of_1 (by omega)) (ok_X1_most (sh_l fp_of_1 (by omega))) ?_
          have hf2 : M (1 + 2 + i) 1 = nI f := hf
          have ht2 : M (1 + 2 + i) 2 = nI t := ht
          rw [hf2, ht2]
          refine c_V4v (μz := mX0_narrow) dX5_drawChart_75 kl_RX5_274 mv_X0_narrow rfl (ok_X0_narrow hf8 ht8) ?_
          refine r_iinc3 (1) dX5_drawChart_78 ?_
          refine r_goto 9 dX5_drawChart_81 ?_
          rw [nI_1, k_it_s]
          have e1 : (M (3 + i) 1).toNatClampNeg = f := by rw [show M (3 + i) 1 = nI f from hf]; exact nI_clamp (by omega)
          have e2 : (M (3 + i) 2).toNatClampNeg = t := by rw [show M (3 + i) 2 = nI t from ht]; exact nI_clamp (by omega)
          rw [show k_dr set slip i M = k_nar M f t (k_least (M (3 + i) 0) (M (3 + i) 3) slip) (k_most (M (3 + i) 0) (M (3 + i) 3) slip) from by unfold k_dr; rw [if_neg h27, if_pos (bi_1.mp h35), e1, e2]]
          exact ih (i + 1) (by omega) _ _ ((k_nar_ech M f t _ _).e34.wf fp_of_1 hinv)

theorem ok_X5_drawChart {X : fp_X} {M : fp_M} {c : Nat} {set slip : Int32} (hw : k_wf M 1 c): fp_Ev X mX5_drawChart [.ref 0, .int set, .int slip] fp_sh M none (k_draw M c set slip) := by
  refine fp_ok [some (.ref 0), some (.int set), some (.int slip), none, none] ?_
  refine r_aloadn dX5_drawChart_0 rfl (by decide) ?_
  refine r_getfr dX5_drawChart_1 kf_RX5_29 rfl rfl ?_
  refine c_V0v (μz := mX0_clear) dX5_drawChart_4 kl_RX5_285 mv_X0_clear rfl ok_X0_clear ?_
  refine r_ic (0) dX5_drawChart_7 ?_
  refine r_istore3 dX5_drawChart_8 ?_
  exact lp_X5_drawChart c 0 (by omega) _ none ((k_clr_ech M).e34.wf fp_of_1 hw)
theorem ok_X5_canHold {X : fp_X} {M : fp_M} {c : Nat} {set : Int32} (hw : k_wf M 1 c): fp_Ev X mX5_canHold [.ref 0, .int set] fp_sh M (some (.int (k_ch M c set 34 0))) (k_ch M c set) := by
  refine fp_ok [some (.ref 0), some (.int set)] ?_
  refine r_aloadn dX5_canHold_0 rfl (by decide) ?_
  refine r_iloadn dX5_canHold_1 rfl ?_
  refine r_aloadn dX5_canHold_2 rfl (by decide) ?_
  refine r_getfr dX5_canHold_3 kf_RX5_10 rfl rfl ?_
  refine r_getfi dX5_canHold_6 kf_RX5_92 rfl rfl ?_
  refine c_V2v (μz := mX5_drawChart) dX5_canHold_9 kl_RX5_202 mv_X5_drawChart rfl (ok_X5_drawChart hw) ?_
  refine r_aloadn dX5_canHold_12 rfl (by decide) ?_
  refine r_getfr dX5_canHold_13 kf_RX5_29 rfl rfl ?_
  refine r_getfi dX5_canHold_16 kf_RX5_205 rfl rfl ?_
  exact r_iret dX5_canHold_19 ⟨rfl, rfl, rfl⟩ rfl (k_nar01 (k_draw_p01 M c set (M 1 2)))
