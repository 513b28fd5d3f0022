/-! ===== the other one: suspects, implied, dearest; change, law ===== -/
abbrev g_wout (M : fp_M) (c : Nat) (set : Int32) (i : Nat) : Prop := k_isin set i ∧ g_hold M c (k_wo set i)
def g_susp (M : fp_M) (c : Nat) (set : Int32) (n : Nat) : Nat := k_bn (fun i => decide (g_wout M c set i)) n
abbrev g_cn (M : fp_M) (c : Nat) : Int32 := nI (g_con M (M 50 1 + 0) c)
theorem lp_X6_suspects {X : fp_X} {M : fp_M} {c : Nat} {set : Int32} (hw : g_wf M c) : ∀ (n i : Nat), i + n = c → ∀ (N : fp_M), (g_e M N) → fp_W X mX6_suspects 10 [some (.ref 49), some (.int set), some (.int (nI (g_susp M c set i))), some (.int (nI i))] [] fp_sh N 0 0 (fun r s m => r = some (.int (nI (g_susp M c set c))) ∧ s = fp_sh ∧ g_e M m) := by
  intro n
  induction n with
  | zero =>
    intro i hi N  hinv
    have h8 := hw.1
    have ti : (nI i).toInt = (i : Int) := nI_toInt (by omega)
    have tc : (N 50 0).toInt = (c : Int) := by rw [hinv.r50, hw.2.1]; exact nI_toInt (by omega)
    refine r_iloadn dX6_suspects_10 rfl ?_
    refine r_aloadn dX6_suspects_11 rfl (by decide) ?_
    refine r_getfr dX6_suspects_12 kf_RX6_7 rfl rfl ?_
    refine r_ic (0) dX6_suspects_15 ?_
    refine r_ialdL dX6_suspects_16 rfl rfl (by decide) ?_
    refine r_icmp_ge 59 dX6_suspects_17 (fun h17 => ?_) (fun h17 => ?_)
    · refine r_iloadn dX6_suspects_59 rfl ?_
      exact r_iret dX6_suspects_60 ⟨by rw [show i = c by omega], rfl, hinv⟩
    · exfalso; simp only [Int32.le_iff_toInt_le, Int32.lt_iff_toInt_lt, Int32.reduceToInt] at h17; omega
  | succ n ih =>
    intro i hi N  hinv
    have h8 := hw.1
    have ti : (nI i).toInt = (i : Int) := nI_toInt (by omega)
    have tc : (N 50 0).toInt = (c : Int) := by rw [hinv.r50, hw.2.1]; exact nI_toInt (by omega)
    refine r_iloadn dX6_suspects_10 rfl ?_
    refine r_aloadn dX6_suspects_11 rfl (by decide) ?_
    refine r_getfr dX6_suspects_12 kf_RX6_7 rfl rfl ?_
    refine r_ic (0) dX6_suspects_15 ?_
    refine r_ialdL dX6_suspects_16 rfl rfl (by decide) ?_
    refine r_icmp_ge 59 dX6_suspects_17 (fun h17 => ?_) (fun h17 => ?_)
    · exfalso; simp only [Int32.le_iff_toInt_le, Int32.lt_iff_toInt_lt, Int32.reduceToInt] at h17; omega
    · refine r_iloadn dX6_suspects_20 rfl ?_
      refine r_iloadn dX6_suspects_21 rfl ?_
      refine r_iloadn dX6_suspects_22 rfl ?_
      refine r_ishr dX6_suspects_23 ?_
      refine r_ic (1) dX6_suspects_24 ?_
      refine r_iand dX6_suspects_25 ?_
      refine r_ic (1) dX6_suspects_26 ?_
      refine r_icmp_ne 50 dX6_suspects_27 (fun h27 => ?_) (fun h27 => ?_)
      · refine r_ic (0) dX6_suspects_50 ?_
        refine r_ior dX6_suspects_51 ?_
        refine r_istore2 dX6_suspects_52 ?_
        refine r_iinc3 (1) dX6_suspects_53 ?_
        refine r_goto 10 dX6_suspects_56 ?_
        rw [nI_1, Int32.or_zero]
        have e := ih (i + 1) (by omega) _ hinv
        rw [show (g_susp M c set (i + 1)) = (g_susp M c set i) from k_bn_no (decide_eq_false (fun q => h27 q.1))] at e
        exact e
      · refine r_aloadn dX6_suspects_30 rfl (by decide) ?_
        refine r_iloadn dX6_suspects_31 rfl ?_
        refine r_ic (1) dX6_suspects_32 ?_
        refine r_iloadn dX6_suspects_33 rfl ?_
        refine r_ishl dX6_suspects_34 ?_
        refine r_ic (-1) dX6_suspects_35 ?_
        refine r_ixor dX6_suspects_36 ?_
        refine r_iand dX6_suspects_37 ?_
        refine c_V1 (μz := mX6_canHold) dX6_suspects_38 kl_RX6_122 mv_X6_canHold rfl (ok_X6_canHold (hinv.wf hw)) ?_
        rw [g_cm_eq hinv]
        refine r_if_eq 50 dX6_suspects_41 (fun h41 => ?_) (fun h41 => ?_)
        · refine r_ic (0) dX6_suspects_50 ?_
          refine r_ior dX6_suspects_51 ?_
          refine r_istore2 dX6_suspects_52 ?_
          refine r_iinc3 (1) dX6_suspects_53 ?_
          refine r_goto 10 dX6_suspects_56 ?_
          rw [nI_1, Int32.or_zero]
          have e := ih (i + 1) (by omega) _ (g_cm_e (set := k_wo set i) hw)
          rw [show (g_susp M c set (i + 1)) = (g_susp M c set i) from k_bn_no (decide_eq_false (fun q => q.2 h41))] at e
          exact e
        · refine r_ic (1) dX6_suspects_44 ?_
          refine r_iloadn dX6_suspects_45 rfl ?_
          refine r_ishl dX6_suspects_46 ?_
          refine r_goto 51 dX6_suspects_47 ?_
          refine r_ior dX6_suspects_51 ?_
          refine r_istore2 dX6_suspects_52 ?_
          refine r_iinc3 (1) dX6_suspects_53 ?_
          refine r_goto 10 dX6_suspects_56 ?_
          rw [nI_1, show nI (g_susp M c set i) ||| _ = nI (g_susp M c set (i + 1)) from k_bn_or (by omega) (decide_eq_true ⟨h27, h41⟩)]
          exact ih (i + 1) (by omega) _ (g_cm_e (set := k_wo set i) hw)

theorem ok_X6_suspects {X : fp_X} {M : fp_M} {c : Nat} (hw : g_wf M c) : fp_Ok X mX6_suspects [.ref 49] fp_sh M (fun r s m => r = some (.int (nI (g_susp M c (g_cn M c) c))) ∧ s = fp_sh ∧ g_e M m) := by
  refine fp_ok [some (.ref 49), none, none, none] ?_
  refine r_aloadn dX6_suspects_0 rfl (by decide) ?_
  refine r_ic (0) dX6_suspects_1 ?_
  refine c_V1 (μz := mX6_countIn) dX6_suspects_2 kl_RX6_96 mv_X6_countIn rfl (ok_X6_countIn hw) ?_
  refine r_istore1 dX6_suspects_5 ?_
  refine r_ic (0) dX6_suspects_6 ?_
  refine r_istore2 dX6_suspects_7 ?_
  refine r_ic (0) dX6_suspects_8 ?_
  refine r_istore3 dX6_suspects_9 ?_
  exact lp_X6_suspects hw c 0 (by omega) M (g_e_refl M)
def sg_change (M : fp_M) (l w v : Int32) : Int32 × fp_M := if (0 ≤ l ∧ l < M 50 0) ∧ g_isfit M (k_v l) w v then (M 50 (5 + 6 * k_v l + k_v w), fp_wr M 50 (5 + 6 * k_v l + k_v w) v) else (-1000001, g_fd M 0)
theorem g_isfit_w {M : fp_M} {i : Nat} {w v : Int32} (h : g_isfit M i w v) : w = nI (k_v w) ∧ k_v w < 6 := by
  rcases h with h | h | h | h | h | h <;> rw [h.1] <;> decide
theorem g_v01 {w : Int32} (h : 0 ≤ w ∧ w ≤ 1) : w = nI (k_v w) ∧ k_v w < 2 := by
  refine g_vb h.1 ?_ (by decide)
  have h2 := h.2
  simp only [Int32.le_iff_toInt_le, Int32.reduceToInt] at h2
  omega
theorem ok_X6_law {X : fp_X} {M : fp_M} {w v : Int32} : fp_Ev X mX6_law [.ref 49, .int w, .int v] fp_sh M (some (.int (sg_law M w v).1)) (sg_law M w v).2 := by
  refine fp_ok [some (.ref 49), some (.int w), some (.int v)] ?_
  refine r_iloadn dX6_law_0 rfl ?_
  refine r_i2l dX6_law_1 ?_
  refine r_lc 0 dX6_law_2 ?_
  refine r_lc 1 dX6_law_3 ?_
  refine c_S3 (μz := mX6_isIn) dX6_law_4 kl_RX6_42 ms_X6_isIn (ok_X6_in (lo := 0) (hi := 1) (by decide) (by decide)) ?_
  refine r_if_eq 33 dX6_law_7 (fun h7 => ?_) (fun h7 => ?_)
  · refine r_aloadn dX6_law_33 rfl (by decide) ?_
    refine r_ldc dX6_law_34 kc_RX6_37 ?_
    refine c_V1 (μz := mX6_finds) dX6_law_36 kl_RX6_47 mv_X6_finds rfl (ok_X6_finds (w := 0) (by decide) (by decide)) ?_
    exact r_iret dX6_law_39 ⟨by unfold sg_law; rw [if_neg (fun q => absurd q.1 (bi_0.mp h7))], rfl, by unfold sg_law; rw [if_neg (fun q => absurd q.1 (bi_0.mp h7))]⟩
  · refine r_iloadn dX6_law_10 rfl ?_
    refine r_i2l dX6_law_11 ?_
    refine r_lc 0 dX6_law_12 ?_
    refine r_ldc2 dX6_law_13 kc_RX6_88 ?_
    refine c_S3 (μz := mX6_isIn) dX6_law_16 kl_RX6_42 ms_X6_isIn (ok_X6_in (lo := 0) (hi := 9) (by decide) (by decide)) ?_
    refine r_if_eq 33 dX6_law_19 (fun h19 => ?_) (fun h19 => ?_)
    · refine r_aloadn dX6_law_33 rfl (by decide) ?_
      refine r_ldc dX6_law_34 kc_RX6_37 ?_
      refine c_V1 (μz := mX6_finds) dX6_law_36 kl_RX6_47 mv_X6_finds rfl (ok_X6_finds (w := 0) (by decide) (by decide)) ?_
      exact r_iret dX6_law_39 ⟨by unfold sg_law; rw [if_neg (fun q => absurd q.2 (bi_0.mp h19))], rfl, by unfold sg_law; rw [if_neg (fun q => absurd q.2 (bi_0.mp h19))]⟩
    · obtain ⟨ew, lw⟩ := g_v01 (bi_1.mp h7)
      refine r_aloadn dX6_law_22 rfl (by decide) ?_
      refine r_ic (2) dX6_law_23 ?_
      refine r_iloadn dX6_law_24 rfl ?_
      refine r_iadd dX6_law_25 ?_
      refine r_iloadn dX6_law_26 rfl ?_
      refine c_V2 (μz := mX6_becomes) dX6_law_27 kl_RX6_103 mv_X6_becomes rfl (ok_X6_becomes (k := 2 + k_v w) ((congrArg (fun x : Int32 => 2 + x) ew).trans (nI_add 2 _)) (by omega)) ?_
      refine r_goto 39 dX6_law_30 ?_
      exact r_iret dX6_law_39 ⟨by unfold sg_law; rw [if_pos ⟨bi_1.mp h7, bi_1.mp h19⟩], rfl, by unfold sg_law; rw [if_pos ⟨bi_1.mp h7, bi_1.mp h19⟩]⟩
theorem ok_X6_change {X : fp_X} {M : fp_M} {c : Nat} {l w v : Int32} (hw : g_wf M c): fp_Ev X mX6_change [.ref 49, .int l, .int w, .int v] fp_sh M (some (.int (sg_change M l w v).1)) (sg_change M l w v).2 := by
  refine fp_ok [some (.ref 49), some (.int l), some (.int w), some (.int v)] ?_
  refine r_aloadn dX6_change_0 rfl (by decide) ?_
  refine r_iloadn dX6_change_1 rfl ?_
  refine c_V1 (μz := mX6_isLetter) dX6_change_2 kl_RX6_85 mv_X6_isLetter rfl ok_X6_isLetter ?_
  refine r_if_eq 34 dX6_change_5 (fun h5 => ?_) (fun h5 => ?_)
  · refine r_aloadn dX6_change_34 rfl (by decide) ?_
    refine r_ldc dX6_change_35 kc_RX6_37 ?_
    refine c_V1 (μz := mX6_finds) dX6_change_37 kl_RX6_47 mv_X6_finds rfl (ok_X6_finds (w := 0) (by decide) (by decide)) ?_
    exact r_iret dX6_change_40 ⟨by unfold sg_change; rw [if_neg (fun q => absurd q.1 (bi_0.mp h5))], rfl, by unfold sg_change; rw [if_neg (fun q => absurd q.1 (bi_0.mp h5))]⟩
  · obtain ⟨el, ll⟩ := g_vl hw (bi_1.mp h5)
    have h8 := hw.1
    refine r_aloadn dX6_change_8 rfl (by decide) ?_
    refine r_iloadn dX6_change_9 rfl ?_
    refine r_iloadn dX6_change_10 rfl ?_
    refine r_iloadn dX6_change_11 rfl ?_
    refine c_V3 (μz := mX6_isFit) dX6_change_12 kl_RX6_99 mv_X6_isFit rfl (ok_X6_isFit (i := k_v l) el (by omega)) ?_
    refine r_if_eq 34 dX6_change_15 (fun h15 => ?_) (fun h15 => ?_)
    · refine r_aloadn dX6_change_34 rfl (by decide) ?_
      refine r_ldc dX6_change_35 kc_RX6_37 ?_
      refine c_V1 (μz := mX6_finds) dX6_change_37 kl_RX6_47 mv_X6_finds rfl (ok_X6_finds (w := 0) (by decide) (by decide)) ?_
      exact r_iret dX6_change_40 ⟨by unfold sg_change; rw [if_neg (fun q => absurd q.2 (bi_0.mp h15))], rfl, by unfold sg_change; rw [if_neg (fun q => absurd q.2 (bi_0.mp h15))]⟩
    · obtain ⟨ew, lw⟩ := g_isfit_w (bi_1.mp h15)
      refine r_aloadn dX6_change_18 rfl (by decide) ?_
      refine r_ic (5) dX6_change_19 ?_
      refine r_bp (6) dX6_change_20 ?_
      refine r_iloadn dX6_change_22 rfl ?_
      refine r_imul dX6_change_23 ?_
      refine r_iadd dX6_change_24 ?_
      refine r_iloadn dX6_change_25 rfl ?_
      refine r_iadd dX6_change_26 ?_
      refine r_iloadn dX6_change_27 rfl ?_
      refine c_V2 (μz := mX6_becomes) dX6_change_28 kl_RX6_103 mv_X6_becomes rfl (ok_X6_becomes (k := 5 + 6 * k_v l + k_v w) ((congr (congrArg (fun x y : Int32 => 5 + 6 * x + y) el) ew).trans (g_i _ (by omega) _ lw)) (by omega)) ?_
      refine r_goto 40 dX6_change_31 ?_
      exact r_iret dX6_change_40 ⟨by unfold sg_change; rw [if_pos ⟨bi_1.mp h5, bi_1.mp h15⟩], rfl, by unfold sg_change; rw [if_pos ⟨bi_1.mp h5, bi_1.mp h15⟩]⟩
