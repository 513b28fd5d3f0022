/-! ===== FarPost's calls that draw many charts ===== -/
theorem k_ech.fd {M N : fp_M} {w : Nat} (h : k_ech M N) : k_ech (k_fd M w) (k_fd N w) := by
  intro k j a b
  show (if k = 40 ∧ j = w then N 40 w + 1 else N k j) = (if k = 40 ∧ j = w then M 40 w + 1 else M k j)
  rw [h 40 w (by decide) (by decide), h k j a b]
def k_wv (o : Option Nat) (f : Nat → Int32) (w : Int32) : Int32 := match o with
  | some n => f n
  | none => k_lo w
def k_wb (M : fp_M) (o : Option Nat) (w : Nat) : fp_M := match o with
  | some _ => M
  | none => k_fd M w
/-- the letters that count behind n days -/
abbrev k_set (M : fp_M) (c n : Nat) : Int32 := nI (k_con M 1 c (M 1 4 + nI n))
theorem k_set_e {M N : fp_M} {c n : Nat} (h : k_ech M N) (hw : k_wf M 1 c) : nI (k_con N 1 c (N 1 4 + nI n)) = k_set M c n := by
  rw [h 1 4 (by decide) (by decide), h.e34.con fp_of_1 hw.1]
def k_when (M : fp_M) (c n i : Nat) : Option Nat := k_first (fun n => decide (¬ k_can M c (k_set M c n))) n i
def k_known (M : fp_M) (c x y n i : Nat) : Option Nat := k_first (fun n => decide (k_can M c (k_set M c n) ∧ k_wid (k_ch M c (k_set M c n)) x y = 1)) n i
theorem lp_X5_when {X : fp_X} {M : fp_M} {c : Nat} (hw : k_wf M 1 c) : ∀ (n i : Nat), i + n = 501 → ∀ (drawn : Int32) (N : fp_M) (w3 : Option Value), (k_ech M N ∧ k_can M c drawn) → fp_W X mX5_when 4 [some (.ref 0), some (.int drawn), some (.int (nI i)), w3] [] fp_sh N 0 0 (fun r s m => r = some (.int (k_wv (k_when M c n i) nI 3)) ∧ s = fp_sh ∧ k_ech (k_wb M (k_when M c n i) 3) m) := by
  intro n
  induction n with
  | zero =>
    intro i hi drawn  N  w3  hinv
    have ti : (nI i).toInt = (i : Int) := nI_toInt (by omega)
    obtain ⟨hN, hd⟩ := hinv
    have wN := hN.wf hw
    refine r_iloadn dX5_when_4 rfl ?_
    refine r_sp (500) dX5_when_5 ?_
    refine r_icmp_gt 51 dX5_when_8 (fun h8 => ?_) (fun h8 => ?_)
    · refine r_aloadn dX5_when_51 rfl (by decide) ?_
      refine r_ic (3) dX5_when_52 ?_
      refine c_V1 (μz := mX5_finding) dX5_when_53 kl_RX5_73 mv_X5_finding rfl (ok_X5_finding (w := 3) rfl (by decide)) ?_
      exact r_iret dX5_when_56 ⟨rfl, rfl, hN.fd⟩
    · exfalso; simp only [Int32.le_iff_toInt_le, Int32.lt_iff_toInt_lt, Int32.reduceToInt] at h8; omega
  | succ n ih =>
    intro i hi drawn  N  w3  hinv
    have ti : (nI i).toInt = (i : Int) := nI_toInt (by omega)
    obtain ⟨hN, hd⟩ := hinv
    have wN := hN.wf hw
    refine r_iloadn dX5_when_4 rfl ?_
    refine r_sp (500) dX5_when_5 ?_
    refine r_icmp_gt 51 dX5_when_8 (fun h8 => ?_) (fun h8 => ?_)
    · exfalso; simp only [Int32.le_iff_toInt_le, Int32.lt_iff_toInt_lt, Int32.reduceToInt] at h8; omega
    · refine r_aloadn dX5_when_11 rfl (by decide) ?_
      refine r_getfr dX5_when_12 kf_RX5_10 rfl rfl ?_
      refine r_aloadn dX5_when_15 rfl (by decide) ?_
      refine r_getfr dX5_when_16 kf_RX5_10 rfl rfl ?_
      refine r_getfi dX5_when_19 kf_RX5_107 rfl rfl ?_
      refine r_iloadn dX5_when_22 rfl ?_
      refine r_iadd dX5_when_23 ?_
      refine c_V1 (μz := mX2_countingOn) dX5_when_24 kl_RX5_162 mv_X2_countingOn rfl (ok_X2_countingOn fp_of_1 wN.2.1 wN.1) ?_
      rw [k_set_e hN hw]
      refine r_istore3 dX5_when_27 ?_
      refine r_iloadn dX5_when_28 rfl ?_
      refine r_iloadn dX5_when_29 rfl ?_
      refine r_icmp_eq 43 dX5_when_30 (fun h30 => ?_) (fun h30 => ?_)
      · refine r_iloadn dX5_when_43 rfl ?_
        refine r_istore1 dX5_when_44 ?_
        refine r_iinc2 (1) dX5_when_45 ?_
        refine r_goto 4 dX5_when_48 ?_
        rw [nI_1]
        unfold k_when k_first
        have hk : k_can M c (k_set M c i) := by rw [h30]; exact hd
        rw [if_neg (by rw [decide_eq_true_eq]; exact fun q => q hk)]
        exact ih (i + 1) (by omega) _ _ _ ⟨hN, hk⟩
      · refine r_aloadn dX5_when_33 rfl (by decide) ?_
        refine r_iloadn dX5_when_34 rfl ?_
        refine c_V1 (μz := mX5_canHold) dX5_when_35 kl_RX5_136 mv_X5_canHold rfl (ok_X5_canHold (hN.wf hw)) ?_
        refine r_if_ne 43 dX5_when_38 (fun h38 => ?_) (fun h38 => ?_)
        · refine r_iloadn dX5_when_43 rfl ?_
          refine r_istore1 dX5_when_44 ?_
          refine r_iinc2 (1) dX5_when_45 ?_
          refine r_goto 4 dX5_when_48 ?_
          rw [nI_1]
          unfold k_when k_first
          have hk : k_can M c (k_set M c i) := (k_can_e hN hw).mp h38
          rw [if_neg (by rw [decide_eq_true_eq]; exact fun q => q hk)]
          exact ih (i + 1) (by omega) _ _ _ ⟨hN.tr (k_ch_ech _ _ _), hk⟩
        · refine r_iloadn dX5_when_41 rfl ?_
          exact r_iret dX5_when_42 ⟨by unfold k_when k_first; rw [if_pos (decide_eq_true (show ¬ k_can M c (k_set M c i) from fun q => (k_can_e hN hw).mpr q h38))]; rfl, rfl, by unfold k_when k_first; rw [if_pos (decide_eq_true (show ¬ k_can M c (k_set M c i) from fun q => (k_can_e hN hw).mpr q h38))]; exact hN.tr (k_ch_ech _ _ _)⟩

theorem ok_X5_when {X : fp_X} {M : fp_M} {c : Nat} (hw : k_wf M 1 c) : fp_Ok X mX5_when [.ref 0] fp_sh M (fun r s m => r = some (.int (k_wv (k_when M c 501 0) nI 3)) ∧ s = fp_sh ∧ k_ech (k_wb M (k_when M c 501 0) 3) m) := by
  refine fp_ok [some (.ref 0), none, none, none] ?_
  refine r_ic (0) dX5_when_0 ?_
  refine r_istore1 dX5_when_1 ?_
  refine r_ic (0) dX5_when_2 ?_
  refine r_istore2 dX5_when_3 ?_
  exact lp_X5_when hw 501 0 (by omega) 0 M none ⟨k_ech.rf M, k_can_0 M c hw.1⟩
theorem k_wid_e {M N : fp_M} {c x y : Nat} {set : Int32} (h : k_ech M N) (hw : k_wf M 1 c) (hx : x < 8) (hy : y < 8) : k_wid (k_ch N c set) x y = k_wid (k_ch M c set) x y := by
  have r := k_ch_R set h hw
  show k_T _ x y - -(k_T _ y x) + 1 = k_T _ x y - -(k_T _ y x) + 1
  rw [r.T hx hy, r.T hy hx]
theorem lp_X5_known {X : fp_X} {M : fp_M} {c x y : Nat} (hw : k_wf M 1 c) (hx : x < 8) (hy : y < 8) : ∀ (n i : Nat), i + n = 501 → ∀ (drawn : Int32) (N : fp_M) (w3 : Option Value), (k_ech M N ∧ ¬ (k_can M c drawn ∧ k_wid (k_ch M c drawn) x y = 1)) → fp_W X mX5_known 19 [some (.ref 0), some (.int (nI x)), some (.int (nI y)), some (.int drawn), some (.int (nI i)), w3] [] fp_sh N 0 0 (fun r s m => r = some (.int (k_wv (k_known M c x y n i) nI 3)) ∧ s = fp_sh ∧ k_ech (k_wb M (k_known M c x y n i) 3) m) := by
  intro n
  induction n with
  | zero =>
    intro i hi drawn  N  w3  hinv
    have ti : (nI i).toInt = (i : Int) := nI_toInt (by omega)
    obtain ⟨hN, hd⟩ := hinv
    have wN := hN.wf hw
    refine r_iload dX5_known_19 rfl ?_
    refine r_sp (500) dX5_known_21 ?_
    refine r_icmp_gt 86 dX5_known_24 (fun h24 => ?_) (fun h24 => ?_)
    · refine r_aloadn dX5_known_86 rfl (by decide) ?_
      refine r_ic (3) dX5_known_87 ?_
      refine c_V1 (μz := mX5_finding) dX5_known_88 kl_RX5_73 mv_X5_finding rfl (ok_X5_finding (w := 3) rfl (by decide)) ?_
      exact r_iret dX5_known_91 ⟨rfl, rfl, hN.fd⟩
    · exfalso; simp only [Int32.le_iff_toInt_le, Int32.lt_iff_toInt_lt, Int32.reduceToInt] at h24; omega
  | succ n ih =>
    intro i hi drawn  N  w3  hinv
    have ti : (nI i).toInt = (i : Int) := nI_toInt (by omega)
    obtain ⟨hN, hd⟩ := hinv
    have wN := hN.wf hw
    refine r_iload dX5_known_19 rfl ?_
    refine r_sp (500) dX5_known_21 ?_
    refine r_icmp_gt 86 dX5_known_24 (fun h24 => ?_) (fun h24 => ?_)
    · exfalso; simp only [Int32.le_iff_toInt_le, Int32.lt_iff_toInt_lt, Int32.reduceToInt] at h24; omega
    · refine r_aloadn dX5_known_27 rfl (by decide) ?_
      refine r_getfr dX5_known_28 kf_RX5_10 rfl rfl ?_
      refine r_aloadn dX5_known_31 rfl (by decide) ?_
      refine r_getfr dX5_known_32 kf_RX5_10 rfl rfl ?_
      refine r_getfi dX5_known_35 kf_RX5_107 rfl rfl ?_
      refine r_iload dX5_known_38 rfl ?_
      refine r_iadd dX5_known_40 ?_
      refine c_V1 (μz := mX2_countingOn) dX5_known_41 kl_RX5_162 mv_X2_countingOn rfl (ok_X2_countingOn fp_of_1 wN.2.1 wN.1) ?_
      rw [k_set_e hN hw]
      refine r_istore5 dX5_known_44 ?_
      refine r_iload dX5_known_46 rfl ?_
      refine r_iloadn dX5_known_48 rfl ?_
      refine r_icmp_eq 77 dX5_known_49 (fun h49 => ?_) (fun h49 => ?_)
      · refine r_iload dX5_known_77 rfl ?_
        refine r_istore3 dX5_known_79 ?_
        refine r_iinc4 (1) dX5_known_80 ?_
        refine r_goto 19 dX5_known_83 ?_
        rw [nI_1]
        unfold k_known k_first
        have hk : ¬ (k_can M c (k_set M c i) ∧ k_wid (k_ch M c (k_set M c i)) x y = 1) := by rw [h49]; exact hd
        rw [if_neg (by rw [decide_eq_true_eq]; exact hk)]
        exact ih (i + 1) (by omega) _ _ _ ⟨hN, hk⟩
      · refine r_aloadn dX5_known_52 rfl (by decide) ?_
        refine r_iload dX5_known_53 rfl ?_
        refine c_V1 (μz := mX5_canHold) dX5_known_55 kl_RX5_136 mv_X5_canHold rfl (ok_X5_canHold (hN.wf hw)) ?_
        refine r_if_eq 77 dX5_known_58 (fun h58 => ?_) (fun h58 => ?_)
        · refine r_iload dX5_known_77 rfl ?_
          refine r_istore3 dX5_known_79 ?_
          refine r_iinc4 (1) dX5_known_80 ?_
          refine r_goto 19 dX5_known_83 ?_
          rw [nI_1]
          unfold k_known k_first
          have hk : ¬ (k_can M c (k_set M c i) ∧ k_wid (k_ch M c (k_set M c i)) x y = 1) := fun q => (k_can_e hN hw).mpr q.1 h58
          rw [if_neg (by rw [decide_eq_true_eq]; exact hk)]
          exact ih (i + 1) (by omega) _ _ _ ⟨hN.tr (k_ch_ech _ _ _), hk⟩
        · refine r_aloadn dX5_known_61 rfl (by decide) ?_
          refine r_getfr dX5_known_62 kf_RX5_29 rfl rfl ?_
          refine r_iloadn dX5_known_65 rfl ?_
          refine r_iloadn dX5_known_66 rfl ?_
          refine c_V2 (μz := mX0_width) dX5_known_67 kl_RX5_146 mv_X0_width rfl (ok_X0_width hx hy) ?_
          refine r_ic (1) dX5_known_70 ?_
          refine r_icmp_ne 77 dX5_known_71 (fun h71 => ?_) (fun h71 => ?_)
          · refine r_iload dX5_known_77 rfl ?_
            refine r_istore3 dX5_known_79 ?_
            refine r_iinc4 (1) dX5_known_80 ?_
            refine r_goto 19 dX5_known_83 ?_
            rw [nI_1]
            unfold k_known k_first
            have hk : ¬ (k_can M c (k_set M c i) ∧ k_wid (k_ch M c (k_set M c i)) x y = 1) := fun q => h71 ((k_wid_e hN hw hx hy).trans q.2)
            rw [if_neg (by rw [decide_eq_true_eq]; exact hk)]
            exact ih (i + 1) (by omega) _ _ _ ⟨hN.tr (k_ch_ech _ _ _), hk⟩
          · refine r_iload dX5_known_74 rfl ?_
            exact r_iret dX5_known_76 ⟨by unfold k_known k_first; rw [if_pos (decide_eq_true ⟨(k_can_e hN hw).mp h58, (k_wid_e hN hw hx hy).symm.trans h71⟩)]; rfl, rfl, by unfold k_known k_first; rw [if_pos (decide_eq_true ⟨(k_can_e hN hw).mp h58, (k_wid_e hN hw hx hy).symm.trans h71⟩)]; exact hN.tr (k_ch_ech _ _ _)⟩

theorem k_known_0 (M : fp_M) {c x y : Nat} (hc : c ≤ 8) (hx : x < 8) (hy : y < 8) (hne : ¬ x = y) : ¬ (k_can M c 0 ∧ k_wid (k_ch M c 0) x y = 1) := by
  intro q
  have h := q.2
  have e : k_ch M c 0 = k_clr M := k_draw_0 M c _ hc
  rw [e] at h
  have h2 : k_wid (k_clr M) x y = k_T (k_clr M) x y - -(k_T (k_clr M) y x) + 1 := rfl
  rw [h2, k_clr_T M hx hy, k_clr_T M hy hx, if_neg hne, if_neg (fun e => hne e.symm)] at h
  exact absurd h (by decide)
def sp_known (M : fp_M) (c : Nat) (a b : Int32) : Int32 × fp_M := if k_pair a b then (k_wv (k_known M c (k_v a) (k_v b) 501 0) nI 3, k_wb M (k_known M c (k_v a) (k_v b) 501 0) 3) else (k_lo 0, k_fd M 0)
theorem ok_X5_known {X : fp_X} {M : fp_M} {c : Nat} {a b : Int32} (hw : k_wf M 1 c) : fp_Ok X mX5_known [.ref 0, .int a, .int b] fp_sh M (fun r s m => r = some (.int (sp_known M c a b).1) ∧ s = fp_sh ∧ k_ech (sp_known M c a b).2 m) := by
  refine fp_ok [some (.ref 0), some (.int a), some (.int b), none, none, none] ?_
  refine r_iloadn dX5_known_0 rfl ?_
  refine r_iloadn dX5_known_1 rfl ?_
  refine c_S2 (μz := mX5_arePair) dX5_known_2 kl_RX5_62 ms_X5_arePair ok_X5_arePair ?_
  refine r_if_ne 14 dX5_known_5 (fun h5 => ?_) (fun h5 => ?_)
  · obtain ⟨x, y, hx, hy, hxy, rfl, rfl⟩ := k_pr (bi_1.mp h5)
    have ex : k_v (nI x) = x := nI_clamp (by omega)
    have ey : k_v (nI y) = y := nI_clamp (by omega)
    refine r_ic (0) dX5_known_14 ?_
    refine r_istore3 dX5_known_15 ?_
    refine r_ic (0) dX5_known_16 ?_
    refine r_istore4 dX5_known_17 ?_
    unfold sp_known
    rw [if_pos (bi_1.mp h5), ex, ey]
    exact lp_X5_known hw hx hy 501 0 (by omega) 0 M none ⟨k_ech.rf M, k_known_0 M hw.1 hx hy hxy⟩
  · refine r_aloadn dX5_known_8 rfl (by decide) ?_
    refine r_ic (0) dX5_known_9 ?_
    refine c_V1 (μz := mX5_finding) dX5_known_10 kl_RX5_73 mv_X5_finding rfl (ok_X5_finding (w := 0) rfl (by decide)) ?_
    exact r_iret dX5_known_13 ⟨by unfold sp_known; rw [if_neg (bi_0.mp h5)], rfl, by unfold sp_known; rw [if_neg (bi_0.mp h5)]; exact k_ech.rf _⟩
/-- a set without one of its letters -/
abbrev k_wo (set : Int32) (i : Nat) : Int32 := set &&& ((1 <<< (nI i &&& 31)) ^^^ (-1))
abbrev k_isin (set : Int32) (i : Nat) : Prop := (set >>> (nI i &&& 31)) &&& 1 = 1
def k_susp (M : fp_M) (c : Nat) (set : Int32) (n : Nat) : Nat := k_bn (fun i => decide (k_isin set i ∧ k_can M c (k_wo set i))) n
def k_imp (M : fp_M) (c : Nat) (set : Int32) (n : Nat) : Nat := k_bn (fun i => decide ((k_isin set i ∧ k_can M c (k_wo set i)) ∧ (k_least (M (3 + i) 0) (M (3 + i) 3) (M 1 2) ≤ -(k_T (k_ch M c (k_wo set i)) (k_v (M (3 + i) 2)) (k_v (M (3 + i) 1))) ∧ k_T (k_ch M c (k_wo set i)) (k_v (M (3 + i) 1)) (k_v (M (3 + i) 2)) ≤ k_most (M (3 + i) 0) (M (3 + i) 3) (M 1 2)))) n
theorem lp_X5_suspects {X : fp_X} {M : fp_M} {c : Nat} {set : Int32} (hw : k_wf M 1 c) : ∀ (n i : Nat), i + n = c → ∀ (N : fp_M), (k_ech M N) → fp_W X mX5_suspects 9 [some (.ref 0), some (.int set), some (.int (nI (k_susp M c set i))), some (.int (nI i))] [] fp_sh N 0 0 (fun r s m => r = some (.int (nI (k_susp M c set c))) ∧ s = fp_sh ∧ k_ech M m) := by
  intro n
  induction n with
  | zero =>
    intro i hi N  hinv
    have h8 := hw.1
    have ti : (nI i).toInt = (i : Int) := nI_toInt (by omega)
    have wN := hinv.wf hw
    have hN := hinv
    have tc : (N 1 1).toInt = (c : Int) := by rw [wN.2.1]; exact nI_toInt (by omega)
    refine r_iloadn dX5_suspects_9 rfl ?_
    refine r_aloadn dX5_suspects_10 rfl (by decide) ?_
    refine r_getfr dX5_suspects_11 kf_RX5_10 rfl rfl ?_
    refine r_getfi dX5_suspects_14 kf_RX5_77 rfl rfl ?_
    refine r_icmp_ge 52 dX5_suspects_17 (fun h17 => ?_) (fun h17 => ?_)
    · refine r_iloadn dX5_suspects_52 rfl ?_
      exact r_iret dX5_suspects_53 ⟨by rw [show i = c by omega], rfl, hN⟩
    · exfalso; simp only [Int32.le_iff_toInt_le, Int32.lt_iff_toInt_lt, Int32.reduceToInt] at h17; omega
  | succ n ih =>
    intro i hi N  hinv
    have h8 := hw.1
    have ti : (nI i).toInt = (i : Int) := nI_toInt (by omega)
    have wN := hinv.wf hw
    have hN := hinv
    have tc : (N 1 1).toInt = (c : Int) := by rw [wN.2.1]; exact nI_toInt (by omega)
    refine r_iloadn dX5_suspects_9 rfl ?_
    refine r_aloadn dX5_suspects_10 rfl (by decide) ?_
    refine r_getfr dX5_suspects_11 kf_RX5_10 rfl rfl ?_
    refine r_getfi dX5_suspects_14 kf_RX5_77 rfl rfl ?_
    refine r_icmp_ge 52 dX5_suspects_17 (fun h17 => ?_) (fun h17 => ?_)
    · exfalso; simp only [Int32.le_iff_toInt_le, Int32.lt_iff_toInt_lt, Int32.reduceToInt] at h17; omega
    · refine r_iloadn dX5_suspects_20 rfl ?_
      refine r_iloadn dX5_suspects_21 rfl ?_
      refine c_S2 (μz := mX5_isIn) dX5_suspects_22 kl_RX5_179 ms_X5_isIn ok_X5_isIn ?_
      refine r_if_eq 46 dX5_suspects_25 (fun h25 => ?_) (fun h25 => ?_)
      · refine r_iinc3 (1) dX5_suspects_46 ?_
        refine r_goto 9 dX5_suspects_49 ?_
        rw [nI_1]
        have e := ih (i + 1) (by omega) N hN
        rw [show k_susp M c set (i + 1) = k_susp M c set i from k_bn_no (decide_eq_false (fun q => bi_0.mp h25 q.1))] at e
        exact e
      · refine r_aloadn dX5_suspects_28 rfl (by decide) ?_
        refine r_iloadn dX5_suspects_29 rfl ?_
        refine r_iloadn dX5_suspects_30 rfl ?_
        refine c_S2 (μz := mX5_without) dX5_suspects_31 kl_RX5_182 ms_X5_without ok_X5_without ?_
        refine c_V1 (μz := mX5_canHold) dX5_suspects_34 kl_RX5_136 mv_X5_canHold rfl (ok_X5_canHold (hN.wf hw)) ?_
        refine r_if_eq 46 dX5_suspects_37 (fun h37 => ?_) (fun h37 => ?_)
        · refine r_iinc3 (1) dX5_suspects_46 ?_
          refine r_goto 9 dX5_suspects_49 ?_
          rw [nI_1]
          have e := ih (i + 1) (by omega) _ (hN.tr (k_ch_ech N c (k_wo set i)))
          rw [show k_susp M c set (i + 1) = k_susp M c set i from k_bn_no (decide_eq_false (fun q => (k_can_e hN hw).mpr q.2 h37))] at e
          exact e
        · refine r_iloadn dX5_suspects_40 rfl ?_
          refine r_ic (1) dX5_suspects_41 ?_
          refine r_iloadn dX5_suspects_42 rfl ?_
          refine r_ishl dX5_suspects_43 ?_
          refine r_ior dX5_suspects_44 ?_
          refine r_istore2 dX5_suspects_45 ?_
          refine r_iinc3 (1) dX5_suspects_46 ?_
          refine r_goto 9 dX5_suspects_49 ?_
          rw [nI_1]
          rw [show nI (k_susp M c set i) ||| _ = nI (k_susp M c set (i + 1)) from k_bn_or (by omega) (decide_eq_true ⟨bi_1.mp h25, (k_can_e hN hw).mp h37⟩)]
          exact ih (i + 1) (by omega) _ (hN.tr (k_ch_ech _ _ _))

theorem ok_X5_suspects {X : fp_X} {M : fp_M} {c : Nat} (hw : k_wf M 1 c) : fp_Ok X mX5_suspects [.ref 0] fp_sh M (fun r s m => r = some (.int (nI (k_susp M c (k_cn M c) c))) ∧ s = fp_sh ∧ k_ech M m) := by
  refine fp_ok [some (.ref 0), none, none, none] ?_
  refine r_aloadn dX5_suspects_0 rfl (by decide) ?_
  refine c_V0 (μz := mX5_counting) dX5_suspects_1 kl_RX5_126 mv_X5_counting rfl (ok_X5_counting hw) ?_
  refine r_istore1 dX5_suspects_4 ?_
  refine r_ic (0) dX5_suspects_5 ?_
  refine r_istore2 dX5_suspects_6 ?_
  refine r_ic (0) dX5_suspects_7 ?_
  refine r_istore3 dX5_suspects_8 ?_
  exact lp_X5_suspects hw c 0 (by omega) M (k_ech.rf M)
theorem lp_X5_implied {X : fp_X} {M : fp_M} {c : Nat} {set : Int32} (hw : k_wf M 1 c) : ∀ (n i : Nat), i + n = c → ∀ (N : fp_M), (k_ech M N) → fp_W X mX5_implied 23 [some (.ref 0), some (.int set), some (.int (nI (k_imp M c set i))), some (.int (nI i))] [] fp_sh N 0 0 (fun r s m => r = some (.int (nI (k_imp M c set c))) ∧ s = fp_sh ∧ k_ech M m) := by
  intro n
  induction n with
  | zero =>
    intro i hi N  hinv
    have h8 := hw.1
    have ti : (nI i).toInt = (i : Int) := nI_toInt (by omega)
    have wN := hinv.wf hw
    have hN := hinv
    have tc : (N 1 1).toInt = (c : Int) := by rw [wN.2.1]; exact nI_toInt (by omega)
    refine r_iloadn dX5_implied_23 rfl ?_
    refine r_aloadn dX5_implied_24 rfl (by decide) ?_
    refine r_getfr dX5_implied_25 kf_RX5_10 rfl rfl ?_
    refine r_getfi dX5_implied_28 kf_RX5_77 rfl rfl ?_
    refine r_icmp_ge 92 dX5_implied_31 (fun h31 => ?_) (fun h31 => ?_)
    · refine r_iloadn dX5_implied_92 rfl ?_
      exact r_iret dX5_implied_93 ⟨by rw [show i = c by omega], rfl, hN⟩
    · exfalso; simp only [Int32.le_iff_toInt_le, Int32.lt_iff_toInt_lt, Int32.reduceToInt] at h31; omega
  | succ n ih =>
    intro i hi N  hinv
    have h8 := hw.1
    have ti : (nI i).toInt = (i : Int) := nI_toInt (by omega)
    have wN := hinv.wf hw
    have hN := hinv
    have tc : (N 1 1).toInt = (c : Int) := by rw [wN.2.1]; exact nI_toInt (by omega)
    refine r_iloadn dX5_implied_23 rfl ?_
    refine r_aloadn dX5_implied_24 rfl (by decide) ?_
    refine r_getfr dX5_implied_25 kf_RX5_10 rfl rfl ?_
    refine r_getfi dX5_implied_28 kf_RX5_77 rfl rfl ?_
    refine r_icmp_ge 92 dX5_implied_31 (fun h31 => ?_) (fun h31 => ?_)
    · exfalso; simp only [Int32.le_iff_toInt_le, Int32.lt_iff_toInt_lt, Int32.reduceToInt] at h31; omega
    · refine r_iloadn dX5_implied_34 rfl ?_
      refine r_iloadn dX5_implied_35 rfl ?_
      refine c_S2 (μz := mX5_isIn) dX5_implied_36 kl_RX5_179 ms_X5_isIn ok_X5_isIn ?_
      refine r_if_eq 86 dX5_implied_39 (fun h39 => ?_) (fun h39 => ?_)
      · refine r_iinc3 (1) dX5_implied_86 ?_
        refine r_goto 23 dX5_implied_89 ?_
        rw [nI_1]
        have e := ih (i + 1) (by omega) N hN
        rw [show k_imp M c set (i + 1) = k_imp M c set i from k_bn_no (decide_eq_false (fun q => bi_0.mp h39 q.1.1))] at e
        exact e
      · refine r_aloadn dX5_implied_42 rfl (by decide) ?_
        refine r_iloadn dX5_implied_43 rfl ?_
        refine r_iloadn dX5_implied_44 rfl ?_
        refine c_S2 (μz := mX5_without) dX5_implied_45 kl_RX5_182 ms_X5_without ok_X5_without ?_
        refine c_V1 (μz := mX5_canHold) dX5_implied_48 kl_RX5_136 mv_X5_canHold rfl (ok_X5_canHold (hN.wf hw)) ?_
        refine r_if_eq 86 dX5_implied_51 (fun h51 => ?_) (fun h51 => ?_)
        · refine r_iinc3 (1) dX5_implied_86 ?_
          refine r_goto 23 dX5_implied_89 ?_
          rw [nI_1]
          have e := ih (i + 1) (by omega) _ (hN.tr (k_ch_ech N c (k_wo set i)))
          rw [show k_imp M c set (i + 1) = k_imp M c set i from k_bn_no (decide_eq_false (fun q => (k_can_e hN hw).mpr q.1.2 h51))] at e
          exact e
        · obtain ⟨f, t, hf8, ht8, hf, ht, h01⟩ := hw.2.2 i (by omega)
          have hN2 := hN.tr (k_ch_ech N c (k_wo set i))
          have r := k_ch_R (k_wo set i) hN hw
          have ef : k_v (M (3 + i) 1) = f := by show (M (3 + i) 1).toNatClampNeg = f; rw [show M (3 + i) 1 = nI f from hf]; exact nI_clamp (by omega)
          have et : k_v (M (3 + i) 2) = t := by show (M (3 + i) 2).toNatClampNeg = t; rw [show M (3 + i) 2 = nI t from ht]; exact nI_clamp (by omega)
          have q : ∀ j, k_ch N c (k_wo set i) (1 + 2 + i) j = M (3 + i) j := fun j => by rw [show 1 + 2 + i = 3 + i by omega]; exact hN2 _ _ (by omega) (by omega)
          have qs : k_ch N c (k_wo set i) 1 2 = M 1 2 := hN2 1 2 (by decide) (by decide)
          refine r_aloadn dX5_implied_54 rfl (by decide) ?_
          refine r_getfr dX5_implied_55 kf_RX5_29 rfl rfl ?_
          refine r_aloadn dX5_implied_58 rfl (by decide) ?_
          refine r_getfr dX5_implied_59 kf_RX5_10 rfl rfl ?_
          refine r_getfr dX5_implied_62 kf_RX5_88 rfl rfl ?_
          refine r_iloadn dX5_implied_65 rfl ?_
          refine r_aaldL (j := i) dX5_implied_66 (sh_r fp_of_1) rfl (sh_rr (by omega)) (by omega) (Nat.le_of_ble_eq_true rfl) ?_
          refine r_aloadn dX5_implied_67 rfl (by decide) ?_
          refine r_getfr dX5_implied_68 kf_RX5_10 rfl rfl ?_
          refine r_getfi dX5_implied_71 kf_RX5_92 rfl rfl ?_
          refine c_V2 (μz := mX0_implies) dX5_implied_74 kl_RX5_185 mv_X0_implies rfl (ok_X0_implies (sh_l fp_of_1 (by omega)) ((q 1).trans hf) ((q 2).trans ht) hf8 ht8) ?_
          refine r_if_eq 86 dX5_implied_77 (fun h77 => ?_) (fun h77 => ?_)
          · refine r_iinc3 (1) dX5_implied_86 ?_
            refine r_goto 23 dX5_implied_89 ?_
            rw [nI_1]
            simp only [q, qs] at h77
            rw [← r.T hf8 ht8, ← r.T ht8 hf8] at h77
            have e := ih (i + 1) (by omega) _ hN2
            rw [show k_imp M c set (i + 1) = k_imp M c set i from k_bn_no (decide_eq_false (fun z => by rw [ef, et] at z; exact bi_0.mp h77 z.2))] at e
            exact e
          · refine r_iloadn dX5_implied_80 rfl ?_
            refine r_ic (1) dX5_implied_81 ?_
            refine r_iloadn dX5_implied_82 rfl ?_
            refine r_ishl dX5_implied_83 ?_
            refine r_ior dX5_implied_84 ?_
            refine r_istore2 dX5_implied_85 ?_
            refine r_iinc3 (1) dX5_implied_86 ?_
            refine r_goto 23 dX5_implied_89 ?_
            rw [nI_1]
            simp only [q, qs] at h77
            rw [← r.T hf8 ht8, ← r.T ht8 hf8] at h77
            rw [show nI (k_imp M c set i) ||| _ = nI (k_imp M c set (i + 1)) from k_bn_or (by omega) (decide_eq_true (by rw [ef, et]; exact ⟨⟨bi_1.mp h39, (k_can_e hN hw).mp h51⟩, bi_1.mp h77⟩))]
            exact ih (i + 1) (by omega) _ hN2

def sp_implied (M : fp_M) (c : Nat) : Int32 × fp_M := if k_can M c (k_cn M c) then (nI (k_imp M c (k_cn M c) c), M) else (k_lo 3, k_fd M 3)
theorem ok_X5_implied {X : fp_X} {M : fp_M} {c : Nat} (hw : k_wf M 1 c) : fp_Ok X mX5_implied [.ref 0] fp_sh M (fun r s m => r = some (.int (sp_implied M c).1) ∧ s = fp_sh ∧ k_ech (sp_implied M c).2 m) := by
  refine fp_ok [some (.ref 0), none, none, none] ?_
  refine r_aloadn dX5_implied_0 rfl (by decide) ?_
  refine c_V0 (μz := mX5_counting) dX5_implied_1 kl_RX5_126 mv_X5_counting rfl (ok_X5_counting hw) ?_
  refine r_istore1 dX5_implied_4 ?_
  refine r_aloadn dX5_implied_5 rfl (by decide) ?_
  refine r_iloadn dX5_implied_6 rfl ?_
  refine c_V1 (μz := mX5_canHold) dX5_implied_7 kl_RX5_136 mv_X5_canHold rfl (ok_X5_canHold hw) ?_
  refine r_if_ne 19 dX5_implied_10 (fun h10 => ?_) (fun h10 => ?_)
  · refine r_ic (0) dX5_implied_19 ?_
    refine r_istore2 dX5_implied_20 ?_
    refine r_ic (0) dX5_implied_21 ?_
    refine r_istore3 dX5_implied_22 ?_
    unfold sp_implied
    rw [if_pos h10]
    exact lp_X5_implied hw c 0 (by omega) _ (k_ch_ech _ _ _)
  · refine r_aloadn dX5_implied_13 rfl (by decide) ?_
    refine r_ic (3) dX5_implied_14 ?_
    refine c_V1 (μz := mX5_finding) dX5_implied_15 kl_RX5_73 mv_X5_finding rfl (ok_X5_finding (w := 3) rfl (by decide)) ?_
    exact r_iret dX5_implied_18 ⟨by unfold sp_implied; rw [if_neg (fun q => q h10)], rfl, by unfold sp_implied; rw [if_neg (fun q => q h10)]; exact (k_ch_ech _ _ _).fd⟩
def k_dear (M : fp_M) (c : Nat) (set : Int32) (i : Nat) (s : Int32 × Int32) : Int32 × Int32 := if (k_isin set i ∧ k_can M c (k_wo set i)) ∧ s.2 < k_allw (k_wid (k_ch M c (k_wo set i))) then (nI i, k_allw (k_wid (k_ch M c (k_wo set i)))) else s
def sp_dearest (M : fp_M) (c : Nat) : Int32 × fp_M := if ¬ k_cn M c = 0 ∧ k_can M c (k_cn M c) then ((k_it (k_dear M c (k_cn M c)) c 0 (0, -1)).1, M) else (k_lo 3, k_fd M 3)
theorem k_it_cg {α : Type} {f g : Nat → α → α} : ∀ (n i : Nat), (∀ j, i ≤ j → j < i + n → ∀ s, f j s = g j s) → ∀ s, k_it f n i s = k_it g n i s
  | 0, _, _, _ => rfl
  | n + 1, i, h, s => by
    rw [k_it_s, k_it_s, h i (Nat.le_refl i) (by omega)]
    exact k_it_cg n (i + 1) (fun j h1 h2 => h j (by omega) (by omega)) _
theorem k_allw_e {M N : fp_M} {c : Nat} {set : Int32} (h : k_ech M N) (hw : k_wf M 1 c) : k_allw (k_wid (k_ch N c set)) = k_allw (k_wid (k_ch M c set)) := by
  unfold k_allw
  refine k_it_cg 8 0 (fun a _ ha s => ?_) 0
  refine k_it_cg (7 - a) (a + 1) (fun b h1 h2 s => ?_) s
  rw [k_wid_e h hw (by omega) (by omega)]
theorem lp_X5_dearest {X : fp_X} {M : fp_M} {c : Nat} {set : Int32} (hw : k_wf M 1 c) : ∀ (n i : Nat), i + n = c → ∀ (N : fp_M) (z : Int32 × Int32), (k_ech M N) → fp_W X mX5_dearest 30 [some (.ref 0), some (.int set), some (.int z.1), some (.int z.2), some (.int (nI i))] [] fp_sh N 0 0 (fun r s m => r = some (.int (k_it (k_dear M c set) n i z).1) ∧ s = fp_sh ∧ k_ech M m) := by
  intro n
  induction n with
  | zero =>
    intro i hi N  z  hinv
    have h8 := hw.1
    have ti : (nI i).toInt = (i : Int) := nI_toInt (by omega)
    have wN := hinv.wf hw
    have hN := hinv
    have tc : (N 1 1).toInt = (c : Int) := by rw [wN.2.1]; exact nI_toInt (by omega)
    refine r_iload dX5_dearest_30 rfl ?_
    refine r_aloadn dX5_dearest_32 rfl (by decide) ?_
    refine r_getfr dX5_dearest_33 kf_RX5_10 rfl rfl ?_
    refine r_getfi dX5_dearest_36 kf_RX5_77 rfl rfl ?_
    refine r_icmp_ge 92 dX5_dearest_39 (fun h39 => ?_) (fun h39 => ?_)
    · refine r_iloadn dX5_dearest_92 rfl ?_
      exact r_iret dX5_dearest_93 ⟨rfl, rfl, hN⟩
    · exfalso; simp only [Int32.le_iff_toInt_le, Int32.lt_iff_toInt_lt, Int32.reduceToInt] at h39; omega
  | succ n ih =>
    intro i hi N  z  hinv
    have h8 := hw.1
    have ti : (nI i).toInt = (i : Int) := nI_toInt (by omega)
    have wN := hinv.wf hw
    have hN := hinv
    have tc : (N 1 1).toInt = (c : Int) := by rw [wN.2.1]; exact nI_toInt (by omega)
    refine r_iload dX5_dearest_30 rfl ?_
    refine r_aloadn dX5_dearest_32 rfl (by decide) ?_
    refine r_getfr dX5_dearest_33 kf_RX5_10 rfl rfl ?_
    refine r_getfi dX5_dearest_36 kf_RX5_77 rfl rfl ?_
    refine r_icmp_ge 92 dX5_dearest_39 (fun h39 => ?_) (fun h39 => ?_)
    · exfalso; simp only [Int32.le_iff_toInt_le, Int32.lt_iff_toInt_lt, Int32.reduceToInt] at h39; omega
    · refine r_iload dX5_dearest_42 rfl ?_
      refine r_iloadn dX5_dearest_44 rfl ?_
      refine c_S2 (μz := mX5_isIn) dX5_dearest_45 kl_RX5_179 ms_X5_isIn ok_X5_isIn ?_
      refine r_if_eq 86 dX5_dearest_48 (fun h48 => ?_) (fun h48 => ?_)
      · refine r_iinc4 (1) dX5_dearest_86 ?_
        refine r_goto 30 dX5_dearest_89 ?_
        rw [nI_1, k_it_s]
        rw [show k_dear M c set i z = z from by unfold k_dear; rw [if_neg (fun q => bi_0.mp h48 q.1.1)]]
        exact ih (i + 1) (by omega) N z hN
      · refine r_aloadn dX5_dearest_51 rfl (by decide) ?_
        refine r_iload dX5_dearest_52 rfl ?_
        refine r_iloadn dX5_dearest_54 rfl ?_
        refine c_S2 (μz := mX5_without) dX5_dearest_55 kl_RX5_182 ms_X5_without ok_X5_without ?_
        refine c_V1 (μz := mX5_canHold) dX5_dearest_58 kl_RX5_136 mv_X5_canHold rfl (ok_X5_canHold (hN.wf hw)) ?_
        refine r_if_eq 86 dX5_dearest_61 (fun h61 => ?_) (fun h61 => ?_)
        · refine r_iinc4 (1) dX5_dearest_86 ?_
          refine r_goto 30 dX5_dearest_89 ?_
          rw [nI_1, k_it_s]
          rw [show k_dear M c set i z = z from by unfold k_dear; rw [if_neg (fun q => (k_can_e hN hw).mpr q.1.2 h61)]]
          exact ih (i + 1) (by omega) _ z (hN.tr (k_ch_ech _ _ _))
        · refine r_aloadn dX5_dearest_64 rfl (by decide) ?_
          refine r_getfr dX5_dearest_65 kf_RX5_29 rfl rfl ?_
          refine c_V0 (μz := mX0_allWidths) dX5_dearest_68 kl_RX5_155 mv_X0_allWidths rfl ok_X0_allWidths ?_
          refine r_iloadn dX5_dearest_71 rfl ?_
          refine r_icmp_le 86 dX5_dearest_72 (fun h72 => ?_) (fun h72 => ?_)
          · refine r_iinc4 (1) dX5_dearest_86 ?_
            refine r_goto 30 dX5_dearest_89 ?_
            rw [nI_1, k_it_s]
            rw [k_allw_e hN hw] at h72
            rw [show k_dear M c set i z = z from by unfold k_dear; rw [if_neg (fun q => absurd q.2 (Int32.not_lt.mpr h72))]]
            exact ih (i + 1) (by omega) _ z (hN.tr (k_ch_ech _ _ _))
          · refine r_aloadn dX5_dearest_75 rfl (by decide) ?_
            refine r_getfr dX5_dearest_76 kf_RX5_29 rfl rfl ?_
            refine c_V0 (μz := mX0_allWidths) dX5_dearest_79 kl_RX5_155 mv_X0_allWidths rfl ok_X0_allWidths ?_
            refine r_istore3 dX5_dearest_82 ?_
            refine r_iload dX5_dearest_83 rfl ?_
            refine r_istore2 dX5_dearest_85 ?_
            refine r_iinc4 (1) dX5_dearest_86 ?_
            refine r_goto 30 dX5_dearest_89 ?_
            rw [nI_1, k_it_s]
            rw [k_allw_e hN hw] at h72
            rw [show k_dear M c set i z = (nI i, k_allw (k_wid (k_ch M c (k_wo set i)))) from by unfold k_dear; rw [if_pos ⟨⟨bi_1.mp h48, (k_can_e hN hw).mp h61⟩, Int32.not_le.mp h72⟩]]
            rw [k_allw_e hN hw]
            exact ih (i + 1) (by omega) _ (nI i, k_allw (k_wid (k_ch M c (k_wo set i)))) (hN.tr (k_ch_ech _ _ _))

theorem ok_X5_dearest {X : fp_X} {M : fp_M} {c : Nat} (hw : k_wf M 1 c) : fp_Ok X mX5_dearest [.ref 0] fp_sh M (fun r s m => r = some (.int (sp_dearest M c).1) ∧ s = fp_sh ∧ k_ech (sp_dearest M c).2 m) := by
  refine fp_ok [some (.ref 0), none, none, none, none] ?_
  refine r_aloadn dX5_dearest_0 rfl (by decide) ?_
  refine c_V0 (μz := mX5_counting) dX5_dearest_1 kl_RX5_126 mv_X5_counting rfl (ok_X5_counting hw) ?_
  refine r_istore1 dX5_dearest_4 ?_
  refine r_iloadn dX5_dearest_5 rfl ?_
  refine r_if_eq 17 dX5_dearest_6 (fun h6 => ?_) (fun h6 => ?_)
  · refine r_aloadn dX5_dearest_17 rfl (by decide) ?_
    refine r_ic (3) dX5_dearest_18 ?_
    refine c_V1 (μz := mX5_finding) dX5_dearest_19 kl_RX5_73 mv_X5_finding rfl (ok_X5_finding (w := 3) rfl (by decide)) ?_
    exact r_iret dX5_dearest_22 ⟨by unfold sp_dearest; rw [if_neg (fun q => q.1 h6)], rfl, by unfold sp_dearest; rw [if_neg (fun q => q.1 h6)]; exact k_ech.rf _⟩
  · refine r_aloadn dX5_dearest_9 rfl (by decide) ?_
    refine r_iloadn dX5_dearest_10 rfl ?_
    refine c_V1 (μz := mX5_canHold) dX5_dearest_11 kl_RX5_136 mv_X5_canHold rfl (ok_X5_canHold hw) ?_
    refine r_if_ne 23 dX5_dearest_14 (fun h14 => ?_) (fun h14 => ?_)
    · refine r_ic (0) dX5_dearest_23 ?_
      refine r_istore2 dX5_dearest_24 ?_
      refine r_ic (-1) dX5_dearest_25 ?_
      refine r_istore3 dX5_dearest_26 ?_
      refine r_ic (0) dX5_dearest_27 ?_
      refine r_istore4 dX5_dearest_28 ?_
      unfold sp_dearest
      rw [if_pos ⟨h6, h14⟩]
      exact lp_X5_dearest hw c 0 (by omega) _ (0, -1) (k_ch_ech _ _ _)
    · refine r_aloadn dX5_dearest_17 rfl (by decide) ?_
      refine r_ic (3) dX5_dearest_18 ?_
      refine c_V1 (μz := mX5_finding) dX5_dearest_19 kl_RX5_73 mv_X5_finding rfl (ok_X5_finding (w := 3) rfl (by decide)) ?_
      exact r_iret dX5_dearest_22 ⟨by unfold sp_dearest; rw [if_neg (fun q => q.2 h14)], rfl, by unfold sp_dearest; rw [if_neg (fun q => q.2 h14)]; exact (k_ch_ech _ _ _).fd⟩
