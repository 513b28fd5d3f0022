/-! ===== FarPost's calls: letters, days, maps ===== -/
abbrev k_lo (w : Int32) : Int32 := -1000001 - w
theorem k_idx {M : fp_M} {c : Nat} {l : Int32} (hw : k_wf M 1 c) (h : 0 ≤ l ∧ l < M 1 1) : ∃ n, n < c ∧ l = nI n := by
  obtain ⟨n, hn, rfl⟩ := nI_of (Int32.not_lt.mpr h.1)
  refine ⟨n, ?_, rfl⟩
  have h2 := h.2
  rw [hw.2.1] at h2
  exact (nI_ltI hn (Nat.lt_of_le_of_lt hw.1 (by decide))).mp h2
theorem k_rng {l : Int32} {N : Nat} {K : Int32} (hK : K.toInt = N) (h : 0 ≤ l ∧ l ≤ K) : ∃ n, n ≤ N ∧ l = nI n := nI_of2 hK (Int32.not_lt.mpr h.1) h.2
abbrev k_pair (a b : Int32) : Prop := (0 ≤ a ∧ a ≤ 7) ∧ (0 ≤ b ∧ b ≤ 7) ∧ ¬ a = b
theorem k_pr {a b : Int32} (h : k_pair a b) : ∃ x y : Nat, x < 8 ∧ y < 8 ∧ ¬ x = y ∧ a = nI x ∧ b = nI y := by
  obtain ⟨x, hx, rfl⟩ := k_rng (N := 7) rfl h.1
  obtain ⟨y, hy, rfl⟩ := k_rng (N := 7) rfl h.2.1
  exact ⟨x, y, by omega, by omega, fun e => h.2.2 (by rw [e]), rfl, rfl⟩
/-- the chart's answer -/
abbrev k_v (l : Int32) : Nat := l.toNatClampNeg
abbrev v_letter (k f t d m : Int32) : Prop := (0 ≤ k ∧ k ≤ 6) ∧ k_pair f t ∧ (-99 ≤ d ∧ d ≤ 99) ∧ (0 ≤ m ∧ m ≤ 999)
def sp_letter (M : fp_M) (c : Nat) (k f t d m : Int32) : Int32 × fp_M := if v_letter k f t d m then (if M 1 1 < 8 then (nI c, k_recv M 1 c k f t d m) else (k_lo 1, k_fd M 1)) else (k_lo 0, k_fd M 0)
abbrev v_let (M : fp_M) (l : Int32) : Prop := 0 ≤ l ∧ l < M 1 1
def sp_of (M : fp_M) (l w : Int32) : Int32 × fp_M := if v_let M l ∧ (0 ≤ w ∧ w ≤ 9) then ((if w = 6 then k_least (M (3 + k_v l) 0) (M (3 + k_v l) 3) (M 1 2) else if w = 7 then k_most (M (3 + k_v l) 0) (M (3 + k_v l) 3) (M 1 2) else if w = 8 then k_comes (M (3 + k_v l) 0) (M (3 + k_v l) 4) (M (3 + k_v l) 3) (M 1 3) else if w = 9 then bi (k_cnt M (3 + k_v l) (M 1 3) (M 1 4)) else k_part M (3 + k_v l) w), M) else (k_lo 0, k_fd M 0)
def sp_change (M : fp_M) (l w v : Int32) : Int32 × fp_M := if v_let M l ∧ k_ispart M (3 + k_v l) w v then (k_part M (3 + k_v l) w, k_setp M (3 + k_v l) w v) else (k_lo 0, k_fd M 0)
def sp_law (M : fp_M) (w v : Int32) : Int32 × fp_M := if (0 ≤ w ∧ w ≤ 1) ∧ (0 ≤ v ∧ v ≤ 9) then (if w = 0 then (M 1 2, fp_wr M 1 2 v) else (M 1 3, fp_wr M 1 3 v)) else (k_lo 0, k_fd M 0)
def sp_go (M : fp_M) (c : Nat) (n : Int32) : Int32 × fp_M := if 1 ≤ n ∧ n ≤ 200 then (if M 1 4 + n ≤ 99999 then (k_cn (fp_wr M 1 4 (M 1 4 + n)) c, fp_wr M 1 4 (M 1 4 + n)) else (k_lo 4, k_fd M 4)) else (k_lo 0, k_fd M 0)
def sp_now (M : fp_M) (c : Nat) (w : Int32) : Int32 × fp_M := if w = 0 then (M 1 4, M) else if w = 1 then (k_cn M c, M) else if w = 2 then (nI (k_tco M 1 c), M) else if w = 3 then (nI (k_str M 1 c), M) else if w = 4 then (M 1 2, M) else if w = 5 then (M 1 3, M) else (k_lo 0, k_fd M 0)
abbrev k_cc (M : fp_M) (c : Nat) : fp_M := k_ch M c (k_cn M c)
def sp_fits (M : fp_M) (c : Nat) : Int32 × fp_M := (if k_cc M c 34 0 = 0 then 0 else 1, k_cc M c)
def sp_span (M : fp_M) (c : Nat) (a b w : Int32) : Int32 × fp_M := if k_pair a b ∧ (0 ≤ w ∧ w ≤ 2) then (if k_cc M c 34 0 = 0 then (k_lo 3, k_fd (k_cc M c) 3) else if w = 0 then (-(k_T (k_cc M c) (k_v b) (k_v a)), k_cc M c) else if w = 1 then (k_T (k_cc M c) (k_v a) (k_v b), k_cc M c) else (k_wid (k_cc M c) (k_v a) (k_v b), k_cc M c)) else (k_lo 0, k_fd M 0)
def sp_sure (M : fp_M) (c : Nat) (a : Int32) : Int32 × fp_M := if 0 ≤ a ∧ a ≤ 7 then (if k_cc M c 34 0 = 0 then (k_lo 3, k_fd (k_cc M c) 3) else (nI (k_bn (fun i => decide (k_wid (k_cc M c) (k_v a) i = 1)) 8), k_cc M c)) else (k_lo 0, k_fd M 0)
def sp_below (M : fp_M) (c : Nat) (a : Int32) : Int32 × fp_M := if 0 ≤ a ∧ a ≤ 7 then (if k_cc M c 34 0 = 0 then (k_lo 3, k_fd (k_cc M c) 3) else (nI (k_bn (fun i => decide (0 < -(k_T (k_cc M c) i (k_v a)))) 8), k_cc M c)) else (k_lo 0, k_fd M 0)
def sp_widest (M : fp_M) (c : Nat) : Int32 × fp_M := if k_cc M c 34 0 = 0 then (k_lo 3, k_fd (k_cc M c) 3) else ((k_wp (k_wid (k_cc M c))).1, k_cc M c)
def sp_unknown (M : fp_M) (c : Nat) : Int32 × fp_M := if k_cc M c 34 0 = 0 then (k_lo 3, k_fd (k_cc M c) 3) else (k_allw (k_wid (k_cc M c)), k_cc M c)
def sp_can (M : fp_M) (c : Nat) (a b v : Int32) : Int32 × fp_M := if k_pair a b ∧ (-999 ≤ v ∧ v ≤ 999) then ((if ¬ k_cc M c 34 0 = 0 ∧ (v ≤ k_T (k_cc M c) (k_v a) (k_v b) ∧ -(k_T (k_cc M c) (k_v b) (k_v a)) ≤ v) then 1 else 0), k_cc M c) else (k_lo 0, k_fd M 0)
def sp_ahead (M : fp_M) (c : Nat) (n : Int32) : Int32 × fp_M := if 0 ≤ n ∧ n ≤ 500 then (nI (k_con M 1 c (M 1 4 + n)), M) else (k_lo 0, k_fd M 0)
abbrev v_set (M : fp_M) (a : Int32) : Prop := 0 ≤ a ∧ a < 1 <<< (M 1 1 &&& 31)
def sp_agree (M : fp_M) (c : Nat) (a : Int32) : Int32 × fp_M := if v_set M a then (if k_ch M c a 34 0 = 0 then 0 else 1, k_ch M c a) else (k_lo 0, k_fd M 0)
theorem ok_X5_letter {X : fp_X} {M : fp_M} {c : Nat} {k f t d m : Int32} (hw : k_wf M 1 c): fp_Ev X mX5_letter [.ref 0, .int k, .int f, .int t, .int d, .int m] fp_sh M (some (.int (sp_letter M c k f t d m).1)) (sp_letter M c k f t d m).2 := by
  refine fp_ok [some (.ref 0), some (.int k), some (.int f), some (.int t), some (.int d), some (.int m)] ?_
  refine r_iloadn dX5_letter_0 rfl ?_
  refine c_S1 (μz := mX5_isKind) dX5_letter_1 kl_RX5_58 ms_X5_isKind ok_X5_isKind ?_
  refine r_if_eq 35 dX5_letter_4 (fun h4 => ?_) (fun h4 => ?_)
  · refine r_aloadn dX5_letter_35 rfl (by decide) ?_
    refine r_ic (0) dX5_letter_36 ?_
    refine c_V1 (μz := mX5_finding) dX5_letter_37 kl_RX5_73 mv_X5_finding rfl (ok_X5_finding (w := 0) rfl (by decide)) ?_
    exact r_iret dX5_letter_40 ⟨by unfold sp_letter; rw [if_neg (fun q => bi_0.mp h4 q.1)], rfl, by unfold sp_letter; rw [if_neg (fun q => bi_0.mp h4 q.1)]⟩
  · refine r_iloadn dX5_letter_7 rfl ?_
    refine r_iloadn dX5_letter_8 rfl ?_
    refine c_S2 (μz := mX5_arePair) dX5_letter_9 kl_RX5_62 ms_X5_arePair ok_X5_arePair ?_
    refine r_if_eq 35 dX5_letter_12 (fun h12 => ?_) (fun h12 => ?_)
    · refine r_aloadn dX5_letter_35 rfl (by decide) ?_
      refine r_ic (0) dX5_letter_36 ?_
      refine c_V1 (μz := mX5_finding) dX5_letter_37 kl_RX5_73 mv_X5_finding rfl (ok_X5_finding (w := 0) rfl (by decide)) ?_
      exact r_iret dX5_letter_40 ⟨by unfold sp_letter; rw [if_neg (fun q => bi_0.mp h12 q.2.1)], rfl, by unfold sp_letter; rw [if_neg (fun q => bi_0.mp h12 q.2.1)]⟩
    · refine r_iload dX5_letter_15 rfl ?_
      refine c_S1 (μz := mX5_areDays) dX5_letter_17 kl_RX5_66 ms_X5_areDays ok_X5_areDays ?_
      refine r_if_eq 35 dX5_letter_20 (fun h20 => ?_) (fun h20 => ?_)
      · refine r_aloadn dX5_letter_35 rfl (by decide) ?_
        refine r_ic (0) dX5_letter_36 ?_
        refine c_V1 (μz := mX5_finding) dX5_letter_37 kl_RX5_73 mv_X5_finding rfl (ok_X5_finding (w := 0) rfl (by decide)) ?_
        exact r_iret dX5_letter_40 ⟨by unfold sp_letter; rw [if_neg (fun q => bi_0.mp h20 q.2.2.1)], rfl, by unfold sp_letter; rw [if_neg (fun q => bi_0.mp h20 q.2.2.1)]⟩
      · refine r_iload dX5_letter_23 rfl ?_
        refine r_ic (0) dX5_letter_25 ?_
        refine r_sp (999) dX5_letter_26 ?_
        refine c_S3 (μz := mX5_within) dX5_letter_29 kl_RX5_69 ms_X5_within ok_X5_within ?_
        refine r_if_ne 41 dX5_letter_32 (fun h32 => ?_) (fun h32 => ?_)
        · refine r_aloadn dX5_letter_41 rfl (by decide) ?_
          refine r_getfr dX5_letter_42 kf_RX5_10 rfl rfl ?_
          refine r_getfi dX5_letter_45 kf_RX5_77 rfl rfl ?_
          refine r_bp (8) dX5_letter_48 ?_
          refine r_icmp_lt 59 dX5_letter_50 (fun h50 => ?_) (fun h50 => ?_)
          · have hc8 : c < 8 := by
              have h := h50
              rw [hw.2.1] at h
              exact (nI_ltI (b := 8) (Nat.lt_of_le_of_lt hw.1 (by decide)) (by decide)).mp h
            refine r_aloadn dX5_letter_59 rfl (by decide) ?_
            refine r_getfr dX5_letter_60 kf_RX5_10 rfl rfl ?_
            refine r_iloadn dX5_letter_63 rfl ?_
            refine r_iloadn dX5_letter_64 rfl ?_
            refine r_iloadn dX5_letter_65 rfl ?_
            refine r_iload dX5_letter_66 rfl ?_
            refine r_iload dX5_letter_68 rfl ?_
            refine c_V5 (μz := mX2_receive) dX5_letter_70 kl_RX5_81 mv_X2_receive rfl (ok_X2_receive fp_of_1 hw.2.1 hc8) ?_
            exact r_iret dX5_letter_73 ⟨by unfold sp_letter; rw [if_pos ⟨bi_1.mp h4, bi_1.mp h12, bi_1.mp h20, bi_1.mp h32⟩, if_pos h50], rfl, by unfold sp_letter; rw [if_pos ⟨bi_1.mp h4, bi_1.mp h12, bi_1.mp h20, bi_1.mp h32⟩, if_pos h50]⟩
          · refine r_aloadn dX5_letter_53 rfl (by decide) ?_
            refine r_ic (1) dX5_letter_54 ?_
            refine c_V1 (μz := mX5_finding) dX5_letter_55 kl_RX5_73 mv_X5_finding rfl (ok_X5_finding (w := 1) rfl (by decide)) ?_
            exact r_iret dX5_letter_58 ⟨by unfold sp_letter; rw [if_pos ⟨bi_1.mp h4, bi_1.mp h12, bi_1.mp h20, bi_1.mp h32⟩, if_neg h50], rfl, by unfold sp_letter; rw [if_pos ⟨bi_1.mp h4, bi_1.mp h12, bi_1.mp h20, bi_1.mp h32⟩, if_neg h50]⟩
        · refine r_aloadn dX5_letter_35 rfl (by decide) ?_
          refine r_ic (0) dX5_letter_36 ?_
          refine c_V1 (μz := mX5_finding) dX5_letter_37 kl_RX5_73 mv_X5_finding rfl (ok_X5_finding (w := 0) rfl (by decide)) ?_
          exact r_iret dX5_letter_40 ⟨by unfold sp_letter; rw [if_neg (fun q => bi_0.mp h32 q.2.2.2)], rfl, by unfold sp_letter; rw [if_neg (fun q => bi_0.mp h32 q.2.2.2)]⟩
theorem ok_X5_of {X : fp_X} {M : fp_M} {c : Nat} {l w : Int32} (hw : k_wf M 1 c): fp_Ev X mX5_of [.ref 0, .int l, .int w] fp_sh M (some (.int (sp_of M l w).1)) (sp_of M l w).2 := by
  refine fp_ok [some (.ref 0), some (.int l), some (.int w), none] ?_
  refine r_aloadn dX5_of_0 rfl (by decide) ?_
  refine r_getfr dX5_of_1 kf_RX5_10 rfl rfl ?_
  refine r_iloadn dX5_of_4 rfl ?_
  refine c_V1 (μz := mX2_has) dX5_of_5 kl_RX5_85 mv_X2_has rfl (ok_X2_has fp_of_1) ?_
  refine r_if_eq 21 dX5_of_8 (fun h8 => ?_) (fun h8 => ?_)
  · refine r_aloadn dX5_of_21 rfl (by decide) ?_
    refine r_ic (0) dX5_of_22 ?_
    refine c_V1 (μz := mX5_finding) dX5_of_23 kl_RX5_73 mv_X5_finding rfl (ok_X5_finding (w := 0) rfl (by decide)) ?_
    exact r_iret dX5_of_26 ⟨by unfold sp_of; rw [if_neg (fun q => bi_0.mp h8 q.1)], rfl, by unfold sp_of; rw [if_neg (fun q => bi_0.mp h8 q.1)]⟩
  · refine r_iloadn dX5_of_11 rfl ?_
    refine r_ic (0) dX5_of_12 ?_
    refine r_bp (9) dX5_of_13 ?_
    refine c_S3 (μz := mX5_within) dX5_of_15 kl_RX5_69 ms_X5_within ok_X5_within ?_
    refine r_if_ne 27 dX5_of_18 (fun h18 => ?_) (fun h18 => ?_)
    · obtain ⟨n, hn, rfl⟩ := k_idx hw (bi_1.mp h8)
      have hc8 := hw.1
      have en : k_v (nI n) = n := nI_clamp (by omega)
      refine r_aloadn dX5_of_27 rfl (by decide) ?_
      refine r_getfr dX5_of_28 kf_RX5_10 rfl rfl ?_
      refine r_getfr dX5_of_31 kf_RX5_88 rfl rfl ?_
      refine r_iloadn dX5_of_34 rfl ?_
      refine r_aaldL (j := n) dX5_of_35 (sh_r fp_of_1) rfl (sh_rr (by omega)) (by omega) (Nat.le_of_ble_eq_true rfl) ?_
      refine r_astore3 dX5_of_36 (Or.inl ⟨by omega, by omega⟩) ?_
      refine r_iloadn dX5_of_37 rfl ?_
      refine r_tsw [(6, 68), (7, 80), (8, 92), (9, 104)] 128 dX5_of_38 (And.intro (fun h38 => ?_) (And.intro (fun h38 => ?_) (And.intro (fun h38 => ?_) (And.intro (fun h38 => ?_) (trivial))))) (fun h38 => ?_)
      · refine r_aloadn dX5_of_68 rfl (Or.inl ⟨by omega, by omega⟩) ?_
        refine r_aloadn dX5_of_69 rfl (by decide) ?_
        refine r_getfr dX5_of_70 kf_RX5_10 rfl rfl ?_
        refine r_getfi dX5_of_73 kf_RX5_92 rfl rfl ?_
        refine c_V1 (μz := mX1_least) dX5_of_76 kl_RX5_95 mv_X1_least (sh_l fp_of_1 (by omega)) (ok_X1_least (sh_l fp_of_1 (by omega))) ?_
        exact r_iret dX5_of_79 ⟨by unfold sp_of; rw [if_pos ⟨bi_1.mp h8, bi_1.mp h18⟩, en, if_pos h38], rfl, by unfold sp_of; rw [if_pos ⟨bi_1.mp h8, bi_1.mp h18⟩, en, if_pos h38]⟩
      · refine r_aloadn dX5_of_80 rfl (Or.inl ⟨by omega, by omega⟩) ?_
        refine r_aloadn dX5_of_81 rfl (by decide) ?_
        refine r_getfr dX5_of_82 kf_RX5_10 rfl rfl ?_
        refine r_getfi dX5_of_85 kf_RX5_92 rfl rfl ?_
        refine c_V1 (μz := mX1_most) dX5_of_88 kl_RX5_98 mv_X1_most (sh_l fp_of_1 (by omega)) (ok_X1_most (sh_l fp_of_1 (by omega))) ?_
        exact r_iret dX5_of_91 ⟨by unfold sp_of; rw [if_pos ⟨bi_1.mp h8, bi_1.mp h18⟩, en, if_neg (by rw [h38]; decide), if_pos h38], rfl, by unfold sp_of; rw [if_pos ⟨bi_1.mp h8, bi_1.mp h18⟩, en, if_neg (by rw [h38]; decide), if_pos h38]⟩
      · refine r_aloadn dX5_of_92 rfl (Or.inl ⟨by omega, by omega⟩) ?_
        refine r_aloadn dX5_of_93 rfl (by decide) ?_
        refine r_getfr dX5_of_94 kf_RX5_10 rfl rfl ?_
        refine r_getfi dX5_of_97 kf_RX5_101 rfl rfl ?_
        refine c_V1 (μz := mX1_comes) dX5_of_100 kl_RX5_104 mv_X1_comes (sh_l fp_of_1 (by omega)) (ok_X1_comes (sh_l fp_of_1 (by omega))) ?_
        exact r_iret dX5_of_103 ⟨by unfold sp_of; rw [if_pos ⟨bi_1.mp h8, bi_1.mp h18⟩, en, if_neg (by rw [h38]; decide), if_neg (by rw [h38]; decide), if_pos h38], rfl, by unfold sp_of; rw [if_pos ⟨bi_1.mp h8, bi_1.mp h18⟩, en, if_neg (by rw [h38]; decide), if_neg (by rw [h38]; decide), if_pos h38]⟩
      · refine r_aloadn dX5_of_104 rfl (by decide) ?_
        refine r_getfr dX5_of_105 kf_RX5_10 rfl rfl ?_
        refine r_aloadn dX5_of_108 rfl (Or.inl ⟨by omega, by omega⟩) ?_
        refine r_aloadn dX5_of_109 rfl (by decide) ?_
        refine r_getfr dX5_of_110 kf_RX5_10 rfl rfl ?_
        refine r_getfi dX5_of_113 kf_RX5_107 rfl rfl ?_
        refine c_V2 (μz := mX2_counts) dX5_of_116 kl_RX5_110 mv_X2_counts rfl (ok_X2_counts fp_of_1 (sh_l fp_of_1 (by omega))) ?_
        refine r_if_eq 126 dX5_of_119 (fun h119 => ?_) (fun h119 => ?_)
        · refine r_ic (0) dX5_of_126 ?_
          exact r_iret dX5_of_127 ⟨by unfold sp_of; rw [if_pos ⟨bi_1.mp h8, bi_1.mp h18⟩, en, if_neg (by rw [h38]; decide), if_neg (by rw [h38]; decide), if_neg (by rw [h38]; decide), if_pos h38, bi_f (bi_0.mp h119)], rfl, by unfold sp_of; rw [if_pos ⟨bi_1.mp h8, bi_1.mp h18⟩, en, if_neg (by rw [h38]; decide), if_neg (by rw [h38]; decide), if_neg (by rw [h38]; decide), if_pos h38, bi_f (bi_0.mp h119)]⟩
        · refine r_ic (1) dX5_of_122 ?_
          refine r_goto 127 dX5_of_123 ?_
          exact r_iret dX5_of_127 ⟨by unfold sp_of; rw [if_pos ⟨bi_1.mp h8, bi_1.mp h18⟩, en, if_neg (by rw [h38]; decide), if_neg (by rw [h38]; decide), if_neg (by rw [h38]; decide), if_pos h38, bi_t (bi_1.mp h119)], rfl, by unfold sp_of; rw [if_pos ⟨bi_1.mp h8, bi_1.mp h18⟩, en, if_neg (by rw [h38]; decide), if_neg (by rw [h38]; decide), if_neg (by rw [h38]; decide), if_pos h38, bi_t (bi_1.mp h119)]⟩
      · refine r_aloadn dX5_of_128 rfl (Or.inl ⟨by omega, by omega⟩) ?_
        refine r_iloadn dX5_of_129 rfl ?_
        refine c_V1 (μz := mX1_part) dX5_of_130 kl_RX5_114 mv_X1_part (sh_l fp_of_1 (by omega)) (ok_X1_part (sh_l fp_of_1 (by omega))) ?_
        exact r_iret dX5_of_133 ⟨by unfold sp_of; rw [if_pos ⟨bi_1.mp h8, bi_1.mp h18⟩, en, if_neg h38.1, if_neg h38.2.1, if_neg h38.2.2.1, if_neg h38.2.2.2.1], rfl, by unfold sp_of; rw [if_pos ⟨bi_1.mp h8, bi_1.mp h18⟩, en, if_neg h38.1, if_neg h38.2.1, if_neg h38.2.2.1, if_neg h38.2.2.2.1]⟩
    · refine r_aloadn dX5_of_21 rfl (by decide) ?_
      refine r_ic (0) dX5_of_22 ?_
      refine c_V1 (μz := mX5_finding) dX5_of_23 kl_RX5_73 mv_X5_finding rfl (ok_X5_finding (w := 0) rfl (by decide)) ?_
      exact r_iret dX5_of_26 ⟨by unfold sp_of; rw [if_neg (fun q => bi_0.mp h18 q.2)], rfl, by unfold sp_of; rw [if_neg (fun q => bi_0.mp h18 q.2)]⟩
theorem ok_X5_change {X : fp_X} {M : fp_M} {c : Nat} {l w v : Int32} (hw : k_wf M 1 c): fp_Ev X mX5_change [.ref 0, .int l, .int w, .int v] fp_sh M (some (.int (sp_change M l w v).1)) (sp_change M l w v).2 := by
  refine fp_ok [some (.ref 0), some (.int l), some (.int w), some (.int v), none] ?_
  refine r_aloadn dX5_change_0 rfl (by decide) ?_
  refine r_getfr dX5_change_1 kf_RX5_10 rfl rfl ?_
  refine r_iloadn dX5_change_4 rfl ?_
  refine c_V1 (μz := mX2_has) dX5_change_5 kl_RX5_85 mv_X2_has rfl (ok_X2_has fp_of_1) ?_
  refine r_if_eq 28 dX5_change_8 (fun h8 => ?_) (fun h8 => ?_)
  · refine r_aloadn dX5_change_28 rfl (by decide) ?_
    refine r_ic (0) dX5_change_29 ?_
    refine c_V1 (μz := mX5_finding) dX5_change_30 kl_RX5_73 mv_X5_finding rfl (ok_X5_finding (w := 0) rfl (by decide)) ?_
    exact r_iret dX5_change_33 ⟨by unfold sp_change; rw [if_neg (fun q => bi_0.mp h8 q.1)], rfl, by unfold sp_change; rw [if_neg (fun q => bi_0.mp h8 q.1)]⟩
  · obtain ⟨n, hn, rfl⟩ := k_idx hw (bi_1.mp h8)
    have hc8 := hw.1
    have en : k_v (nI n) = n := nI_clamp (by omega)
    refine r_aloadn dX5_change_11 rfl (by decide) ?_
    refine r_getfr dX5_change_12 kf_RX5_10 rfl rfl ?_
    refine r_getfr dX5_change_15 kf_RX5_88 rfl rfl ?_
    refine r_iloadn dX5_change_18 rfl ?_
    refine r_aaldL (j := n) dX5_change_19 (sh_r fp_of_1) rfl (sh_rr (by omega)) (by omega) (Nat.le_of_ble_eq_true rfl) ?_
    refine r_iloadn dX5_change_20 rfl ?_
    refine r_iloadn dX5_change_21 rfl ?_
    refine c_S3 (μz := mX5_isPart) dX5_change_22 kl_RX5_117 ms_X5_isPart (ok_X5_isPart (sh_l fp_of_1 (by omega))) ?_
    refine r_if_ne 34 dX5_change_25 (fun h25 => ?_) (fun h25 => ?_)
    · refine r_aloadn dX5_change_34 rfl (by decide) ?_
      refine r_getfr dX5_change_35 kf_RX5_10 rfl rfl ?_
      refine r_getfr dX5_change_38 kf_RX5_88 rfl rfl ?_
      refine r_iloadn dX5_change_41 rfl ?_
      refine r_aaldL (j := n) dX5_change_42 (sh_r fp_of_1) rfl (sh_rr (by omega)) (by omega) (Nat.le_of_ble_eq_true rfl) ?_
      refine r_iloadn dX5_change_43 rfl ?_
      refine c_V1 (μz := mX1_part) dX5_change_44 kl_RX5_114 mv_X1_part (sh_l fp_of_1 (by omega)) (ok_X1_part (sh_l fp_of_1 (by omega))) ?_
      refine r_istore4 dX5_change_47 ?_
      refine r_aloadn dX5_change_49 rfl (by decide) ?_
      refine r_getfr dX5_change_50 kf_RX5_10 rfl rfl ?_
      refine r_getfr dX5_change_53 kf_RX5_88 rfl rfl ?_
      refine r_iloadn dX5_change_56 rfl ?_
      refine r_aaldL (j := n) dX5_change_57 (sh_r fp_of_1) rfl (sh_rr (by omega)) (by omega) (Nat.le_of_ble_eq_true rfl) ?_
      refine r_iloadn dX5_change_58 rfl ?_
      refine r_iloadn dX5_change_59 rfl ?_
      refine c_V2v (μz := mX1_setPart) dX5_change_60 kl_RX5_121 mv_X1_setPart (sh_l fp_of_1 (by omega)) (ok_X1_setPart (sh_l fp_of_1 (by omega))) ?_
      refine r_iload dX5_change_63 rfl ?_
      exact r_iret dX5_change_65 ⟨by unfold sp_change; rw [en, if_pos ⟨bi_1.mp h8, bi_1.mp h25⟩], rfl, by unfold sp_change; rw [en, if_pos ⟨bi_1.mp h8, bi_1.mp h25⟩]⟩
    · refine r_aloadn dX5_change_28 rfl (by decide) ?_
      refine r_ic (0) dX5_change_29 ?_
      refine c_V1 (μz := mX5_finding) dX5_change_30 kl_RX5_73 mv_X5_finding rfl (ok_X5_finding (w := 0) rfl (by decide)) ?_
      exact r_iret dX5_change_33 ⟨by unfold sp_change; rw [en, if_neg (fun q => bi_0.mp h25 q.2)], rfl, by unfold sp_change; rw [en, if_neg (fun q => bi_0.mp h25 q.2)]⟩
theorem ok_X5_law {X : fp_X} {M : fp_M} {w v : Int32} : fp_Ev X mX5_law [.ref 0, .int w, .int v] fp_sh M (some (.int (sp_law M w v).1)) (sp_law M w v).2 := by
  refine fp_ok [some (.ref 0), some (.int w), some (.int v), none] ?_
  refine r_iloadn dX5_law_0 rfl ?_
  refine r_ic (0) dX5_law_1 ?_
  refine r_ic (1) dX5_law_2 ?_
  refine c_S3 (μz := mX5_within) dX5_law_3 kl_RX5_69 ms_X5_within ok_X5_within ?_
  refine r_if_eq 19 dX5_law_6 (fun h6 => ?_) (fun h6 => ?_)
  · refine r_aloadn dX5_law_19 rfl (by decide) ?_
    refine r_ic (0) dX5_law_20 ?_
    refine c_V1 (μz := mX5_finding) dX5_law_21 kl_RX5_73 mv_X5_finding rfl (ok_X5_finding (w := 0) rfl (by decide)) ?_
    exact r_iret dX5_law_24 ⟨by unfold sp_law; rw [if_neg (fun q => bi_0.mp h6 q.1)], rfl, by unfold sp_law; rw [if_neg (fun q => bi_0.mp h6 q.1)]⟩
  · refine r_iloadn dX5_law_9 rfl ?_
    refine r_ic (0) dX5_law_10 ?_
    refine r_bp (9) dX5_law_11 ?_
    refine c_S3 (μz := mX5_within) dX5_law_13 kl_RX5_69 ms_X5_within ok_X5_within ?_
    refine r_if_ne 25 dX5_law_16 (fun h16 => ?_) (fun h16 => ?_)
    · refine r_iloadn dX5_law_25 rfl ?_
      refine r_if_ne 48 dX5_law_26 (fun h26 => ?_) (fun h26 => ?_)
      · refine r_aloadn dX5_law_48 rfl (by decide) ?_
        refine r_getfr dX5_law_49 kf_RX5_10 rfl rfl ?_
        refine r_getfi dX5_law_52 kf_RX5_101 rfl rfl ?_
        refine r_istore3 dX5_law_55 ?_
        refine r_aloadn dX5_law_56 rfl (by decide) ?_
        refine r_getfr dX5_law_57 kf_RX5_10 rfl rfl ?_
        refine r_iloadn dX5_law_60 rfl ?_
        refine r_putfi dX5_law_61 kf_RX5_101 rfl rfl ?_
        refine r_iloadn dX5_law_64 rfl ?_
        exact r_iret dX5_law_65 ⟨by unfold sp_law; rw [if_pos ⟨bi_1.mp h6, bi_1.mp h16⟩, if_neg h26], rfl, by unfold sp_law; rw [if_pos ⟨bi_1.mp h6, bi_1.mp h16⟩, if_neg h26]⟩
      · refine r_aloadn dX5_law_29 rfl (by decide) ?_
        refine r_getfr dX5_law_30 kf_RX5_10 rfl rfl ?_
        refine r_getfi dX5_law_33 kf_RX5_92 rfl rfl ?_
        refine r_istore3 dX5_law_36 ?_
        refine r_aloadn dX5_law_37 rfl (by decide) ?_
        refine r_getfr dX5_law_38 kf_RX5_10 rfl rfl ?_
        refine r_iloadn dX5_law_41 rfl ?_
        refine r_putfi dX5_law_42 kf_RX5_92 rfl rfl ?_
        refine r_goto 64 dX5_law_45 ?_
        refine r_iloadn dX5_law_64 rfl ?_
        exact r_iret dX5_law_65 ⟨by unfold sp_law; rw [if_pos ⟨bi_1.mp h6, bi_1.mp h16⟩, if_pos h26], rfl, by unfold sp_law; rw [if_pos ⟨bi_1.mp h6, bi_1.mp h16⟩, if_pos h26]⟩
    · refine r_aloadn dX5_law_19 rfl (by decide) ?_
      refine r_ic (0) dX5_law_20 ?_
      refine c_V1 (μz := mX5_finding) dX5_law_21 kl_RX5_73 mv_X5_finding rfl (ok_X5_finding (w := 0) rfl (by decide)) ?_
      exact r_iret dX5_law_24 ⟨by unfold sp_law; rw [if_neg (fun q => bi_0.mp h16 q.2)], rfl, by unfold sp_law; rw [if_neg (fun q => bi_0.mp h16 q.2)]⟩
theorem k_wf_day {M : fp_M} {c : Nat} {v : Int32} {j : Nat} (hj : ¬ j = 1) (hw : k_wf M 1 c) : k_wf (fp_wr M 1 j v) 1 c := by
  refine ⟨hw.1, ?_, fun i hi => ?_⟩
  · show (if 1 = 1 ∧ 1 = j then v else M 1 1) = nI c
    rw [if_neg (by omega)]
    exact hw.2.1
  · obtain ⟨f, t, h1, h2, h3, h4, h5⟩ := hw.2.2 i hi
    exact ⟨f, t, h1, h2, by rw [fp_wr_ne (by omega)]; exact h3, by rw [fp_wr_ne (by omega)]; exact h4, by rw [fp_wr_ne (by omega)]; exact h5⟩
theorem ok_X5_go {X : fp_X} {M : fp_M} {c : Nat} {n : Int32} (hw : k_wf M 1 c): fp_Ev X mX5_go [.ref 0, .int n] fp_sh M (some (.int (sp_go M c n).1)) (sp_go M c n).2 := by
  refine fp_ok [some (.ref 0), some (.int n)] ?_
  refine r_iloadn dX5_go_0 rfl ?_
  refine r_ic (1) dX5_go_1 ?_
  refine r_sp (200) dX5_go_2 ?_
  refine c_S3 (μz := mX5_within) dX5_go_5 kl_RX5_69 ms_X5_within ok_X5_within ?_
  refine r_if_ne 17 dX5_go_8 (fun h8 => ?_) (fun h8 => ?_)
  · refine r_aloadn dX5_go_17 rfl (by decide) ?_
    refine r_getfr dX5_go_18 kf_RX5_10 rfl rfl ?_
    refine r_getfi dX5_go_21 kf_RX5_107 rfl rfl ?_
    refine r_iloadn dX5_go_24 rfl ?_
    refine r_iadd dX5_go_25 ?_
    refine r_ldc dX5_go_26 kc_RX5_125 ?_
    refine r_icmp_le 37 dX5_go_28 (fun h28 => ?_) (fun h28 => ?_)
    · refine r_aloadn dX5_go_37 rfl (by decide) ?_
      refine r_getfr dX5_go_38 kf_RX5_10 rfl rfl ?_
      refine r_dup dX5_go_41 ?_
      refine r_getfi dX5_go_42 kf_RX5_107 rfl rfl ?_
      refine r_iloadn dX5_go_45 rfl ?_
      refine r_iadd dX5_go_46 ?_
      refine r_putfi dX5_go_47 kf_RX5_107 rfl rfl ?_
      refine r_aloadn dX5_go_50 rfl (by decide) ?_
      refine c_V0 (μz := mX5_counting) dX5_go_51 kl_RX5_126 mv_X5_counting rfl (ok_X5_counting (k_wf_day (by decide) hw)) ?_
      exact r_iret dX5_go_54 ⟨by unfold sp_go; rw [if_pos (bi_1.mp h8), if_pos h28], rfl, by unfold sp_go; rw [if_pos (bi_1.mp h8), if_pos h28]⟩
    · refine r_aloadn dX5_go_31 rfl (by decide) ?_
      refine r_ic (4) dX5_go_32 ?_
      refine c_V1 (μz := mX5_finding) dX5_go_33 kl_RX5_73 mv_X5_finding rfl (ok_X5_finding (w := 4) rfl (by decide)) ?_
      exact r_iret dX5_go_36 ⟨by unfold sp_go; rw [if_pos (bi_1.mp h8), if_neg h28], rfl, by unfold sp_go; rw [if_pos (bi_1.mp h8), if_neg h28]⟩
  · refine r_aloadn dX5_go_11 rfl (by decide) ?_
    refine r_ic (0) dX5_go_12 ?_
    refine c_V1 (μz := mX5_finding) dX5_go_13 kl_RX5_73 mv_X5_finding rfl (ok_X5_finding (w := 0) rfl (by decide)) ?_
    exact r_iret dX5_go_16 ⟨by unfold sp_go; rw [if_neg (bi_0.mp h8)], rfl, by unfold sp_go; rw [if_neg (bi_0.mp h8)]⟩
theorem ok_X5_now {X : fp_X} {M : fp_M} {c : Nat} {w : Int32} (hw : k_wf M 1 c): fp_Ev X mX5_now [.ref 0, .int w] fp_sh M (some (.int (sp_now M c w).1)) (sp_now M c w).2 := by
  refine fp_ok [some (.ref 0), some (.int w)] ?_
  refine r_iloadn dX5_now_0 rfl ?_
  refine r_tsw [(0, 40), (1, 48), (2, 53), (3, 61), (4, 69), (5, 77)] 85 dX5_now_1 (And.intro (fun h1 => ?_) (And.intro (fun h1 => ?_) (And.intro (fun h1 => ?_) (And.intro (fun h1 => ?_) (And.intro (fun h1 => ?_) (And.intro (fun h1 => ?_) (trivial))))))) (fun h1 => ?_)
  · refine r_aloadn dX5_now_40 rfl (by decide) ?_
    refine r_getfr dX5_now_41 kf_RX5_10 rfl rfl ?_
    refine r_getfi dX5_now_44 kf_RX5_107 rfl rfl ?_
    exact r_iret dX5_now_47 ⟨by unfold sp_now; rw [if_pos h1], rfl, by unfold sp_now; rw [if_pos h1]⟩
  · refine r_aloadn dX5_now_48 rfl (by decide) ?_
    refine c_V0 (μz := mX5_counting) dX5_now_49 kl_RX5_126 mv_X5_counting rfl (ok_X5_counting hw) ?_
    exact r_iret dX5_now_52 ⟨by unfold sp_now; rw [if_neg (by rw [h1]; decide), if_pos h1], rfl, by unfold sp_now; rw [if_neg (by rw [h1]; decide), if_pos h1]⟩
  · refine r_aloadn dX5_now_53 rfl (by decide) ?_
    refine r_getfr dX5_now_54 kf_RX5_10 rfl rfl ?_
    refine c_V0 (μz := mX2_toCome) dX5_now_57 kl_RX5_130 mv_X2_toCome rfl (ok_X2_toCome fp_of_1 hw.2.1 hw.1) ?_
    exact r_iret dX5_now_60 ⟨by unfold sp_now; rw [if_neg (by rw [h1]; decide), if_neg (by rw [h1]; decide), if_pos h1], rfl, by unfold sp_now; rw [if_neg (by rw [h1]; decide), if_neg (by rw [h1]; decide), if_pos h1]⟩
  · refine r_aloadn dX5_now_61 rfl (by decide) ?_
    refine r_getfr dX5_now_62 kf_RX5_10 rfl rfl ?_
    refine c_V0 (μz := mX2_struckOnes) dX5_now_65 kl_RX5_133 mv_X2_struckOnes rfl (ok_X2_struckOnes fp_of_1 hw.2.1 hw.1 (fun i hi => (hw.2.2 i hi).choose_spec.choose_spec.2.2.2.2)) ?_
    exact r_iret dX5_now_68 ⟨by unfold sp_now; rw [if_neg (by rw [h1]; decide), if_neg (by rw [h1]; decide), if_neg (by rw [h1]; decide), if_pos h1], rfl, by unfold sp_now; rw [if_neg (by rw [h1]; decide), if_neg (by rw [h1]; decide), if_neg (by rw [h1]; decide), if_pos h1]⟩
  · refine r_aloadn dX5_now_69 rfl (by decide) ?_
    refine r_getfr dX5_now_70 kf_RX5_10 rfl rfl ?_
    refine r_getfi dX5_now_73 kf_RX5_92 rfl rfl ?_
    exact r_iret dX5_now_76 ⟨by unfold sp_now; rw [if_neg (by rw [h1]; decide), if_neg (by rw [h1]; decide), if_neg (by rw [h1]; decide), if_neg (by rw [h1]; decide), if_pos h1], rfl, by unfold sp_now; rw [if_neg (by rw [h1]; decide), if_neg (by rw [h1]; decide), if_neg (by rw [h1]; decide), if_neg (by rw [h1]; decide), if_pos h1]⟩
  · refine r_aloadn dX5_now_77 rfl (by decide) ?_
    refine r_getfr dX5_now_78 kf_RX5_10 rfl rfl ?_
    refine r_getfi dX5_now_81 kf_RX5_101 rfl rfl ?_
    exact r_iret dX5_now_84 ⟨by unfold sp_now; rw [if_neg (by rw [h1]; decide), if_neg (by rw [h1]; decide), if_neg (by rw [h1]; decide), if_neg (by rw [h1]; decide), if_neg (by rw [h1]; decide), if_pos h1], rfl, by unfold sp_now; rw [if_neg (by rw [h1]; decide), if_neg (by rw [h1]; decide), if_neg (by rw [h1]; decide), if_neg (by rw [h1]; decide), if_neg (by rw [h1]; decide), if_pos h1]⟩
  · refine r_aloadn dX5_now_85 rfl (by decide) ?_
    refine r_ic (0) dX5_now_86 ?_
    refine c_V1 (μz := mX5_finding) dX5_now_87 kl_RX5_73 mv_X5_finding rfl (ok_X5_finding (w := 0) rfl (by decide)) ?_
    exact r_iret dX5_now_90 ⟨by unfold sp_now; rw [if_neg h1.1, if_neg h1.2.1, if_neg h1.2.2.1, if_neg h1.2.2.2.1, if_neg h1.2.2.2.2.1, if_neg h1.2.2.2.2.2.1], rfl, by unfold sp_now; rw [if_neg h1.1, if_neg h1.2.1, if_neg h1.2.2.1, if_neg h1.2.2.2.1, if_neg h1.2.2.2.2.1, if_neg h1.2.2.2.2.2.1]⟩
theorem ok_X5_fits {X : fp_X} {M : fp_M} {c : Nat} (hw : k_wf M 1 c): fp_Ev X mX5_fits [.ref 0] fp_sh M (some (.int (sp_fits M c).1)) (sp_fits M c).2 := by
  refine fp_ok [some (.ref 0)] ?_
  refine r_aloadn dX5_fits_0 rfl (by decide) ?_
  refine r_aloadn dX5_fits_1 rfl (by decide) ?_
  refine c_V0 (μz := mX5_counting) dX5_fits_2 kl_RX5_126 mv_X5_counting rfl (ok_X5_counting hw) ?_
  refine c_V1 (μz := mX5_canHold) dX5_fits_5 kl_RX5_136 mv_X5_canHold rfl (ok_X5_canHold hw) ?_
  refine r_if_eq 15 dX5_fits_8 (fun h8 => ?_) (fun h8 => ?_)
  · refine r_ic (0) dX5_fits_15 ?_
    exact r_iret dX5_fits_16 ⟨by show _ = some (Value.int (if _ then _ else _)); rw [if_pos h8], rfl, rfl⟩
  · refine r_ic (1) dX5_fits_11 ?_
    refine r_goto 16 dX5_fits_12 ?_
    exact r_iret dX5_fits_16 ⟨by show _ = some (Value.int (if _ then _ else _)); rw [if_neg h8], rfl, rfl⟩
theorem ok_X5_span {X : fp_X} {M : fp_M} {c : Nat} {a b w : Int32} (hw : k_wf M 1 c): fp_Ev X mX5_span [.ref 0, .int a, .int b, .int w] fp_sh M (some (.int (sp_span M c a b w).1)) (sp_span M c a b w).2 := by
  refine fp_ok [some (.ref 0), some (.int a), some (.int b), some (.int w)] ?_
  refine r_iloadn dX5_span_0 rfl ?_
  refine r_iloadn dX5_span_1 rfl ?_
  refine c_S2 (μz := mX5_arePair) dX5_span_2 kl_RX5_62 ms_X5_arePair ok_X5_arePair ?_
  refine r_if_eq 17 dX5_span_5 (fun h5 => ?_) (fun h5 => ?_)
  · refine r_aloadn dX5_span_17 rfl (by decide) ?_
    refine r_ic (0) dX5_span_18 ?_
    refine c_V1 (μz := mX5_finding) dX5_span_19 kl_RX5_73 mv_X5_finding rfl (ok_X5_finding (w := 0) rfl (by decide)) ?_
    exact r_iret dX5_span_22 ⟨by unfold sp_span; rw [if_neg (fun q => bi_0.mp h5 q.1)], rfl, by unfold sp_span; rw [if_neg (fun q => bi_0.mp h5 q.1)]⟩
  · refine r_iloadn dX5_span_8 rfl ?_
    refine r_ic (0) dX5_span_9 ?_
    refine r_ic (2) dX5_span_10 ?_
    refine c_S3 (μz := mX5_within) dX5_span_11 kl_RX5_69 ms_X5_within ok_X5_within ?_
    refine r_if_ne 23 dX5_span_14 (fun h14 => ?_) (fun h14 => ?_)
    · refine r_aloadn dX5_span_23 rfl (by decide) ?_
      refine r_aloadn dX5_span_24 rfl (by decide) ?_
      refine c_V0 (μz := mX5_counting) dX5_span_25 kl_RX5_126 mv_X5_counting rfl (ok_X5_counting hw) ?_
      refine c_V1 (μz := mX5_canHold) dX5_span_28 kl_RX5_136 mv_X5_canHold rfl (ok_X5_canHold hw) ?_
      refine r_if_ne 40 dX5_span_31 (fun h31 => ?_) (fun h31 => ?_)
      · obtain ⟨x, y, hx, hy, hxy, rfl, rfl⟩ := k_pr (bi_1.mp h5)
        have ex : k_v (nI x) = x := nI_clamp (by omega)
        have ey : k_v (nI y) = y := nI_clamp (by omega)
        refine r_iloadn dX5_span_40 rfl ?_
        refine r_if_ne 54 dX5_span_41 (fun h41 => ?_) (fun h41 => ?_)
        · refine r_iloadn dX5_span_54 rfl ?_
          refine r_ic (1) dX5_span_55 ?_
          refine r_icmp_ne 71 dX5_span_56 (fun h56 => ?_) (fun h56 => ?_)
          · refine r_aloadn dX5_span_71 rfl (by decide) ?_
            refine r_getfr dX5_span_72 kf_RX5_29 rfl rfl ?_
            refine r_iloadn dX5_span_75 rfl ?_
            refine r_iloadn dX5_span_76 rfl ?_
            refine c_V2 (μz := mX0_width) dX5_span_77 kl_RX5_146 mv_X0_width rfl (ok_X0_width (by omega) (by omega)) ?_
            exact r_iret dX5_span_80 ⟨by unfold sp_span; rw [if_pos ⟨bi_1.mp h5, bi_1.mp h14⟩, if_neg h31, if_neg h41, if_neg h56, ex, ey], rfl, by unfold sp_span; rw [if_pos ⟨bi_1.mp h5, bi_1.mp h14⟩, if_neg h31, if_neg h41, if_neg h56, ex, ey]⟩
          · refine r_aloadn dX5_span_59 rfl (by decide) ?_
            refine r_getfr dX5_span_60 kf_RX5_29 rfl rfl ?_
            refine r_iloadn dX5_span_63 rfl ?_
            refine r_iloadn dX5_span_64 rfl ?_
            refine c_V2 (μz := mX0_mostBelow) dX5_span_65 kl_RX5_143 mv_X0_mostBelow rfl (ok_X0_mostBelow (by omega) (by omega)) ?_
            refine r_goto 80 dX5_span_68 ?_
            exact r_iret dX5_span_80 ⟨by unfold sp_span; rw [if_pos ⟨bi_1.mp h5, bi_1.mp h14⟩, if_neg h31, if_neg h41, if_pos h56, ex, ey], rfl, by unfold sp_span; rw [if_pos ⟨bi_1.mp h5, bi_1.mp h14⟩, if_neg h31, if_neg h41, if_pos h56, ex, ey]⟩
        · refine r_aloadn dX5_span_44 rfl (by decide) ?_
          refine r_getfr dX5_span_45 kf_RX5_29 rfl rfl ?_
          refine r_iloadn dX5_span_48 rfl ?_
          refine r_iloadn dX5_span_49 rfl ?_
          refine c_V2 (μz := mX0_leastBelow) dX5_span_50 kl_RX5_139 mv_X0_leastBelow rfl (ok_X0_leastBelow (by omega) (by omega)) ?_
          exact r_iret dX5_span_53 ⟨by unfold sp_span; rw [if_pos ⟨bi_1.mp h5, bi_1.mp h14⟩, if_neg h31, if_pos h41, ex, ey], rfl, by unfold sp_span; rw [if_pos ⟨bi_1.mp h5, bi_1.mp h14⟩, if_neg h31, if_pos h41, ex, ey]⟩
      · refine r_aloadn dX5_span_34 rfl (by decide) ?_
        refine r_ic (3) dX5_span_35 ?_
        refine c_V1 (μz := mX5_finding) dX5_span_36 kl_RX5_73 mv_X5_finding rfl (ok_X5_finding (w := 3) rfl (by decide)) ?_
        exact r_iret dX5_span_39 ⟨by unfold sp_span; rw [if_pos ⟨bi_1.mp h5, bi_1.mp h14⟩, if_pos h31], rfl, by unfold sp_span; rw [if_pos ⟨bi_1.mp h5, bi_1.mp h14⟩, if_pos h31]⟩
    · refine r_aloadn dX5_span_17 rfl (by decide) ?_
      refine r_ic (0) dX5_span_18 ?_
      refine c_V1 (μz := mX5_finding) dX5_span_19 kl_RX5_73 mv_X5_finding rfl (ok_X5_finding (w := 0) rfl (by decide)) ?_
      exact r_iret dX5_span_22 ⟨by unfold sp_span; rw [if_neg (fun q => bi_0.mp h14 q.2)], rfl, by unfold sp_span; rw [if_neg (fun q => bi_0.mp h14 q.2)]⟩
theorem lp_X5_sure {X : fp_X} {M : fp_M} {a : Nat} (ha : a < 8) : ∀ (n i : Nat), i + n = 8 → fp_W X mX5_sure 34 [some (.ref 0), some (.int (nI a)), some (.int (nI (k_bn (fun i => decide (k_wid M a i = 1)) i))), some (.int (nI i))] [] fp_sh M 0 0 (fun r s m => r = some (.int (nI (k_bn (fun i => decide (k_wid M a i = 1)) 8))) ∧ s = fp_sh ∧ m = M) := by
  intro n
  induction n with
  | zero =>
    intro i hi 
    have ti : (nI i).toInt = (i : Int) := nI_toInt (by omega)
    refine r_iloadn dX5_sure_34 rfl ?_
    refine r_bp (8) dX5_sure_35 ?_
    refine r_icmp_ge 65 dX5_sure_37 (fun h37 => ?_) (fun h37 => ?_)
    · refine r_iloadn dX5_sure_65 rfl ?_
      exact r_iret dX5_sure_66 ⟨by rw [show i = 8 by omega], rfl, rfl⟩
    · exfalso; simp only [Int32.le_iff_toInt_le, Int32.lt_iff_toInt_lt, Int32.reduceToInt] at h37; omega
  | succ n ih =>
    intro i hi 
    have ti : (nI i).toInt = (i : Int) := nI_toInt (by omega)
    refine r_iloadn dX5_sure_34 rfl ?_
    refine r_bp (8) dX5_sure_35 ?_
    refine r_icmp_ge 65 dX5_sure_37 (fun h37 => ?_) (fun h37 => ?_)
    · exfalso; simp only [Int32.le_iff_toInt_le, Int32.lt_iff_toInt_lt, Int32.reduceToInt] at h37; omega
    · refine r_aloadn dX5_sure_40 rfl (by decide) ?_
      refine r_getfr dX5_sure_41 kf_RX5_29 rfl rfl ?_
      refine r_iloadn dX5_sure_44 rfl ?_
      refine r_iloadn dX5_sure_45 rfl ?_
      refine c_V2 (μz := mX0_width) dX5_sure_46 kl_RX5_146 mv_X0_width rfl (ok_X0_width (by omega) (by omega)) ?_
      refine r_ic (1) dX5_sure_49 ?_
      refine r_icmp_ne 59 dX5_sure_50 (fun h50 => ?_) (fun h50 => ?_)
      · refine r_iinc3 (1) dX5_sure_59 ?_
        refine r_goto 34 dX5_sure_62 ?_
        rw [nI_1]
        have e := ih (i + 1) (by omega)
        rw [k_bn_no (p := (fun i => decide (k_wid M a i = 1))) (decide_eq_false h50)] at e
        exact e
      · refine r_iloadn dX5_sure_53 rfl ?_
        refine r_ic (1) dX5_sure_54 ?_
        refine r_iloadn dX5_sure_55 rfl ?_
        refine r_ishl dX5_sure_56 ?_
        refine r_ior dX5_sure_57 ?_
        refine r_istore2 dX5_sure_58 ?_
        refine r_iinc3 (1) dX5_sure_59 ?_
        refine r_goto 34 dX5_sure_62 ?_
        rw [nI_1]
        rw [k_bn_or (p := (fun i => decide (k_wid M a i = 1))) (by omega) (decide_eq_true h50)]
        exact ih (i + 1) (by omega)

theorem ok_X5_sure {X : fp_X} {M : fp_M} {c : Nat} {a : Int32} (hw : k_wf M 1 c): fp_Ev X mX5_sure [.ref 0, .int a] fp_sh M (some (.int (sp_sure M c a).1)) (sp_sure M c a).2 := by
  refine fp_ok [some (.ref 0), some (.int a), none, none] ?_
  refine r_iloadn dX5_sure_0 rfl ?_
  refine c_S1 (μz := mX5_isTown) dX5_sure_1 kl_RX5_149 ms_X5_isTown ok_X5_isTown ?_
  refine r_if_ne 13 dX5_sure_4 (fun h4 => ?_) (fun h4 => ?_)
  · refine r_aloadn dX5_sure_13 rfl (by decide) ?_
    refine r_aloadn dX5_sure_14 rfl (by decide) ?_
    refine c_V0 (μz := mX5_counting) dX5_sure_15 kl_RX5_126 mv_X5_counting rfl (ok_X5_counting hw) ?_
    refine c_V1 (μz := mX5_canHold) dX5_sure_18 kl_RX5_136 mv_X5_canHold rfl (ok_X5_canHold hw) ?_
    refine r_if_ne 30 dX5_sure_21 (fun h21 => ?_) (fun h21 => ?_)
    · obtain ⟨x, hx, rfl⟩ := k_rng (N := 7) rfl (bi_1.mp h4)
      have ex : k_v (nI x) = x := nI_clamp (by omega)
      refine r_ic (0) dX5_sure_30 ?_
      refine r_istore2 dX5_sure_31 ?_
      refine r_ic (0) dX5_sure_32 ?_
      refine r_istore3 dX5_sure_33 ?_
      unfold sp_sure
      rw [if_pos (bi_1.mp h4), if_neg h21, ex]
      exact lp_X5_sure (by omega) 8 0 (by omega)
    · refine r_aloadn dX5_sure_24 rfl (by decide) ?_
      refine r_ic (3) dX5_sure_25 ?_
      refine c_V1 (μz := mX5_finding) dX5_sure_26 kl_RX5_73 mv_X5_finding rfl (ok_X5_finding (w := 3) rfl (by decide)) ?_
      exact r_iret dX5_sure_29 ⟨by unfold sp_sure; rw [if_pos (bi_1.mp h4), if_pos h21], rfl, by unfold sp_sure; rw [if_pos (bi_1.mp h4), if_pos h21]⟩
  · refine r_aloadn dX5_sure_7 rfl (by decide) ?_
    refine r_ic (0) dX5_sure_8 ?_
    refine c_V1 (μz := mX5_finding) dX5_sure_9 kl_RX5_73 mv_X5_finding rfl (ok_X5_finding (w := 0) rfl (by decide)) ?_
    exact r_iret dX5_sure_12 ⟨by unfold sp_sure; rw [if_neg (bi_0.mp h4)], rfl, by unfold sp_sure; rw [if_neg (bi_0.mp h4)]⟩
theorem lp_X5_below {X : fp_X} {M : fp_M} {a : Nat} (ha : a < 8) : ∀ (n i : Nat), i + n = 8 → fp_W X mX5_below 34 [some (.ref 0), some (.int (nI a)), some (.int (nI (k_bn (fun i => decide (0 < -(k_T M i a))) i))), some (.int (nI i))] [] fp_sh M 0 0 (fun r s m => r = some (.int (nI (k_bn (fun i => decide (0 < -(k_T M i a))) 8))) ∧ s = fp_sh ∧ m = M) := by
  intro n
  induction n with
  | zero =>
    intro i hi 
    have ti : (nI i).toInt = (i : Int) := nI_toInt (by omega)
    refine r_iloadn dX5_below_34 rfl ?_
    refine r_bp (8) dX5_below_35 ?_
    refine r_icmp_ge 64 dX5_below_37 (fun h37 => ?_) (fun h37 => ?_)
    · refine r_iloadn dX5_below_64 rfl ?_
      exact r_iret dX5_below_65 ⟨by rw [show i = 8 by omega], rfl, rfl⟩
    · exfalso; simp only [Int32.le_iff_toInt_le, Int32.lt_iff_toInt_lt, Int32.reduceToInt] at h37; omega
  | succ n ih =>
    intro i hi 
    have ti : (nI i).toInt = (i : Int) := nI_toInt (by omega)
    refine r_iloadn dX5_below_34 rfl ?_
    refine r_bp (8) dX5_below_35 ?_
    refine r_icmp_ge 64 dX5_below_37 (fun h37 => ?_) (fun h37 => ?_)
    · exfalso; simp only [Int32.le_iff_toInt_le, Int32.lt_iff_toInt_lt, Int32.reduceToInt] at h37; omega
    · refine r_aloadn dX5_below_40 rfl (by decide) ?_
      refine r_getfr dX5_below_41 kf_RX5_29 rfl rfl ?_
      refine r_iloadn dX5_below_44 rfl ?_
      refine r_iloadn dX5_below_45 rfl ?_
      refine c_V2 (μz := mX0_leastBelow) dX5_below_46 kl_RX5_139 mv_X0_leastBelow rfl (ok_X0_leastBelow (by omega) (by omega)) ?_
      refine r_if_le 58 dX5_below_49 (fun h49 => ?_) (fun h49 => ?_)
      · refine r_iinc3 (1) dX5_below_58 ?_
        refine r_goto 34 dX5_below_61 ?_
        rw [nI_1]
        have e := ih (i + 1) (by omega)
        rw [k_bn_no (p := (fun i => decide (0 < -(k_T M i a)))) (decide_eq_false (Int32.not_lt.mpr h49))] at e
        exact e
      · refine r_iloadn dX5_below_52 rfl ?_
        refine r_ic (1) dX5_below_53 ?_
        refine r_iloadn dX5_below_54 rfl ?_
        refine r_ishl dX5_below_55 ?_
        refine r_ior dX5_below_56 ?_
        refine r_istore2 dX5_below_57 ?_
        refine r_iinc3 (1) dX5_below_58 ?_
        refine r_goto 34 dX5_below_61 ?_
        rw [nI_1]
        rw [k_bn_or (p := (fun i => decide (0 < -(k_T M i a)))) (by omega) (decide_eq_true (Int32.not_le.mp h49))]
        exact ih (i + 1) (by omega)

theorem ok_X5_below {X : fp_X} {M : fp_M} {c : Nat} {a : Int32} (hw : k_wf M 1 c): fp_Ev X mX5_below [.ref 0, .int a] fp_sh M (some (.int (sp_below M c a).1)) (sp_below M c a).2 := by
  refine fp_ok [some (.ref 0), some (.int a), none, none] ?_
  refine r_iloadn dX5_below_0 rfl ?_
  refine c_S1 (μz := mX5_isTown) dX5_below_1 kl_RX5_149 ms_X5_isTown ok_X5_isTown ?_
  refine r_if_ne 13 dX5_below_4 (fun h4 => ?_) (fun h4 => ?_)
  · refine r_aloadn dX5_below_13 rfl (by decide) ?_
    refine r_aloadn dX5_below_14 rfl (by decide) ?_
    refine c_V0 (μz := mX5_counting) dX5_below_15 kl_RX5_126 mv_X5_counting rfl (ok_X5_counting hw) ?_
    refine c_V1 (μz := mX5_canHold) dX5_below_18 kl_RX5_136 mv_X5_canHold rfl (ok_X5_canHold hw) ?_
    refine r_if_ne 30 dX5_below_21 (fun h21 => ?_) (fun h21 => ?_)
    · obtain ⟨x, hx, rfl⟩ := k_rng (N := 7) rfl (bi_1.mp h4)
      have ex : k_v (nI x) = x := nI_clamp (by omega)
      refine r_ic (0) dX5_below_30 ?_
      refine r_istore2 dX5_below_31 ?_
      refine r_ic (0) dX5_below_32 ?_
      refine r_istore3 dX5_below_33 ?_
      unfold sp_below
      rw [if_pos (bi_1.mp h4), if_neg h21, ex]
      exact lp_X5_below (by omega) 8 0 (by omega)
    · refine r_aloadn dX5_below_24 rfl (by decide) ?_
      refine r_ic (3) dX5_below_25 ?_
      refine c_V1 (μz := mX5_finding) dX5_below_26 kl_RX5_73 mv_X5_finding rfl (ok_X5_finding (w := 3) rfl (by decide)) ?_
      exact r_iret dX5_below_29 ⟨by unfold sp_below; rw [if_pos (bi_1.mp h4), if_pos h21], rfl, by unfold sp_below; rw [if_pos (bi_1.mp h4), if_pos h21]⟩
  · refine r_aloadn dX5_below_7 rfl (by decide) ?_
    refine r_ic (0) dX5_below_8 ?_
    refine c_V1 (μz := mX5_finding) dX5_below_9 kl_RX5_73 mv_X5_finding rfl (ok_X5_finding (w := 0) rfl (by decide)) ?_
    exact r_iret dX5_below_12 ⟨by unfold sp_below; rw [if_neg (bi_0.mp h4)], rfl, by unfold sp_below; rw [if_neg (bi_0.mp h4)]⟩
theorem ok_X5_widest {X : fp_X} {M : fp_M} {c : Nat} (hw : k_wf M 1 c): fp_Ev X mX5_widest [.ref 0] fp_sh M (some (.int (sp_widest M c).1)) (sp_widest M c).2 := by
  refine fp_ok [some (.ref 0)] ?_
  refine r_aloadn dX5_widest_0 rfl (by decide) ?_
  refine r_aloadn dX5_widest_1 rfl (by decide) ?_
  refine c_V0 (μz := mX5_counting) dX5_widest_2 kl_RX5_126 mv_X5_counting rfl (ok_X5_counting hw) ?_
  refine c_V1 (μz := mX5_canHold) dX5_widest_5 kl_RX5_136 mv_X5_canHold rfl (ok_X5_canHold hw) ?_
  refine r_if_ne 17 dX5_widest_8 (fun h8 => ?_) (fun h8 => ?_)
  · refine r_aloadn dX5_widest_17 rfl (by decide) ?_
    refine r_getfr dX5_widest_18 kf_RX5_29 rfl rfl ?_
    refine c_V0 (μz := mX0_widestPair) dX5_widest_21 kl_RX5_152 mv_X0_widestPair rfl ok_X0_widestPair ?_
    exact r_iret dX5_widest_24 ⟨by unfold sp_widest; rw [if_neg h8], rfl, by unfold sp_widest; rw [if_neg h8]⟩
  · refine r_aloadn dX5_widest_11 rfl (by decide) ?_
    refine r_ic (3) dX5_widest_12 ?_
    refine c_V1 (μz := mX5_finding) dX5_widest_13 kl_RX5_73 mv_X5_finding rfl (ok_X5_finding (w := 3) rfl (by decide)) ?_
    exact r_iret dX5_widest_16 ⟨by unfold sp_widest; rw [if_pos h8], rfl, by unfold sp_widest; rw [if_pos h8]⟩
theorem ok_X5_unknown {X : fp_X} {M : fp_M} {c : Nat} (hw : k_wf M 1 c): fp_Ev X mX5_unknown [.ref 0] fp_sh M (some (.int (sp_unknown M c).1)) (sp_unknown M c).2 := by
  refine fp_ok [some (.ref 0)] ?_
  refine r_aloadn dX5_unknown_0 rfl (by decide) ?_
  refine r_aloadn dX5_unknown_1 rfl (by decide) ?_
  refine c_V0 (μz := mX5_counting) dX5_unknown_2 kl_RX5_126 mv_X5_counting rfl (ok_X5_counting hw) ?_
  refine c_V1 (μz := mX5_canHold) dX5_unknown_5 kl_RX5_136 mv_X5_canHold rfl (ok_X5_canHold hw) ?_
  refine r_if_ne 17 dX5_unknown_8 (fun h8 => ?_) (fun h8 => ?_)
  · refine r_aloadn dX5_unknown_17 rfl (by decide) ?_
    refine r_getfr dX5_unknown_18 kf_RX5_29 rfl rfl ?_
    refine c_V0 (μz := mX0_allWidths) dX5_unknown_21 kl_RX5_155 mv_X0_allWidths rfl ok_X0_allWidths ?_
    exact r_iret dX5_unknown_24 ⟨by unfold sp_unknown; rw [if_neg h8], rfl, by unfold sp_unknown; rw [if_neg h8]⟩
  · refine r_aloadn dX5_unknown_11 rfl (by decide) ?_
    refine r_ic (3) dX5_unknown_12 ?_
    refine c_V1 (μz := mX5_finding) dX5_unknown_13 kl_RX5_73 mv_X5_finding rfl (ok_X5_finding (w := 3) rfl (by decide)) ?_
    exact r_iret dX5_unknown_16 ⟨by unfold sp_unknown; rw [if_pos h8], rfl, by unfold sp_unknown; rw [if_pos h8]⟩
theorem ok_X5_can {X : fp_X} {M : fp_M} {c : Nat} {a b v : Int32} (hw : k_wf M 1 c): fp_Ev X mX5_can [.ref 0, .int a, .int b, .int v] fp_sh M (some (.int (sp_can M c a b v).1)) (sp_can M c a b v).2 := by
  refine fp_ok [some (.ref 0), some (.int a), some (.int b), some (.int v)] ?_
  refine r_iloadn dX5_can_0 rfl ?_
  refine r_iloadn dX5_can_1 rfl ?_
  refine c_S2 (μz := mX5_arePair) dX5_can_2 kl_RX5_62 ms_X5_arePair ok_X5_arePair ?_
  refine r_if_eq 21 dX5_can_5 (fun h5 => ?_) (fun h5 => ?_)
  · refine r_aloadn dX5_can_21 rfl (by decide) ?_
    refine r_ic (0) dX5_can_22 ?_
    refine c_V1 (μz := mX5_finding) dX5_can_23 kl_RX5_73 mv_X5_finding rfl (ok_X5_finding (w := 0) rfl (by decide)) ?_
    exact r_iret dX5_can_26 ⟨by unfold sp_can; rw [if_neg (fun q => bi_0.mp h5 q.1)], rfl, by unfold sp_can; rw [if_neg (fun q => bi_0.mp h5 q.1)]⟩
  · refine r_iloadn dX5_can_8 rfl ?_
    refine r_sp (-999) dX5_can_9 ?_
    refine r_sp (999) dX5_can_12 ?_
    refine c_S3 (μz := mX5_within) dX5_can_15 kl_RX5_69 ms_X5_within ok_X5_within ?_
    refine r_if_ne 27 dX5_can_18 (fun h18 => ?_) (fun h18 => ?_)
    · refine r_aloadn dX5_can_27 rfl (by decide) ?_
      refine r_aloadn dX5_can_28 rfl (by decide) ?_
      refine c_V0 (μz := mX5_counting) dX5_can_29 kl_RX5_126 mv_X5_counting rfl (ok_X5_counting hw) ?_
      refine c_V1 (μz := mX5_canHold) dX5_can_32 kl_RX5_136 mv_X5_canHold rfl (ok_X5_canHold hw) ?_
      refine r_if_eq 56 dX5_can_35 (fun h35 => ?_) (fun h35 => ?_)
      · refine r_ic (0) dX5_can_56 ?_
        exact r_iret dX5_can_57 ⟨by unfold sp_can; rw [if_pos ⟨bi_1.mp h5, bi_1.mp h18⟩, if_neg (fun q => q.1 h35)], rfl, by unfold sp_can; rw [if_pos ⟨bi_1.mp h5, bi_1.mp h18⟩, if_neg (fun q => q.1 h35)]⟩
      · obtain ⟨x, y, hx, hy, hxy, rfl, rfl⟩ := k_pr (bi_1.mp h5)
        have ex : k_v (nI x) = x := nI_clamp (by omega)
        have ey : k_v (nI y) = y := nI_clamp (by omega)
        refine r_aloadn dX5_can_38 rfl (by decide) ?_
        refine r_getfr dX5_can_39 kf_RX5_29 rfl rfl ?_
        refine r_iloadn dX5_can_42 rfl ?_
        refine r_iloadn dX5_can_43 rfl ?_
        refine r_iloadn dX5_can_44 rfl ?_
        refine r_iloadn dX5_can_45 rfl ?_
        refine c_V4 (μz := mX0_allows) dX5_can_46 kl_RX5_158 mv_X0_allows rfl (ok_X0_allows hx hy) ?_
        refine r_if_eq 56 dX5_can_49 (fun h49 => ?_) (fun h49 => ?_)
        · refine r_ic (0) dX5_can_56 ?_
          exact r_iret dX5_can_57 ⟨by unfold sp_can; rw [if_pos ⟨bi_1.mp h5, bi_1.mp h18⟩, ex, ey, if_neg (fun q => bi_0.mp h49 q.2)], rfl, by unfold sp_can; rw [if_pos ⟨bi_1.mp h5, bi_1.mp h18⟩, ex, ey, if_neg (fun q => bi_0.mp h49 q.2)]⟩
        · refine r_ic (1) dX5_can_52 ?_
          refine r_goto 57 dX5_can_53 ?_
          exact r_iret dX5_can_57 ⟨by unfold sp_can; rw [if_pos ⟨bi_1.mp h5, bi_1.mp h18⟩, ex, ey, if_pos ⟨h35, bi_1.mp h49⟩], rfl, by unfold sp_can; rw [if_pos ⟨bi_1.mp h5, bi_1.mp h18⟩, ex, ey, if_pos ⟨h35, bi_1.mp h49⟩]⟩
    · refine r_aloadn dX5_can_21 rfl (by decide) ?_
      refine r_ic (0) dX5_can_22 ?_
      refine c_V1 (μz := mX5_finding) dX5_can_23 kl_RX5_73 mv_X5_finding rfl (ok_X5_finding (w := 0) rfl (by decide)) ?_
      exact r_iret dX5_can_26 ⟨by unfold sp_can; rw [if_neg (fun q => bi_0.mp h18 q.2)], rfl, by unfold sp_can; rw [if_neg (fun q => bi_0.mp h18 q.2)]⟩
theorem ok_X5_ahead {X : fp_X} {M : fp_M} {c : Nat} {n : Int32} (hw : k_wf M 1 c): fp_Ev X mX5_ahead [.ref 0, .int n] fp_sh M (some (.int (sp_ahead M c n).1)) (sp_ahead M c n).2 := by
  refine fp_ok [some (.ref 0), some (.int n)] ?_
  refine r_iloadn dX5_ahead_0 rfl ?_
  refine r_ic (0) dX5_ahead_1 ?_
  refine r_sp (500) dX5_ahead_2 ?_
  refine c_S3 (μz := mX5_within) dX5_ahead_5 kl_RX5_69 ms_X5_within ok_X5_within ?_
  refine r_if_ne 17 dX5_ahead_8 (fun h8 => ?_) (fun h8 => ?_)
  · refine r_aloadn dX5_ahead_17 rfl (by decide) ?_
    refine r_getfr dX5_ahead_18 kf_RX5_10 rfl rfl ?_
    refine r_aloadn dX5_ahead_21 rfl (by decide) ?_
    refine r_getfr dX5_ahead_22 kf_RX5_10 rfl rfl ?_
    refine r_getfi dX5_ahead_25 kf_RX5_107 rfl rfl ?_
    refine r_iloadn dX5_ahead_28 rfl ?_
    refine r_iadd dX5_ahead_29 ?_
    refine c_V1 (μz := mX2_countingOn) dX5_ahead_30 kl_RX5_162 mv_X2_countingOn rfl (ok_X2_countingOn fp_of_1 hw.2.1 hw.1) ?_
    exact r_iret dX5_ahead_33 ⟨by unfold sp_ahead; rw [if_pos (bi_1.mp h8)], rfl, by unfold sp_ahead; rw [if_pos (bi_1.mp h8)]⟩
  · refine r_aloadn dX5_ahead_11 rfl (by decide) ?_
    refine r_ic (0) dX5_ahead_12 ?_
    refine c_V1 (μz := mX5_finding) dX5_ahead_13 kl_RX5_73 mv_X5_finding rfl (ok_X5_finding (w := 0) rfl (by decide)) ?_
    exact r_iret dX5_ahead_16 ⟨by unfold sp_ahead; rw [if_neg (bi_0.mp h8)], rfl, by unfold sp_ahead; rw [if_neg (bi_0.mp h8)]⟩
theorem ok_X5_agree {X : fp_X} {M : fp_M} {c : Nat} {a : Int32} (hw : k_wf M 1 c): fp_Ev X mX5_agree [.ref 0, .int a] fp_sh M (some (.int (sp_agree M c a).1)) (sp_agree M c a).2 := by
  refine fp_ok [some (.ref 0), some (.int a)] ?_
  refine r_aloadn dX5_agree_0 rfl (by decide) ?_
  refine r_getfr dX5_agree_1 kf_RX5_10 rfl rfl ?_
  refine r_iloadn dX5_agree_4 rfl ?_
  refine c_V1 (μz := mX2_hasAll) dX5_agree_5 kl_RX5_165 mv_X2_hasAll rfl (ok_X2_hasAll fp_of_1) ?_
  refine r_if_ne 17 dX5_agree_8 (fun h8 => ?_) (fun h8 => ?_)
  · refine r_aloadn dX5_agree_17 rfl (by decide) ?_
    refine r_iloadn dX5_agree_18 rfl ?_
    refine c_V1 (μz := mX5_canHold) dX5_agree_19 kl_RX5_136 mv_X5_canHold rfl (ok_X5_canHold hw) ?_
    refine r_if_eq 29 dX5_agree_22 (fun h22 => ?_) (fun h22 => ?_)
    · refine r_ic (0) dX5_agree_29 ?_
      exact r_iret dX5_agree_30 ⟨by unfold sp_agree; rw [if_pos (bi_1.mp h8)]; show _ = some (Value.int (if _ then _ else _)); rw [if_pos h22], rfl, by unfold sp_agree; rw [if_pos (bi_1.mp h8)]⟩
    · refine r_ic (1) dX5_agree_25 ?_
      refine r_goto 30 dX5_agree_26 ?_
      exact r_iret dX5_agree_30 ⟨by unfold sp_agree; rw [if_pos (bi_1.mp h8)]; show _ = some (Value.int (if _ then _ else _)); rw [if_neg h22], rfl, by unfold sp_agree; rw [if_pos (bi_1.mp h8)]⟩
  · refine r_aloadn dX5_agree_11 rfl (by decide) ?_
    refine r_ic (0) dX5_agree_12 ?_
    refine c_V1 (μz := mX5_finding) dX5_agree_13 kl_RX5_73 mv_X5_finding rfl (ok_X5_finding (w := 0) rfl (by decide)) ?_
    exact r_iret dX5_agree_16 ⟨by unfold sp_agree; rw [if_neg (bi_0.mp h8)], rfl, by unfold sp_agree; rw [if_neg (bi_0.mp h8)]⟩
