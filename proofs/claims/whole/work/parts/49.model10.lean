/-! ===== the other one: status, wants, strike's small things ===== -/
theorem g_vs {w : Int32} (h : -1 ≤ w ∧ w ≤ 6) : w + 1 = nI (k_v (w + 1)) ∧ k_v (w + 1) < 8 := by
  have h1 := Int32.le_iff_toInt_le.mp h.1
  have h2 := Int32.le_iff_toInt_le.mp h.2
  simp only [Int32.reduceToInt] at h1 h2
  have e : (w + 1).toInt = w.toInt + 1 := by
    rw [Int32.toInt_add]
    simp only [Int32.reduceToInt]
    exact Int.bmod_eq_of_le (by omega) (by omega)
  refine g_vb (Int32.le_iff_toInt_le.mpr (by rw [e]; simp only [Int32.reduceToInt]; omega)) (by rw [e]; omega) (by decide)
def sg_status (M : fp_M) (w : Int32) : Int32 × fp_M := if -1 ≤ w ∧ w ≤ 6 then (M 53 (k_v (w + 1)), M) else (-1000001, g_fd M 0)
theorem g_v3 {w : Int32} (h : 0 ≤ w ∧ w ≤ 3) : w = nI (k_v w) ∧ k_v w < 4 := by
  refine g_vb h.1 ?_ (by decide)
  have h2 := h.2
  simp only [Int32.le_iff_toInt_le, Int32.reduceToInt] at h2
  omega
def g_want (M : fp_M) (t : Int32) : Int32 := if 0 ≤ t ∧ t ≤ 3 then (if 0 ≤ M 55 (k_v t) then 0 else -1000006) else -1000001
theorem ok_X6_status {X : fp_X} {M : fp_M} {w : Int32} : fp_Ev X mX6_status [.ref 49, .int w] fp_sh M (some (.int (sg_status M w).1)) (sg_status M w).2 := by
  refine fp_ok [some (.ref 49), some (.int w)] ?_
  refine r_iloadn dX6_status_0 rfl ?_
  refine r_i2l dX6_status_1 ?_
  refine r_ldc2 dX6_status_2 kc_RX6_273 ?_
  refine r_ldc2 dX6_status_5 kc_RX6_68 ?_
  refine c_S3 (μz := mX6_isIn) dX6_status_8 kl_RX6_42 ms_X6_isIn (ok_X6_in (lo := (-1)) (hi := 6) (by decide) (by decide)) ?_
  refine r_if_eq 25 dX6_status_11 (fun h11 => ?_) (fun h11 => ?_)
  · refine r_aloadn dX6_status_25 rfl (by decide) ?_
    refine r_ldc dX6_status_26 kc_RX6_37 ?_
    refine c_V1 (μz := mX6_finds) dX6_status_28 kl_RX6_47 mv_X6_finds rfl (ok_X6_finds (w := 0) (by decide) (by decide)) ?_
    exact r_iret dX6_status_31 ⟨by unfold sg_status; rw [if_neg (bi_0.mp h11)], rfl, by unfold sg_status; rw [if_neg (bi_0.mp h11)]⟩
  · obtain ⟨ew, lw⟩ := g_vs (bi_1.mp h11)
    refine r_aloadn dX6_status_14 rfl (by decide) ?_
    refine r_getfr dX6_status_15 kf_RX6_19 rfl rfl ?_
    refine r_iloadn dX6_status_18 rfl ?_
    refine r_ic (1) dX6_status_19 ?_
    refine r_iadd dX6_status_20 ?_
    refine r_ialdL (j := k_v (w + 1)) dX6_status_21 rfl ew ⟨lw, by decide⟩ ?_
    refine r_goto 31 dX6_status_22 ?_
    exact r_iret dX6_status_31 ⟨by unfold sg_status; rw [if_pos (bi_1.mp h11)], rfl, by unfold sg_status; rw [if_pos (bi_1.mp h11)]⟩
theorem ok_X6_wants {X : fp_X} {M : fp_M} {t : Int32} : fp_Ev X mX6_wants [.ref 49, .int t] fp_sh M (some (.int (g_want M t))) M := by
  refine fp_ok [some (.ref 49), some (.int t)] ?_
  refine r_iloadn dX6_wants_0 rfl ?_
  refine c_S1 (μz := mX6_isSheet) dX6_wants_1 kl_RX6_255 ms_X6_isSheet ok_X6_isSheet ?_
  refine r_if_ne 12 dX6_wants_4 (fun h4 => ?_) (fun h4 => ?_)
  · obtain ⟨et, lt⟩ := g_v3 (bi_1.mp h4)
    refine r_aloadn dX6_wants_12 rfl (by decide) ?_
    refine r_getfr dX6_wants_13 kf_RX6_25 rfl rfl ?_
    refine r_iloadn dX6_wants_16 rfl ?_
    refine r_ialdL (j := k_v t) dX6_wants_17 rfl et ⟨lt, by decide⟩ ?_
    refine r_if_ge 26 dX6_wants_18 (fun h18 => ?_) (fun h18 => ?_)
    · refine r_ic (0) dX6_wants_26 ?_
      exact r_iret dX6_wants_27 ⟨by unfold g_want; rw [if_pos (bi_1.mp h4), if_pos h18], rfl, rfl⟩
    · refine r_ldc dX6_wants_21 kc_RX6_250 ?_
      refine r_goto 27 dX6_wants_23 ?_
      exact r_iret dX6_wants_27 ⟨by unfold g_want; rw [if_pos (bi_1.mp h4), if_neg h18], rfl, rfl⟩
  · refine r_ldc dX6_wants_7 kc_RX6_37 ?_
    refine r_goto 27 dX6_wants_9 ?_
    exact r_iret dX6_wants_27 ⟨by unfold g_want; rw [if_neg (bi_0.mp h4)], rfl, rfl⟩
theorem ok_X6_isWord {X : fp_X} {M : fp_M} {n : Int32} : fp_Ev X mX6_isWord [.ref 49, .int n] fp_sh M (some (.int (bi (M 49 12 = 1 ∧ M 49 14 - M 49 13 = n)))) M := by
  refine fp_ok [some (.ref 49), some (.int n)] ?_
  refine r_aloadn dX6_isWord_0 rfl (by decide) ?_
  refine r_getfi dX6_isWord_1 kf_RX6_183 rfl rfl ?_
  refine r_ic (1) dX6_isWord_4 ?_
  refine r_icmp_ne 25 dX6_isWord_5 (fun h5 => ?_) (fun h5 => ?_)
  · refine r_ic (0) dX6_isWord_25 ?_
    exact r_iret dX6_isWord_26 ⟨by rw [bi_f (fun q => h5 q.1)], rfl, rfl⟩
  · refine r_aloadn dX6_isWord_8 rfl (by decide) ?_
    refine r_getfi dX6_isWord_9 kf_RX6_168 rfl rfl ?_
    refine r_aloadn dX6_isWord_12 rfl (by decide) ?_
    refine r_getfi dX6_isWord_13 kf_RX6_171 rfl rfl ?_
    refine r_isub dX6_isWord_16 ?_
    refine r_iloadn dX6_isWord_17 rfl ?_
    refine r_icmp_ne 25 dX6_isWord_18 (fun h18 => ?_) (fun h18 => ?_)
    · refine r_ic (0) dX6_isWord_25 ?_
      exact r_iret dX6_isWord_26 ⟨by rw [bi_f (fun q => h18 q.2)], rfl, rfl⟩
    · refine r_ic (1) dX6_isWord_21 ?_
      refine r_goto 26 dX6_isWord_22 ?_
      exact r_iret dX6_isWord_26 ⟨by rw [bi_t ⟨h5, h18⟩], rfl, rfl⟩
