/-! ===== FarPost's calls: spots, sheets, images ===== -/
abbrev v_sh (s : Int32) : Prop := 0 ≤ s ∧ s ≤ 3
theorem k_sh {s : Int32} (h : v_sh s) : ∃ k, k < 4 ∧ s = nI k := by
  obtain ⟨k, hk, rfl⟩ := k_rng (N := 3) rfl h
  exact ⟨k, by omega, rfl⟩
def sp_hold (M : fp_M) (p l : Int32) : Int32 × fp_M := if (0 ≤ p ∧ p ≤ 9) ∧ (l = -1 ∨ v_let M l) then (1, fp_wr M 11 (k_v p) l) else (k_lo 0, k_fd M 0)
def sp_as (M : fp_M) (p k : Int32) : Int32 × fp_M := if (0 ≤ p ∧ p ≤ 9) ∧ (0 ≤ k ∧ k ≤ 6) then (if v_let M (M 11 (k_v p)) then (if k_und 7 (M (3 + k_v (M 11 (k_v p))) 0) k = 0 then (k_lo 2, k_fd M 2) else (M 11 (k_v p), M)) else (k_lo 5, k_fd M 5)) else (k_lo 0, k_fd M 0)
/-- a sheet's object and its row -/
abbrev k_so (s : Int32) : Nat := 41 + 2 * k_v s
abbrev k_sn (s : Int32) : Nat := 42 + 2 * k_v s
def k_renew (M : fp_M) (k : Nat) (b n : Int32) : fp_M := k_fill (fp_wr (fp_wr M (41 + 2 * k) 0 b) (41 + 2 * k) 1 n) (42 + 2 * k) 40 0
def sp_sheet (M : fp_M) (s b n : Int32) : Int32 × fp_M := if v_sh s ∧ (b = 0 ∨ b = 8 ∨ b = 16 ∨ b = 32) then (if n < 0 then (k_lo 6, k_fd M 6) else if n ≤ 40 then ((if b = 0 then 0 else n), k_renew M (k_v s) b (if b = 0 then 0 else n)) else (k_lo 0, k_fd M 0)) else (k_lo 0, k_fd M 0)
/-- why a sheet isn't there: -1 if it is -/
def k_st (M : fp_M) (s : Int32) : Int32 := if v_sh s then (if M (k_so s) 0 = 0 then 5 else -1) else 0
def sp_write (M : fp_M) (s i v : Int32) : Int32 × fp_M := if k_st M s = -1 then (if 0 ≤ i ∧ i ≤ M (k_so s) 1 - 1 then (1, fp_wr M (k_sn s) (k_v i) (k_bits (M (k_so s) 0) v)) else (k_lo 0, k_fd M 0)) else (k_lo (k_st M s), k_fd M (k_v (k_st M s)))
abbrev v_run (M : fp_M) (s f n : Int32) : Prop := 0 ≤ f ∧ 0 ≤ n ∧ n ≤ M (k_so s) 1 ∧ f ≤ M (k_so s) 1 - n
def sp_copy (M : fp_M) (s f t g n : Int32) : Int32 × fp_M := if v_sh s ∧ v_sh t then (if M (k_so s) 0 = 0 ∨ M (k_so t) 0 = 0 then (k_lo 5, k_fd M 5) else if M (k_so s) 0 = M (k_so t) 0 then (if v_run M s f n ∧ v_run M t g n then (n, fp_cp M (k_sn s) (k_v f) (k_sn t) (k_v g) (k_v n)) else (k_lo 0, k_fd M 0)) else (k_lo 2, k_fd M 2)) else (k_lo 0, k_fd M 0)
def sp_image (M : fp_M) : Int32 × fp_M := (1, fp_wr (k_off M 23 1) 0 3 1)
def sp_undo (M : fp_M) : Int32 × fp_M := if M 0 3 = 0 then (k_lo 3, k_fd M 3) else (k_off M 1 23 1 4, k_off M 1 23)
def sp_tear (M : fp_M) : Int32 × fp_M := ((if M 0 3 = 0 then 0 else 1), fp_wr M 0 3 0)
def sp_seed (M : fp_M) (v : Int32) : Int32 × fp_M := (M 1 5, fp_wr M 1 5 v)
def sp_wipe (M : fp_M) : Int32 × fp_M := (M 37 0, fp_wr M 37 0 0)
def sp_count (M : fp_M) (c : Nat) (w : Int32) : Int32 × fp_M := if w = 0 then (M 1 4, M) else if w = 1 then (M 1 1, M) else if w = 2 then (k_bc (k_cn M c), M) else if w = 3 then (k_bc (nI (k_str M 1 c)), M) else if w = 4 then (k_days M 1 c, M) else if w = 5 then (M 37 0, M) else if w = 6 then (M 1 5, M) else if w = 7 then (k_held M 1 10, M) else (k_lo 0, k_fd M 0)
def k_all (M : fp_M) : Int32 := k_it (fun i s => s + M 40 i) 7 0 0
def sp_status (M : fp_M) (w : Int32) : Int32 × fp_M := if -1 ≤ w ∧ w ≤ 6 then ((if w < 0 then k_all M else M 40 (k_v w)), M) else (k_lo 0, k_fd M 0)
theorem ok_X5_seed {X : fp_X} {M : fp_M} {v : Int32} : fp_Ev X mX5_seed [.ref 0, .int v] fp_sh M (some (.int (sp_seed M v).1)) (sp_seed M v).2 := by
  refine fp_ok [some (.ref 0), some (.int v), none] ?_
  refine r_aloadn dX5_seed_0 rfl (by decide) ?_
  refine r_getfr dX5_seed_1 kf_RX5_10 rfl rfl ?_
  refine r_getfi dX5_seed_4 kf_RX5_214 rfl rfl ?_
  refine r_istore2 dX5_seed_7 ?_
  refine r_aloadn dX5_seed_8 rfl (by decide) ?_
  refine r_getfr dX5_seed_9 kf_RX5_10 rfl rfl ?_
  refine r_iloadn dX5_seed_12 rfl ?_
  refine r_putfi dX5_seed_13 kf_RX5_214 rfl rfl ?_
  refine r_iloadn dX5_seed_16 rfl ?_
  exact r_iret dX5_seed_17 ⟨rfl, rfl, rfl⟩
theorem ok_X5_wipe {X : fp_X} {M : fp_M}  : fp_Ev X mX5_wipe [.ref 0] fp_sh M (some (.int (sp_wipe M).1)) (sp_wipe M).2 := by
  refine fp_ok [some (.ref 0), none] ?_
  refine r_aloadn dX5_wipe_0 rfl (by decide) ?_
  refine r_getfr dX5_wipe_1 kf_RX5_43 rfl rfl ?_
  refine r_getfi dX5_wipe_4 kf_RX5_217 rfl rfl ?_
  refine r_istore1 dX5_wipe_7 ?_
  refine r_aloadn dX5_wipe_8 rfl (by decide) ?_
  refine r_getfr dX5_wipe_9 kf_RX5_43 rfl rfl ?_
  refine r_ic (0) dX5_wipe_12 ?_
  refine r_putfi dX5_wipe_13 kf_RX5_217 rfl rfl ?_
  refine r_iloadn dX5_wipe_16 rfl ?_
  exact r_iret dX5_wipe_17 ⟨rfl, rfl, rfl⟩
theorem ok_X5_image {X : fp_X} {M : fp_M}  : fp_Ev X mX5_image [.ref 0] fp_sh M (some (.int (sp_image M).1)) (sp_image M).2 := by
  refine fp_ok [some (.ref 0)] ?_
  refine r_aloadn dX5_image_0 rfl (by decide) ?_
  refine r_getfr dX5_image_1 kf_RX5_19 rfl rfl ?_
  refine r_aloadn dX5_image_4 rfl (by decide) ?_
  refine r_getfr dX5_image_5 kf_RX5_10 rfl rfl ?_
  refine c_V1v (μz := mX2_become) dX5_image_8 kl_RX5_223 mv_X2_become rfl (ok_X2_become fp_of_23 fp_of_1 (by decide)) ?_
  refine r_aloadn dX5_image_11 rfl (by decide) ?_
  refine r_ic (1) dX5_image_12 ?_
  refine r_putfi dX5_image_13 kf_RX5_22 rfl rfl ?_
  refine r_ic (1) dX5_image_16 ?_
  exact r_iret dX5_image_17 ⟨rfl, rfl, rfl⟩
theorem ok_X5_undo {X : fp_X} {M : fp_M}  : fp_Ev X mX5_undo [.ref 0] fp_sh M (some (.int (sp_undo M).1)) (sp_undo M).2 := by
  refine fp_ok [some (.ref 0)] ?_
  refine r_aloadn dX5_undo_0 rfl (by decide) ?_
  refine r_getfi dX5_undo_1 kf_RX5_22 rfl rfl ?_
  refine r_if_ne 13 dX5_undo_4 (fun h4 => ?_) (fun h4 => ?_)
  · refine r_aloadn dX5_undo_13 rfl (by decide) ?_
    refine r_getfr dX5_undo_14 kf_RX5_10 rfl rfl ?_
    refine r_aloadn dX5_undo_17 rfl (by decide) ?_
    refine r_getfr dX5_undo_18 kf_RX5_19 rfl rfl ?_
    refine c_V1v (μz := mX2_become) dX5_undo_21 kl_RX5_223 mv_X2_become rfl (ok_X2_become fp_of_1 fp_of_23 (by decide)) ?_
    refine r_aloadn dX5_undo_24 rfl (by decide) ?_
    refine r_getfr dX5_undo_25 kf_RX5_10 rfl rfl ?_
    refine r_getfi dX5_undo_28 kf_RX5_107 rfl rfl ?_
    exact r_iret dX5_undo_31 ⟨by unfold sp_undo; rw [if_neg h4], rfl, by unfold sp_undo; rw [if_neg h4]⟩
  · refine r_aloadn dX5_undo_7 rfl (by decide) ?_
    refine r_ic (3) dX5_undo_8 ?_
    refine c_V1 (μz := mX5_finding) dX5_undo_9 kl_RX5_73 mv_X5_finding rfl (ok_X5_finding (w := 3) rfl (by decide)) ?_
    exact r_iret dX5_undo_12 ⟨by unfold sp_undo; rw [if_pos h4], rfl, by unfold sp_undo; rw [if_pos h4]⟩
theorem ok_X5_tear {X : fp_X} {M : fp_M}  : fp_Ev X mX5_tear [.ref 0] fp_sh M (some (.int (sp_tear M).1)) (sp_tear M).2 := by
  refine fp_ok [some (.ref 0), none] ?_
  refine r_aloadn dX5_tear_0 rfl (by decide) ?_
  refine r_getfi dX5_tear_1 kf_RX5_22 rfl rfl ?_
  refine r_if_eq 11 dX5_tear_4 (fun h4 => ?_) (fun h4 => ?_)
  · refine r_ic (0) dX5_tear_11 ?_
    refine r_istore1 dX5_tear_12 ?_
    refine r_aloadn dX5_tear_13 rfl (by decide) ?_
    refine r_ic (0) dX5_tear_14 ?_
    refine r_putfi dX5_tear_15 kf_RX5_22 rfl rfl ?_
    refine r_iloadn dX5_tear_18 rfl ?_
    exact r_iret dX5_tear_19 ⟨by show _ = some (Value.int (if _ then _ else _)); rw [if_pos h4], rfl, rfl⟩
  · refine r_ic (1) dX5_tear_7 ?_
    refine r_goto 12 dX5_tear_8 ?_
    refine r_istore1 dX5_tear_12 ?_
    refine r_aloadn dX5_tear_13 rfl (by decide) ?_
    refine r_ic (0) dX5_tear_14 ?_
    refine r_putfi dX5_tear_15 kf_RX5_22 rfl rfl ?_
    refine r_iloadn dX5_tear_18 rfl ?_
    exact r_iret dX5_tear_19 ⟨by show _ = some (Value.int (if _ then _ else _)); rw [if_neg h4], rfl, rfl⟩
theorem ok_X5_hold {X : fp_X} {M : fp_M} {p l : Int32} : fp_Ev X mX5_hold [.ref 0, .int p, .int l] fp_sh M (some (.int (sp_hold M p l).1)) (sp_hold M p l).2 := by
  refine fp_ok [some (.ref 0), some (.int p), some (.int l)] ?_
  refine r_iloadn dX5_hold_0 rfl ?_
  refine r_ic (0) dX5_hold_1 ?_
  refine r_bp (9) dX5_hold_2 ?_
  refine c_S3 (μz := mX5_within) dX5_hold_4 kl_RX5_69 ms_X5_within ok_X5_within ?_
  refine r_if_eq 26 dX5_hold_7 (fun h7 => ?_) (fun h7 => ?_)
  · refine r_aloadn dX5_hold_26 rfl (by decide) ?_
    refine r_ic (0) dX5_hold_27 ?_
    refine c_V1 (μz := mX5_finding) dX5_hold_28 kl_RX5_73 mv_X5_finding rfl (ok_X5_finding (w := 0) rfl (by decide)) ?_
    exact r_iret dX5_hold_31 ⟨by unfold sp_hold; rw [if_neg (fun q => bi_0.mp h7 q.1)], rfl, by unfold sp_hold; rw [if_neg (fun q => bi_0.mp h7 q.1)]⟩
  · refine r_iloadn dX5_hold_10 rfl ?_
    refine r_ic (-1) dX5_hold_11 ?_
    refine r_icmp_eq 32 dX5_hold_12 (fun h12 => ?_) (fun h12 => ?_)
    · obtain ⟨x, hx, rfl⟩ := k_rng (N := 9) rfl (bi_1.mp h7)
      have ex : k_v (nI x) = x := nI_clamp (by omega)
      refine r_aloadn dX5_hold_32 rfl (by decide) ?_
      refine r_getfr dX5_hold_33 kf_RX5_10 rfl rfl ?_
      refine r_getfr dX5_hold_36 kf_RX5_231 rfl rfl ?_
      refine r_iloadn dX5_hold_39 rfl ?_
      refine r_iloadn dX5_hold_40 rfl ?_
      refine r_iastL (j := x) dX5_hold_41 rfl rfl ⟨by omega, by decide⟩ ?_
      refine r_ic (1) dX5_hold_42 ?_
      exact r_iret dX5_hold_43 ⟨by unfold sp_hold; rw [ex, if_pos ⟨bi_1.mp h7, Or.inl h12⟩], rfl, by unfold sp_hold; rw [ex, if_pos ⟨bi_1.mp h7, Or.inl h12⟩]⟩
    · refine r_aloadn dX5_hold_15 rfl (by decide) ?_
      refine r_getfr dX5_hold_16 kf_RX5_10 rfl rfl ?_
      refine r_iloadn dX5_hold_19 rfl ?_
      refine c_V1 (μz := mX2_has) dX5_hold_20 kl_RX5_85 mv_X2_has rfl (ok_X2_has fp_of_1) ?_
      refine r_if_ne 32 dX5_hold_23 (fun h23 => ?_) (fun h23 => ?_)
      · obtain ⟨x, hx, rfl⟩ := k_rng (N := 9) rfl (bi_1.mp h7)
        have ex : k_v (nI x) = x := nI_clamp (by omega)
        refine r_aloadn dX5_hold_32 rfl (by decide) ?_
        refine r_getfr dX5_hold_33 kf_RX5_10 rfl rfl ?_
        refine r_getfr dX5_hold_36 kf_RX5_231 rfl rfl ?_
        refine r_iloadn dX5_hold_39 rfl ?_
        refine r_iloadn dX5_hold_40 rfl ?_
        refine r_iastL (j := x) dX5_hold_41 rfl rfl ⟨by omega, by decide⟩ ?_
        refine r_ic (1) dX5_hold_42 ?_
        exact r_iret dX5_hold_43 ⟨by unfold sp_hold; rw [ex, if_pos ⟨bi_1.mp h7, Or.inr (bi_1.mp h23)⟩], rfl, by unfold sp_hold; rw [ex, if_pos ⟨bi_1.mp h7, Or.inr (bi_1.mp h23)⟩]⟩
      · refine r_aloadn dX5_hold_26 rfl (by decide) ?_
        refine r_ic (0) dX5_hold_27 ?_
        refine c_V1 (μz := mX5_finding) dX5_hold_28 kl_RX5_73 mv_X5_finding rfl (ok_X5_finding (w := 0) rfl (by decide)) ?_
        exact r_iret dX5_hold_31 ⟨by unfold sp_hold; rw [if_neg (fun q => q.2.elim h12 (bi_0.mp h23))], rfl, by unfold sp_hold; rw [if_neg (fun q => q.2.elim h12 (bi_0.mp h23))]⟩
theorem ok_X5_as {X : fp_X} {M : fp_M} {c : Nat} {p k : Int32} (hw : k_wf M 1 c): fp_Ev X mX5_as [.ref 0, .int p, .int k] fp_sh M (some (.int (sp_as M p k).1)) (sp_as M p k).2 := by
  refine fp_ok [some (.ref 0), some (.int p), some (.int k), none] ?_
  refine r_iloadn dX5_as_0 rfl ?_
  refine r_ic (0) dX5_as_1 ?_
  refine r_bp (9) dX5_as_2 ?_
  refine c_S3 (μz := mX5_within) dX5_as_4 kl_RX5_69 ms_X5_within ok_X5_within ?_
  refine r_if_eq 17 dX5_as_7 (fun h7 => ?_) (fun h7 => ?_)
  · refine r_aloadn dX5_as_17 rfl (by decide) ?_
    refine r_ic (0) dX5_as_18 ?_
    refine c_V1 (μz := mX5_finding) dX5_as_19 kl_RX5_73 mv_X5_finding rfl (ok_X5_finding (w := 0) rfl (by decide)) ?_
    exact r_iret dX5_as_22 ⟨by unfold sp_as; rw [if_neg (fun q => bi_0.mp h7 q.1)], rfl, by unfold sp_as; rw [if_neg (fun q => bi_0.mp h7 q.1)]⟩
  · refine r_iloadn dX5_as_10 rfl ?_
    refine c_S1 (μz := mX5_isKind) dX5_as_11 kl_RX5_58 ms_X5_isKind ok_X5_isKind ?_
    refine r_if_ne 23 dX5_as_14 (fun h14 => ?_) (fun h14 => ?_)
    · obtain ⟨x, hx, rfl⟩ := k_rng (N := 9) rfl (bi_1.mp h7)
      have ex : k_v (nI x) = x := nI_clamp (by omega)
      refine r_aloadn dX5_as_23 rfl (by decide) ?_
      refine r_getfr dX5_as_24 kf_RX5_10 rfl rfl ?_
      refine r_getfr dX5_as_27 kf_RX5_231 rfl rfl ?_
      refine r_iloadn dX5_as_30 rfl ?_
      refine r_ialdL (j := x) dX5_as_31 rfl rfl ⟨by omega, by decide⟩ ?_
      refine r_istore3 dX5_as_32 ?_
      refine r_aloadn dX5_as_33 rfl (by decide) ?_
      refine r_getfr dX5_as_34 kf_RX5_10 rfl rfl ?_
      refine r_iloadn dX5_as_37 rfl ?_
      refine c_V1 (μz := mX2_has) dX5_as_38 kl_RX5_85 mv_X2_has rfl (ok_X2_has fp_of_1) ?_
      refine r_if_ne 50 dX5_as_41 (fun h41 => ?_) (fun h41 => ?_)
      · obtain ⟨n, hn, hn2⟩ := k_idx hw (bi_1.mp h41)
        have hc8 := hw.1
        have en : k_v (M 11 x) = n := by rw [hn2]; exact nI_clamp (by omega)
        refine r_aloadn dX5_as_50 rfl (by decide) ?_
        refine r_getfr dX5_as_51 kf_RX5_10 rfl rfl ?_
        refine r_getfr dX5_as_54 kf_RX5_88 rfl rfl ?_
        refine r_iloadn dX5_as_57 rfl ?_
        refine r_aaldL (j := n) dX5_as_58 (sh_r fp_of_1) hn2 (sh_rr (by omega)) (by omega) (Nat.le_of_ble_eq_true rfl) ?_
        refine r_getfi dX5_as_59 kf_RX5_192 (sh_l fp_of_1 (by omega)) rfl ?_
        refine r_iloadn dX5_as_62 rfl ?_
        refine c_S2 (μz := mX5_isUnder) dX5_as_63 kl_RX5_234 ms_X5_isUnder ok_X5_isUnder ?_
        refine r_if_ne 75 dX5_as_66 (fun h66 => ?_) (fun h66 => ?_)
        · refine r_iloadn dX5_as_75 rfl ?_
          exact r_iret dX5_as_76 ⟨by unfold sp_as; rw [if_pos ⟨bi_1.mp h7, bi_1.mp h14⟩, ex, if_pos (bi_1.mp h41), en, if_neg h66], rfl, by unfold sp_as; rw [if_pos ⟨bi_1.mp h7, bi_1.mp h14⟩, ex, if_pos (bi_1.mp h41), en, if_neg h66]⟩
        · refine r_aloadn dX5_as_69 rfl (by decide) ?_
          refine r_ic (2) dX5_as_70 ?_
          refine c_V1 (μz := mX5_finding) dX5_as_71 kl_RX5_73 mv_X5_finding rfl (ok_X5_finding (w := 2) rfl (by decide)) ?_
          exact r_iret dX5_as_74 ⟨by unfold sp_as; rw [if_pos ⟨bi_1.mp h7, bi_1.mp h14⟩, ex, if_pos (bi_1.mp h41), en, if_pos h66], rfl, by unfold sp_as; rw [if_pos ⟨bi_1.mp h7, bi_1.mp h14⟩, ex, if_pos (bi_1.mp h41), en, if_pos h66]⟩
      · refine r_aloadn dX5_as_44 rfl (by decide) ?_
        refine r_ic (5) dX5_as_45 ?_
        refine c_V1 (μz := mX5_finding) dX5_as_46 kl_RX5_73 mv_X5_finding rfl (ok_X5_finding (w := 5) rfl (by decide)) ?_
        exact r_iret dX5_as_49 ⟨by unfold sp_as; rw [if_pos ⟨bi_1.mp h7, bi_1.mp h14⟩, ex, if_neg (bi_0.mp h41)], rfl, by unfold sp_as; rw [if_pos ⟨bi_1.mp h7, bi_1.mp h14⟩, ex, if_neg (bi_0.mp h41)]⟩
    · refine r_aloadn dX5_as_17 rfl (by decide) ?_
      refine r_ic (0) dX5_as_18 ?_
      refine c_V1 (μz := mX5_finding) dX5_as_19 kl_RX5_73 mv_X5_finding rfl (ok_X5_finding (w := 0) rfl (by decide)) ?_
      exact r_iret dX5_as_22 ⟨by unfold sp_as; rw [if_neg (fun q => bi_0.mp h14 q.2)], rfl, by unfold sp_as; rw [if_neg (fun q => bi_0.mp h14 q.2)]⟩
theorem ok_X5_sheet {X : fp_X} {M : fp_M} {s b n : Int32} : fp_Ev X mX5_sheet [.ref 0, .int s, .int b, .int n] fp_sh M (some (.int (sp_sheet M s b n).1)) (sp_sheet M s b n).2 := by
  refine fp_ok [some (.ref 0), some (.int s), some (.int b), some (.int n)] ?_
  refine r_iloadn dX5_sheet_0 rfl ?_
  refine c_S1 (μz := mX5_isSheet) dX5_sheet_1 kl_RX5_237 ms_X5_isSheet ok_X5_isSheet ?_
  refine r_if_eq 29 dX5_sheet_4 (fun h4 => ?_) (fun h4 => ?_)
  · refine r_aloadn dX5_sheet_29 rfl (by decide) ?_
    refine r_ic (0) dX5_sheet_30 ?_
    refine c_V1 (μz := mX5_finding) dX5_sheet_31 kl_RX5_73 mv_X5_finding rfl (ok_X5_finding (w := 0) rfl (by decide)) ?_
    exact r_iret dX5_sheet_34 ⟨by unfold sp_sheet; rw [if_neg (fun q => bi_0.mp h4 q.1)], rfl, by unfold sp_sheet; rw [if_neg (fun q => bi_0.mp h4 q.1)]⟩
  · refine r_iloadn dX5_sheet_7 rfl ?_
    refine r_if_eq 35 dX5_sheet_8 (fun h8 => ?_) (fun h8 => ?_)
    · refine r_iloadn dX5_sheet_35 rfl ?_
      refine r_if_ge 46 dX5_sheet_36 (fun h36 => ?_) (fun h36 => ?_)
      · refine r_iloadn dX5_sheet_46 rfl ?_
        refine r_bp (40) dX5_sheet_47 ?_
        refine r_icmp_le 58 dX5_sheet_49 (fun h49 => ?_) (fun h49 => ?_)
        · obtain ⟨k, hk, rfl⟩ := k_sh (bi_1.mp h4)
          have ek : k_v (nI k) = k := nI_clamp (by omega)
          have eo : k_so (nI k) = 41 + 2 * k := by show 41 + 2 * (nI k).toNatClampNeg = _; rw [nI_clamp (by omega)]
          have es : k_sn (nI k) = 42 + 2 * k := by show 42 + 2 * (nI k).toNatClampNeg = _; rw [nI_clamp (by omega)]
          refine r_aloadn dX5_sheet_58 rfl (by decide) ?_
          refine r_getfr dX5_sheet_59 kf_RX5_49 rfl rfl ?_
          refine r_iloadn dX5_sheet_62 rfl ?_
          refine r_aaldL (j := k) dX5_sheet_63 rfl rfl (sh_ss (by omega)) (by omega) (Nat.le_of_ble_eq_true rfl) ?_
          refine r_iloadn dX5_sheet_64 rfl ?_
          refine r_iloadn dX5_sheet_65 rfl ?_
          refine r_if_ne 73 dX5_sheet_66 (fun h66 => ?_) (fun h66 => ?_)
          · refine r_iloadn dX5_sheet_73 rfl ?_
            refine c_V2v (μz := mX3_renew) dX5_sheet_74 kl_RX5_240 mv_X3_renew (sh_s hk) (ok_X3_renew hk) ?_
            refine r_aloadn dX5_sheet_77 rfl (by decide) ?_
            refine r_getfr dX5_sheet_78 kf_RX5_49 rfl rfl ?_
            refine r_iloadn dX5_sheet_81 rfl ?_
            refine r_aaldL (j := k) dX5_sheet_82 rfl rfl (sh_ss (by omega)) (by omega) (Nat.le_of_ble_eq_true rfl) ?_
            refine r_getfi dX5_sheet_83 kf_RX5_243 (sh_s hk) rfl ?_
            exact r_iret dX5_sheet_86 ⟨by unfold sp_sheet; rw [if_pos ⟨bi_1.mp h4, (Or.inl h8)⟩, if_neg (Int32.not_lt.mpr h36), if_pos h49, ek]; show some (Value.int (k_fill _ _ _ _ _ _)) = some (Value.int (if _ then _ else _)); rw [if_neg h66]; unfold k_fill; rw [if_neg (by omega)]; simp [fp_wr], rfl, by unfold sp_sheet; rw [if_pos ⟨bi_1.mp h4, (Or.inl h8)⟩, if_neg (Int32.not_lt.mpr h36), if_pos h49, ek]; show _ = k_renew M k b (if _ then _ else _); rw [if_neg h66]; rfl⟩
          · refine r_ic (0) dX5_sheet_69 ?_
            refine r_goto 74 dX5_sheet_70 ?_
            refine c_V2v (μz := mX3_renew) dX5_sheet_74 kl_RX5_240 mv_X3_renew (sh_s hk) (ok_X3_renew hk) ?_
            refine r_aloadn dX5_sheet_77 rfl (by decide) ?_
            refine r_getfr dX5_sheet_78 kf_RX5_49 rfl rfl ?_
            refine r_iloadn dX5_sheet_81 rfl ?_
            refine r_aaldL (j := k) dX5_sheet_82 rfl rfl (sh_ss (by omega)) (by omega) (Nat.le_of_ble_eq_true rfl) ?_
            refine r_getfi dX5_sheet_83 kf_RX5_243 (sh_s hk) rfl ?_
            exact r_iret dX5_sheet_86 ⟨by unfold sp_sheet; rw [if_pos ⟨bi_1.mp h4, (Or.inl h8)⟩, if_neg (Int32.not_lt.mpr h36), if_pos h49, ek]; show some (Value.int (k_fill _ _ _ _ _ _)) = some (Value.int (if _ then _ else _)); rw [if_pos h66]; unfold k_fill; rw [if_neg (by omega)]; simp [fp_wr], rfl, by unfold sp_sheet; rw [if_pos ⟨bi_1.mp h4, (Or.inl h8)⟩, if_neg (Int32.not_lt.mpr h36), if_pos h49, ek]; show _ = k_renew M k b (if _ then _ else _); rw [if_pos h66]; rfl⟩
        · refine r_aloadn dX5_sheet_52 rfl (by decide) ?_
          refine r_ic (0) dX5_sheet_53 ?_
          refine c_V1 (μz := mX5_finding) dX5_sheet_54 kl_RX5_73 mv_X5_finding rfl (ok_X5_finding (w := 0) rfl (by decide)) ?_
          exact r_iret dX5_sheet_57 ⟨by unfold sp_sheet; rw [if_pos ⟨bi_1.mp h4, (Or.inl h8)⟩, if_neg (Int32.not_lt.mpr h36), if_neg h49], rfl, by unfold sp_sheet; rw [if_pos ⟨bi_1.mp h4, (Or.inl h8)⟩, if_neg (Int32.not_lt.mpr h36), if_neg h49]⟩
      · refine r_aloadn dX5_sheet_39 rfl (by decide) ?_
        refine r_bp (6) dX5_sheet_40 ?_
        refine c_V1 (μz := mX5_finding) dX5_sheet_42 kl_RX5_73 mv_X5_finding rfl (ok_X5_finding (w := 6) rfl (by decide)) ?_
        exact r_iret dX5_sheet_45 ⟨by unfold sp_sheet; rw [if_pos ⟨bi_1.mp h4, (Or.inl h8)⟩, if_pos (Int32.not_le.mp h36)], rfl, by unfold sp_sheet; rw [if_pos ⟨bi_1.mp h4, (Or.inl h8)⟩, if_pos (Int32.not_le.mp h36)]⟩
    · refine r_iloadn dX5_sheet_11 rfl ?_
      refine r_bp (8) dX5_sheet_12 ?_
      refine r_icmp_eq 35 dX5_sheet_14 (fun h14 => ?_) (fun h14 => ?_)
      · refine r_iloadn dX5_sheet_35 rfl ?_
        refine r_if_ge 46 dX5_sheet_36 (fun h36 => ?_) (fun h36 => ?_)
        · refine r_iloadn dX5_sheet_46 rfl ?_
          refine r_bp (40) dX5_sheet_47 ?_
          refine r_icmp_le 58 dX5_sheet_49 (fun h49 => ?_) (fun h49 => ?_)
          · obtain ⟨k, hk, rfl⟩ := k_sh (bi_1.mp h4)
            have ek : k_v (nI k) = k := nI_clamp (by omega)
            have eo : k_so (nI k) = 41 + 2 * k := by show 41 + 2 * (nI k).toNatClampNeg = _; rw [nI_clamp (by omega)]
            have es : k_sn (nI k) = 42 + 2 * k := by show 42 + 2 * (nI k).toNatClampNeg = _; rw [nI_clamp (by omega)]
            refine r_aloadn dX5_sheet_58 rfl (by decide) ?_
            refine r_getfr dX5_sheet_59 kf_RX5_49 rfl rfl ?_
            refine r_iloadn dX5_sheet_62 rfl ?_
            refine r_aaldL (j := k) dX5_sheet_63 rfl rfl (sh_ss (by omega)) (by omega) (Nat.le_of_ble_eq_true rfl) ?_
            refine r_iloadn dX5_sheet_64 rfl ?_
            refine r_iloadn dX5_sheet_65 rfl ?_
            refine r_if_ne 73 dX5_sheet_66 (fun h66 => ?_) (fun h66 => ?_)
            · refine r_iloadn dX5_sheet_73 rfl ?_
              refine c_V2v (μz := mX3_renew) dX5_sheet_74 kl_RX5_240 mv_X3_renew (sh_s hk) (ok_X3_renew hk) ?_
              refine r_aloadn dX5_sheet_77 rfl (by decide) ?_
              refine r_getfr dX5_sheet_78 kf_RX5_49 rfl rfl ?_
              refine r_iloadn dX5_sheet_81 rfl ?_
              refine r_aaldL (j := k) dX5_sheet_82 rfl rfl (sh_ss (by omega)) (by omega) (Nat.le_of_ble_eq_true rfl) ?_
              refine r_getfi dX5_sheet_83 kf_RX5_243 (sh_s hk) rfl ?_
              exact r_iret dX5_sheet_86 ⟨by unfold sp_sheet; rw [if_pos ⟨bi_1.mp h4, (Or.inr (Or.inl h14))⟩, if_neg (Int32.not_lt.mpr h36), if_pos h49, ek]; show some (Value.int (k_fill _ _ _ _ _ _)) = some (Value.int (if _ then _ else _)); rw [if_neg h66]; unfold k_fill; rw [if_neg (by omega)]; simp [fp_wr], rfl, by unfold sp_sheet; rw [if_pos ⟨bi_1.mp h4, (Or.inr (Or.inl h14))⟩, if_neg (Int32.not_lt.mpr h36), if_pos h49, ek]; show _ = k_renew M k b (if _ then _ else _); rw [if_neg h66]; rfl⟩
            · refine r_ic (0) dX5_sheet_69 ?_
              refine r_goto 74 dX5_sheet_70 ?_
              refine c_V2v (μz := mX3_renew) dX5_sheet_74 kl_RX5_240 mv_X3_renew (sh_s hk) (ok_X3_renew hk) ?_
              refine r_aloadn dX5_sheet_77 rfl (by decide) ?_
              refine r_getfr dX5_sheet_78 kf_RX5_49 rfl rfl ?_
              refine r_iloadn dX5_sheet_81 rfl ?_
              refine r_aaldL (j := k) dX5_sheet_82 rfl rfl (sh_ss (by omega)) (by omega) (Nat.le_of_ble_eq_true rfl) ?_
              refine r_getfi dX5_sheet_83 kf_RX5_243 (sh_s hk) rfl ?_
              exact r_iret dX5_sheet_86 ⟨by unfold sp_sheet; rw [if_pos ⟨bi_1.mp h4, (Or.inr (Or.inl h14))⟩, if_neg (Int32.not_lt.mpr h36), if_pos h49, ek]; show some (Value.int (k_fill _ _ _ _ _ _)) = some (Value.int (if _ then _ else _)); rw [if_pos h66]; unfold k_fill; rw [if_neg (by omega)]; simp [fp_wr], rfl, by unfold sp_sheet; rw [if_pos ⟨bi_1.mp h4, (Or.inr (Or.inl h14))⟩, if_neg (Int32.not_lt.mpr h36), if_pos h49, ek]; show _ = k_renew M k b (if _ then _ else _); rw [if_pos h66]; rfl⟩
          · refine r_aloadn dX5_sheet_52 rfl (by decide) ?_
            refine r_ic (0) dX5_sheet_53 ?_
            refine c_V1 (μz := mX5_finding) dX5_sheet_54 kl_RX5_73 mv_X5_finding rfl (ok_X5_finding (w := 0) rfl (by decide)) ?_
            exact r_iret dX5_sheet_57 ⟨by unfold sp_sheet; rw [if_pos ⟨bi_1.mp h4, (Or.inr (Or.inl h14))⟩, if_neg (Int32.not_lt.mpr h36), if_neg h49], rfl, by unfold sp_sheet; rw [if_pos ⟨bi_1.mp h4, (Or.inr (Or.inl h14))⟩, if_neg (Int32.not_lt.mpr h36), if_neg h49]⟩
        · refine r_aloadn dX5_sheet_39 rfl (by decide) ?_
          refine r_bp (6) dX5_sheet_40 ?_
          refine c_V1 (μz := mX5_finding) dX5_sheet_42 kl_RX5_73 mv_X5_finding rfl (ok_X5_finding (w := 6) rfl (by decide)) ?_
          exact r_iret dX5_sheet_45 ⟨by unfold sp_sheet; rw [if_pos ⟨bi_1.mp h4, (Or.inr (Or.inl h14))⟩, if_pos (Int32.not_le.mp h36)], rfl, by unfold sp_sheet; rw [if_pos ⟨bi_1.mp h4, (Or.inr (Or.inl h14))⟩, if_pos (Int32.not_le.mp h36)]⟩
      · refine r_iloadn dX5_sheet_17 rfl ?_
        refine r_bp (16) dX5_sheet_18 ?_
        refine r_icmp_eq 35 dX5_sheet_20 (fun h20 => ?_) (fun h20 => ?_)
        · refine r_iloadn dX5_sheet_35 rfl ?_
          refine r_if_ge 46 dX5_sheet_36 (fun h36 => ?_) (fun h36 => ?_)
          · refine r_iloadn dX5_sheet_46 rfl ?_
            refine r_bp (40) dX5_sheet_47 ?_
            refine r_icmp_le 58 dX5_sheet_49 (fun h49 => ?_) (fun h49 => ?_)
            · obtain ⟨k, hk, rfl⟩ := k_sh (bi_1.mp h4)
              have ek : k_v (nI k) = k := nI_clamp (by omega)
              have eo : k_so (nI k) = 41 + 2 * k := by show 41 + 2 * (nI k).toNatClampNeg = _; rw [nI_clamp (by omega)]
              have es : k_sn (nI k) = 42 + 2 * k := by show 42 + 2 * (nI k).toNatClampNeg = _; rw [nI_clamp (by omega)]
              refine r_aloadn dX5_sheet_58 rfl (by decide) ?_
              refine r_getfr dX5_sheet_59 kf_RX5_49 rfl rfl ?_
              refine r_iloadn dX5_sheet_62 rfl ?_
              refine r_aaldL (j := k) dX5_sheet_63 rfl rfl (sh_ss (by omega)) (by omega) (Nat.le_of_ble_eq_true rfl) ?_
              refine r_iloadn dX5_sheet_64 rfl ?_
              refine r_iloadn dX5_sheet_65 rfl ?_
              refine r_if_ne 73 dX5_sheet_66 (fun h66 => ?_) (fun h66 => ?_)
              · refine r_iloadn dX5_sheet_73 rfl ?_
                refine c_V2v (μz := mX3_renew) dX5_sheet_74 kl_RX5_240 mv_X3_renew (sh_s hk) (ok_X3_renew hk) ?_
                refine r_aloadn dX5_sheet_77 rfl (by decide) ?_
                refine r_getfr dX5_sheet_78 kf_RX5_49 rfl rfl ?_
                refine r_iloadn dX5_sheet_81 rfl ?_
                refine r_aaldL (j := k) dX5_sheet_82 rfl rfl (sh_ss (by omega)) (by omega) (Nat.le_of_ble_eq_true rfl) ?_
                refine r_getfi dX5_sheet_83 kf_RX5_243 (sh_s hk) rfl ?_
                exact r_iret dX5_sheet_86 ⟨by unfold sp_sheet; rw [if_pos ⟨bi_1.mp h4, (Or.inr (Or.inr (Or.inl h20)))⟩, if_neg (Int32.not_lt.mpr h36), if_pos h49, ek]; show some (Value.int (k_fill _ _ _ _ _ _)) = some (Value.int (if _ then _ else _)); rw [if_neg h66]; unfold k_fill; rw [if_neg (by omega)]; simp [fp_wr], rfl, by unfold sp_sheet; rw [if_pos ⟨bi_1.mp h4, (Or.inr (Or.inr (Or.inl h20)))⟩, if_neg (Int32.not_lt.mpr h36), if_pos h49, ek]; show _ = k_renew M k b (if _ then _ else _); rw [if_neg h66]; rfl⟩
              · refine r_ic (0) dX5_sheet_69 ?_
                refine r_goto 74 dX5_sheet_70 ?_
                refine c_V2v (μz := mX3_renew) dX5_sheet_74 kl_RX5_240 mv_X3_renew (sh_s hk) (ok_X3_renew hk) ?_
                refine r_aloadn dX5_sheet_77 rfl (by decide) ?_
                refine r_getfr dX5_sheet_78 kf_RX5_49 rfl rfl ?_
                refine r_iloadn dX5_sheet_81 rfl ?_
                refine r_aaldL (j := k) dX5_sheet_82 rfl rfl (sh_ss (by omega)) (by omega) (Nat.le_of_ble_eq_true rfl) ?_
                refine r_getfi dX5_sheet_83 kf_RX5_243 (sh_s hk) rfl ?_
                exact r_iret dX5_sheet_86 ⟨by unfold sp_sheet; rw [if_pos ⟨bi_1.mp h4, (Or.inr (Or.inr (Or.inl h20)))⟩, if_neg (Int32.not_lt.mpr h36), if_pos h49, ek]; show some (Value.int (k_fill _ _ _ _ _ _)) = some (Value.int (if _ then _ else _)); rw [if_pos h66]; unfold k_fill; rw [if_neg (by omega)]; simp [fp_wr], rfl, by unfold sp_sheet; rw [if_pos ⟨bi_1.mp h4, (Or.inr (Or.inr (Or.inl h20)))⟩, if_neg (Int32.not_lt.mpr h36), if_pos h49, ek]; show _ = k_renew M k b (if _ then _ else _); rw [if_pos h66]; rfl⟩
            · refine r_aloadn dX5_sheet_52 rfl (by decide) ?_
              refine r_ic (0) dX5_sheet_53 ?_
              refine c_V1 (μz := mX5_finding) dX5_sheet_54 kl_RX5_73 mv_X5_finding rfl (ok_X5_finding (w := 0) rfl (by decide)) ?_
              exact r_iret dX5_sheet_57 ⟨by unfold sp_sheet; rw [if_pos ⟨bi_1.mp h4, (Or.inr (Or.inr (Or.inl h20)))⟩, if_neg (Int32.not_lt.mpr h36), if_neg h49], rfl, by unfold sp_sheet; rw [if_pos ⟨bi_1.mp h4, (Or.inr (Or.inr (Or.inl h20)))⟩, if_neg (Int32.not_lt.mpr h36), if_neg h49]⟩
          · refine r_aloadn dX5_sheet_39 rfl (by decide) ?_
            refine r_bp (6) dX5_sheet_40 ?_
            refine c_V1 (μz := mX5_finding) dX5_sheet_42 kl_RX5_73 mv_X5_finding rfl (ok_X5_finding (w := 6) rfl (by decide)) ?_
            exact r_iret dX5_sheet_45 ⟨by unfold sp_sheet; rw [if_pos ⟨bi_1.mp h4, (Or.inr (Or.inr (Or.inl h20)))⟩, if_pos (Int32.not_le.mp h36)], rfl, by unfold sp_sheet; rw [if_pos ⟨bi_1.mp h4, (Or.inr (Or.inr (Or.inl h20)))⟩, if_pos (Int32.not_le.mp h36)]⟩
        · refine r_iloadn dX5_sheet_23 rfl ?_
          refine r_bp (32) dX5_sheet_24 ?_
          refine r_icmp_eq 35 dX5_sheet_26 (fun h26 => ?_) (fun h26 => ?_)
          · refine r_iloadn dX5_sheet_35 rfl ?_
            refine r_if_ge 46 dX5_sheet_36 (fun h36 => ?_) (fun h36 => ?_)
            · refine r_iloadn dX5_sheet_46 rfl ?_
              refine r_bp (40) dX5_sheet_47 ?_
              refine r_icmp_le 58 dX5_sheet_49 (fun h49 => ?_) (fun h49 => ?_)
              · obtain ⟨k, hk, rfl⟩ := k_sh (bi_1.mp h4)
                have ek : k_v (nI k) = k := nI_clamp (by omega)
                have eo : k_so (nI k) = 41 + 2 * k := by show 41 + 2 * (nI k).toNatClampNeg = _; rw [nI_clamp (by omega)]
                have es : k_sn (nI k) = 42 + 2 * k := by show 42 + 2 * (nI k).toNatClampNeg = _; rw [nI_clamp (by omega)]
                refine r_aloadn dX5_sheet_58 rfl (by decide) ?_
                refine r_getfr dX5_sheet_59 kf_RX5_49 rfl rfl ?_
                refine r_iloadn dX5_sheet_62 rfl ?_
                refine r_aaldL (j := k) dX5_sheet_63 rfl rfl (sh_ss (by omega)) (by omega) (Nat.le_of_ble_eq_true rfl) ?_
                refine r_iloadn dX5_sheet_64 rfl ?_
                refine r_iloadn dX5_sheet_65 rfl ?_
                refine r_if_ne 73 dX5_sheet_66 (fun h66 => ?_) (fun h66 => ?_)
                · refine r_iloadn dX5_sheet_73 rfl ?_
                  refine c_V2v (μz := mX3_renew) dX5_sheet_74 kl_RX5_240 mv_X3_renew (sh_s hk) (ok_X3_renew hk) ?_
                  refine r_aloadn dX5_sheet_77 rfl (by decide) ?_
                  refine r_getfr dX5_sheet_78 kf_RX5_49 rfl rfl ?_
                  refine r_iloadn dX5_sheet_81 rfl ?_
                  refine r_aaldL (j := k) dX5_sheet_82 rfl rfl (sh_ss (by omega)) (by omega) (Nat.le_of_ble_eq_true rfl) ?_
                  refine r_getfi dX5_sheet_83 kf_RX5_243 (sh_s hk) rfl ?_
                  exact r_iret dX5_sheet_86 ⟨by unfold sp_sheet; rw [if_pos ⟨bi_1.mp h4, (Or.inr (Or.inr (Or.inr h26)))⟩, if_neg (Int32.not_lt.mpr h36), if_pos h49, ek]; show some (Value.int (k_fill _ _ _ _ _ _)) = some (Value.int (if _ then _ else _)); rw [if_neg h66]; unfold k_fill; rw [if_neg (by omega)]; simp [fp_wr], rfl, by unfold sp_sheet; rw [if_pos ⟨bi_1.mp h4, (Or.inr (Or.inr (Or.inr h26)))⟩, if_neg (Int32.not_lt.mpr h36), if_pos h49, ek]; show _ = k_renew M k b (if _ then _ else _); rw [if_neg h66]; rfl⟩
                · refine r_ic (0) dX5_sheet_69 ?_
                  refine r_goto 74 dX5_sheet_70 ?_
                  refine c_V2v (μz := mX3_renew) dX5_sheet_74 kl_RX5_240 mv_X3_renew (sh_s hk) (ok_X3_renew hk) ?_
                  refine r_aloadn dX5_sheet_77 rfl (by decide) ?_
                  refine r_getfr dX5_sheet_78 kf_RX5_49 rfl rfl ?_
                  refine r_iloadn dX5_sheet_81 rfl ?_
                  refine r_aaldL (j := k) dX5_sheet_82 rfl rfl (sh_ss (by omega)) (by omega) (Nat.le_of_ble_eq_true rfl) ?_
                  refine r_getfi dX5_sheet_83 kf_RX5_243 (sh_s hk) rfl ?_
                  exact r_iret dX5_sheet_86 ⟨by unfold sp_sheet; rw [if_pos ⟨bi_1.mp h4, (Or.inr (Or.inr (Or.inr h26)))⟩, if_neg (Int32.not_lt.mpr h36), if_pos h49, ek]; show some (Value.int (k_fill _ _ _ _ _ _)) = some (Value.int (if _ then _ else _)); rw [if_pos h66]; unfold k_fill; rw [if_neg (by omega)]; simp [fp_wr], rfl, by unfold sp_sheet; rw [if_pos ⟨bi_1.mp h4, (Or.inr (Or.inr (Or.inr h26)))⟩, if_neg (Int32.not_lt.mpr h36), if_pos h49, ek]; show _ = k_renew M k b (if _ then _ else _); rw [if_pos h66]; rfl⟩
              · refine r_aloadn dX5_sheet_52 rfl (by decide) ?_
                refine r_ic (0) dX5_sheet_53 ?_
                refine c_V1 (μz := mX5_finding) dX5_sheet_54 kl_RX5_73 mv_X5_finding rfl (ok_X5_finding (w := 0) rfl (by decide)) ?_
                exact r_iret dX5_sheet_57 ⟨by unfold sp_sheet; rw [if_pos ⟨bi_1.mp h4, (Or.inr (Or.inr (Or.inr h26)))⟩, if_neg (Int32.not_lt.mpr h36), if_neg h49], rfl, by unfold sp_sheet; rw [if_pos ⟨bi_1.mp h4, (Or.inr (Or.inr (Or.inr h26)))⟩, if_neg (Int32.not_lt.mpr h36), if_neg h49]⟩
            · refine r_aloadn dX5_sheet_39 rfl (by decide) ?_
              refine r_bp (6) dX5_sheet_40 ?_
              refine c_V1 (μz := mX5_finding) dX5_sheet_42 kl_RX5_73 mv_X5_finding rfl (ok_X5_finding (w := 6) rfl (by decide)) ?_
              exact r_iret dX5_sheet_45 ⟨by unfold sp_sheet; rw [if_pos ⟨bi_1.mp h4, (Or.inr (Or.inr (Or.inr h26)))⟩, if_pos (Int32.not_le.mp h36)], rfl, by unfold sp_sheet; rw [if_pos ⟨bi_1.mp h4, (Or.inr (Or.inr (Or.inr h26)))⟩, if_pos (Int32.not_le.mp h36)]⟩
          · refine r_aloadn dX5_sheet_29 rfl (by decide) ?_
            refine r_ic (0) dX5_sheet_30 ?_
            refine c_V1 (μz := mX5_finding) dX5_sheet_31 kl_RX5_73 mv_X5_finding rfl (ok_X5_finding (w := 0) rfl (by decide)) ?_
            exact r_iret dX5_sheet_34 ⟨by unfold sp_sheet; rw [if_neg (fun q => q.2.elim h8 (fun q => q.elim h14 (fun q => q.elim h20 h26)))], rfl, by unfold sp_sheet; rw [if_neg (fun q => q.2.elim h8 (fun q => q.elim h14 (fun q => q.elim h20 h26)))]⟩
theorem ok_X5_sheetTrouble {X : fp_X} {M : fp_M} {s : Int32} : fp_Ev X mX5_sheetTrouble [.ref 0, .int s] fp_sh M (some (.int (k_st M s))) M := by
  refine fp_ok [some (.ref 0), some (.int s)] ?_
  refine r_iloadn dX5_sheetTrouble_0 rfl ?_
  refine c_S1 (μz := mX5_isSheet) dX5_sheetTrouble_1 kl_RX5_237 ms_X5_isSheet ok_X5_isSheet ?_
  refine r_if_ne 9 dX5_sheetTrouble_4 (fun h4 => ?_) (fun h4 => ?_)
  · obtain ⟨k, hk, rfl⟩ := k_sh (bi_1.mp h4)
    have ek : k_v (nI k) = k := nI_clamp (by omega)
    have eo : k_so (nI k) = 41 + 2 * k := by show 41 + 2 * (nI k).toNatClampNeg = _; rw [nI_clamp (by omega)]
    have es : k_sn (nI k) = 42 + 2 * k := by show 42 + 2 * (nI k).toNatClampNeg = _; rw [nI_clamp (by omega)]
    refine r_aloadn dX5_sheetTrouble_9 rfl (by decide) ?_
    refine r_getfr dX5_sheetTrouble_10 kf_RX5_49 rfl rfl ?_
    refine r_iloadn dX5_sheetTrouble_13 rfl ?_
    refine r_aaldL (j := k) dX5_sheetTrouble_14 rfl rfl (sh_ss (by omega)) (by omega) (Nat.le_of_ble_eq_true rfl) ?_
    refine c_V0 (μz := mX3_isMissing) dX5_sheetTrouble_15 kl_RX5_250 mv_X3_isMissing (sh_s hk) (ok_X3_isMissing hk) ?_
    refine r_if_eq 25 dX5_sheetTrouble_18 (fun h18 => ?_) (fun h18 => ?_)
    · refine r_ic (-1) dX5_sheetTrouble_25 ?_
      exact r_iret dX5_sheetTrouble_26 ⟨by unfold k_st; rw [if_pos (bi_1.mp h4), eo, if_neg (bi_0.mp h18)], rfl, rfl⟩
    · refine r_ic (5) dX5_sheetTrouble_21 ?_
      refine r_goto 26 dX5_sheetTrouble_22 ?_
      exact r_iret dX5_sheetTrouble_26 ⟨by unfold k_st; rw [if_pos (bi_1.mp h4), eo, if_pos (bi_1.mp h18)], rfl, rfl⟩
  · refine r_ic (0) dX5_sheetTrouble_7 ?_
    exact r_iret dX5_sheetTrouble_8 ⟨by unfold k_st; rw [if_neg (bi_0.mp h4)], rfl, rfl⟩
theorem k_st_v {M : fp_M} {s : Int32} (h : ¬ k_st M s = -1) : ∃ w, w < 7 ∧ k_st M s = nI w := by
  unfold k_st at h ⊢
  split at h
  · rename_i h1
    rw [if_pos h1]
    split at h
    · rename_i h2
      rw [if_pos h2]
      exact ⟨5, by decide, rfl⟩
    · exact absurd rfl h
  · rename_i h1
    rw [if_neg h1]
    exact ⟨0, by decide, rfl⟩
theorem k_st_s {M : fp_M} {s : Int32} (h : k_st M s = -1) : v_sh s ∧ ¬ M (k_so s) 0 = 0 := by
  unfold k_st at h
  split at h
  · rename_i h1
    split at h
    · cases h
    · rename_i h2
      exact ⟨h1, h2⟩
  · cases h
theorem k_dec {j z : Nat} (hj : j < 2 ^ 31) (hz : z ≤ 40) (h : nI j ≤ nI z - 1) : j < 40 := by
  have t1 : (nI j).toInt = (j : Int) := nI_toInt hj
  rcases (show z = 0 ∨ 0 < z by omega) with rfl | h0
  · have t2 : (nI 0 - 1).toInt = -1 := by decide
    rw [Int32.le_iff_toInt_le, t1, t2] at h
    omega
  · obtain ⟨y, rfl⟩ : ∃ y, z = y + 1 := ⟨z - 1, by omega⟩
    rw [nI_pred] at h
    have := (nI_leI hj (by omega)).mp h
    omega
theorem ok_X5_write {X : fp_X} {M : fp_M} {s i v : Int32} (hz : ∀ k, k < 4 → ∃ z : Nat, z ≤ 40 ∧ M (41 + 2 * k) 1 = nI z): fp_Ev X mX5_write [.ref 0, .int s, .int i, .int v] fp_sh M (some (.int (sp_write M s i v).1)) (sp_write M s i v).2 := by
  refine fp_ok [some (.ref 0), some (.int s), some (.int i), some (.int v), none] ?_
  refine r_aloadn dX5_write_0 rfl (by decide) ?_
  refine r_iloadn dX5_write_1 rfl ?_
  refine c_V1 (μz := mX5_sheetTrouble) dX5_write_2 kl_RX5_244 mv_X5_sheetTrouble rfl ok_X5_sheetTrouble ?_
  refine r_istore4 dX5_write_5 ?_
  refine r_iload dX5_write_7 rfl ?_
  refine r_ic (-1) dX5_write_9 ?_
  refine r_icmp_eq 20 dX5_write_10 (fun h10 => ?_) (fun h10 => ?_)
  · obtain ⟨k, hk, rfl⟩ := k_sh (k_st_s h10).1
    have ek : k_v (nI k) = k := nI_clamp (by omega)
    have eo : k_so (nI k) = 41 + 2 * k := by show 41 + 2 * (nI k).toNatClampNeg = _; rw [nI_clamp (by omega)]
    have es : k_sn (nI k) = 42 + 2 * k := by show 42 + 2 * (nI k).toNatClampNeg = _; rw [nI_clamp (by omega)]
    refine r_iloadn dX5_write_20 rfl ?_
    refine r_ic (0) dX5_write_21 ?_
    refine r_aloadn dX5_write_22 rfl (by decide) ?_
    refine r_getfr dX5_write_23 kf_RX5_49 rfl rfl ?_
    refine r_iloadn dX5_write_26 rfl ?_
    refine r_aaldL (j := k) dX5_write_27 rfl rfl (sh_ss (by omega)) (by omega) (Nat.le_of_ble_eq_true rfl) ?_
    refine r_getfi dX5_write_28 kf_RX5_243 (sh_s hk) rfl ?_
    refine r_ic (1) dX5_write_31 ?_
    refine r_isub dX5_write_32 ?_
    refine c_S3 (μz := mX5_within) dX5_write_33 kl_RX5_69 ms_X5_within ok_X5_within ?_
    refine r_if_ne 45 dX5_write_36 (fun h36 => ?_) (fun h36 => ?_)
    · obtain ⟨z, hz40, hz1⟩ := hz k hk
      obtain ⟨j, hj31, rfl⟩ := nI_of (Int32.not_lt.mpr (bi_1.mp h36).1)
      have hj : j < 40 := k_dec hj31 hz40 (by have h2 := (bi_1.mp h36).2; rw [hz1] at h2; exact h2)
      have ej : k_v (nI j) = j := nI_clamp (by omega)
      refine r_aloadn dX5_write_45 rfl (by decide) ?_
      refine r_getfr dX5_write_46 kf_RX5_49 rfl rfl ?_
      refine r_iloadn dX5_write_49 rfl ?_
      refine r_aaldL (j := k) dX5_write_50 rfl rfl (sh_ss (by omega)) (by omega) (Nat.le_of_ble_eq_true rfl) ?_
      refine r_iloadn dX5_write_51 rfl ?_
      refine r_iloadn dX5_write_52 rfl ?_
      refine c_V2v (μz := mX3_put) dX5_write_53 kl_RX5_247 mv_X3_put (sh_s hk) (ok_X3_put hk hj) ?_
      refine r_ic (1) dX5_write_56 ?_
      exact r_iret dX5_write_57 ⟨by unfold sp_write; simp only [eo, es, ej]; rw [if_pos h10, if_pos (bi_1.mp h36)], rfl, by unfold sp_write; simp only [eo, es, ej]; rw [if_pos h10, if_pos (bi_1.mp h36)]⟩
    · refine r_aloadn dX5_write_39 rfl (by decide) ?_
      refine r_ic (0) dX5_write_40 ?_
      refine c_V1 (μz := mX5_finding) dX5_write_41 kl_RX5_73 mv_X5_finding rfl (ok_X5_finding (w := 0) rfl (by decide)) ?_
      exact r_iret dX5_write_44 ⟨by unfold sp_write; simp only [eo, es]; rw [if_pos h10, if_neg (bi_0.mp h36)], rfl, by unfold sp_write; simp only [eo, es]; rw [if_pos h10, if_neg (bi_0.mp h36)]⟩
  · obtain ⟨w, hw7, hw⟩ := k_st_v h10
    have ew : k_v (k_st M s) = w := by rw [hw]; exact nI_clamp (by omega)
    refine r_aloadn dX5_write_13 rfl (by decide) ?_
    refine r_iload dX5_write_14 rfl ?_
    refine c_V1 (μz := mX5_finding) dX5_write_16 kl_RX5_73 mv_X5_finding rfl (ok_X5_finding hw hw7) ?_
    exact r_iret dX5_write_19 ⟨by unfold sp_write; rw [if_neg h10, ew], rfl, by unfold sp_write; rw [if_neg h10, ew]⟩
theorem k_sum {a b s : Int32} {z : Nat} (hz : z ≤ 40) (hs : s = nI z) (h : 0 ≤ a ∧ 0 ≤ b ∧ b ≤ s ∧ a ≤ s - b) : a.toNatClampNeg + b.toNatClampNeg ≤ 40 ∧ ¬ a < 0 ∧ ¬ b < 0 := by
  subst hs
  obtain ⟨x, hx, rfl⟩ := nI_of (Int32.not_lt.mpr h.1)
  obtain ⟨y, hy, rfl⟩ := nI_of (Int32.not_lt.mpr h.2.1)
  have h1 : y ≤ z := (nI_leI hy (by omega)).mp h.2.2.1
  have h2 := h.2.2.2
  rw [pk_sub h1] at h2
  have h3 : x ≤ z - y := (nI_leI hx (by omega)).mp h2
  rw [nI_clamp hx, nI_clamp hy]
  exact ⟨by omega, Int32.not_lt.mpr h.1, Int32.not_lt.mpr h.2.1⟩
theorem ok_X5_copy {X : fp_X} {M : fp_M} {s f t g n : Int32} (hz : ∀ k, k < 4 → ∃ z : Nat, z ≤ 40 ∧ M (41 + 2 * k) 1 = nI z): fp_Ev X mX5_copy [.ref 0, .int s, .int f, .int t, .int g, .int n] fp_sh M (some (.int (sp_copy M s f t g n).1)) (sp_copy M s f t g n).2 := by
  refine fp_ok [some (.ref 0), some (.int s), some (.int f), some (.int t), some (.int g), some (.int n)] ?_
  refine r_iloadn dX5_copy_0 rfl ?_
  refine c_S1 (μz := mX5_isSheet) dX5_copy_1 kl_RX5_237 ms_X5_isSheet ok_X5_isSheet ?_
  refine r_if_eq 14 dX5_copy_4 (fun h4 => ?_) (fun h4 => ?_)
  · refine r_aloadn dX5_copy_14 rfl (by decide) ?_
    refine r_ic (0) dX5_copy_15 ?_
    refine c_V1 (μz := mX5_finding) dX5_copy_16 kl_RX5_73 mv_X5_finding rfl (ok_X5_finding (w := 0) rfl (by decide)) ?_
    exact r_iret dX5_copy_19 ⟨by unfold sp_copy; rw [if_neg (fun q => bi_0.mp h4 q.1)], rfl, by unfold sp_copy; rw [if_neg (fun q => bi_0.mp h4 q.1)]⟩
  · refine r_iloadn dX5_copy_7 rfl ?_
    refine c_S1 (μz := mX5_isSheet) dX5_copy_8 kl_RX5_237 ms_X5_isSheet ok_X5_isSheet ?_
    refine r_if_ne 20 dX5_copy_11 (fun h11 => ?_) (fun h11 => ?_)
    · obtain ⟨k, hk, rfl⟩ := k_sh (bi_1.mp h4)
      have ek : k_v (nI k) = k := nI_clamp (by omega)
      obtain ⟨m, hm, rfl⟩ := k_sh (bi_1.mp h11)
      have em : k_v (nI m) = m := nI_clamp (by omega)
      have eo : k_so (nI k) = 41 + 2 * k := by show 41 + 2 * (nI k).toNatClampNeg = _; rw [nI_clamp (by omega)]
      have es : k_sn (nI k) = 42 + 2 * k := by show 42 + 2 * (nI k).toNatClampNeg = _; rw [nI_clamp (by omega)]
      have eo2 : k_so (nI m) = 41 + 2 * m := by show 41 + 2 * (nI m).toNatClampNeg = _; rw [nI_clamp (by omega)]
      have es2 : k_sn (nI m) = 42 + 2 * m := by show 42 + 2 * (nI m).toNatClampNeg = _; rw [nI_clamp (by omega)]
      refine r_aloadn dX5_copy_20 rfl (by decide) ?_
      refine r_getfr dX5_copy_21 kf_RX5_49 rfl rfl ?_
      refine r_iloadn dX5_copy_24 rfl ?_
      refine r_aaldL (j := k) dX5_copy_25 rfl rfl (sh_ss (by omega)) (by omega) (Nat.le_of_ble_eq_true rfl) ?_
      refine c_V0 (μz := mX3_isMissing) dX5_copy_26 kl_RX5_250 mv_X3_isMissing (sh_s hk) (ok_X3_isMissing hk) ?_
      refine r_if_ne 44 dX5_copy_29 (fun h29 => ?_) (fun h29 => ?_)
      · refine r_aloadn dX5_copy_44 rfl (by decide) ?_
        refine r_ic (5) dX5_copy_45 ?_
        refine c_V1 (μz := mX5_finding) dX5_copy_46 kl_RX5_73 mv_X5_finding rfl (ok_X5_finding (w := 5) rfl (by decide)) ?_
        exact r_iret dX5_copy_49 ⟨by unfold sp_copy; simp only [v_run, eo, es, eo2, es2]; rw [if_pos ⟨bi_1.mp h4, bi_1.mp h11⟩, if_pos (Or.inl (bi_1.mp h29))], rfl, by unfold sp_copy; simp only [v_run, eo, es, eo2, es2]; rw [if_pos ⟨bi_1.mp h4, bi_1.mp h11⟩, if_pos (Or.inl (bi_1.mp h29))]⟩
      · refine r_aloadn dX5_copy_32 rfl (by decide) ?_
        refine r_getfr dX5_copy_33 kf_RX5_49 rfl rfl ?_
        refine r_iloadn dX5_copy_36 rfl ?_
        refine r_aaldL (j := m) dX5_copy_37 rfl rfl (sh_ss (by omega)) (by omega) (Nat.le_of_ble_eq_true rfl) ?_
        refine c_V0 (μz := mX3_isMissing) dX5_copy_38 kl_RX5_250 mv_X3_isMissing (sh_s hm) (ok_X3_isMissing hm) ?_
        refine r_if_eq 50 dX5_copy_41 (fun h41 => ?_) (fun h41 => ?_)
        · refine r_aloadn dX5_copy_50 rfl (by decide) ?_
          refine r_getfr dX5_copy_51 kf_RX5_49 rfl rfl ?_
          refine r_iloadn dX5_copy_54 rfl ?_
          refine r_aaldL (j := k) dX5_copy_55 rfl rfl (sh_ss (by omega)) (by omega) (Nat.le_of_ble_eq_true rfl) ?_
          refine r_getfi dX5_copy_56 kf_RX5_253 (sh_s hk) rfl ?_
          refine r_aloadn dX5_copy_59 rfl (by decide) ?_
          refine r_getfr dX5_copy_60 kf_RX5_49 rfl rfl ?_
          refine r_iloadn dX5_copy_63 rfl ?_
          refine r_aaldL (j := m) dX5_copy_64 rfl rfl (sh_ss (by omega)) (by omega) (Nat.le_of_ble_eq_true rfl) ?_
          refine r_getfi dX5_copy_65 kf_RX5_253 (sh_s hm) rfl ?_
          refine r_icmp_eq 77 dX5_copy_68 (fun h68 => ?_) (fun h68 => ?_)
          · refine r_aloadn dX5_copy_77 rfl (by decide) ?_
            refine r_getfr dX5_copy_78 kf_RX5_49 rfl rfl ?_
            refine r_iloadn dX5_copy_81 rfl ?_
            refine r_aaldL (j := k) dX5_copy_82 rfl rfl (sh_ss (by omega)) (by omega) (Nat.le_of_ble_eq_true rfl) ?_
            refine r_iloadn dX5_copy_83 rfl ?_
            refine r_iload dX5_copy_84 rfl ?_
            refine c_V2 (μz := mX3_hasRun) dX5_copy_86 kl_RX5_256 mv_X3_hasRun (sh_s hk) (ok_X3_hasRun hk) ?_
            refine r_if_eq 108 dX5_copy_89 (fun h89 => ?_) (fun h89 => ?_)
            · refine r_aloadn dX5_copy_108 rfl (by decide) ?_
              refine r_ic (0) dX5_copy_109 ?_
              refine c_V1 (μz := mX5_finding) dX5_copy_110 kl_RX5_73 mv_X5_finding rfl (ok_X5_finding (w := 0) rfl (by decide)) ?_
              exact r_iret dX5_copy_113 ⟨by unfold sp_copy; simp only [v_run, eo, es, eo2, es2]; rw [if_pos ⟨bi_1.mp h4, bi_1.mp h11⟩, if_neg (fun q => q.elim (bi_0.mp h29) (bi_0.mp h41)), if_pos h68, if_neg (fun q => bi_0.mp h89 q.1)], rfl, by unfold sp_copy; simp only [v_run, eo, es, eo2, es2]; rw [if_pos ⟨bi_1.mp h4, bi_1.mp h11⟩, if_neg (fun q => q.elim (bi_0.mp h29) (bi_0.mp h41)), if_pos h68, if_neg (fun q => bi_0.mp h89 q.1)]⟩
            · refine r_aloadn dX5_copy_92 rfl (by decide) ?_
              refine r_getfr dX5_copy_93 kf_RX5_49 rfl rfl ?_
              refine r_iloadn dX5_copy_96 rfl ?_
              refine r_aaldL (j := m) dX5_copy_97 rfl rfl (sh_ss (by omega)) (by omega) (Nat.le_of_ble_eq_true rfl) ?_
              refine r_iload dX5_copy_98 rfl ?_
              refine r_iload dX5_copy_100 rfl ?_
              refine c_V2 (μz := mX3_hasRun) dX5_copy_102 kl_RX5_256 mv_X3_hasRun (sh_s hm) (ok_X3_hasRun hm) ?_
              refine r_if_ne 114 dX5_copy_105 (fun h105 => ?_) (fun h105 => ?_)
              · obtain ⟨z, hz40, hz1⟩ := hz k hk
                obtain ⟨y, hy40, hy1⟩ := hz m hm
                have s1 := k_sum hz40 hz1 (bi_1.mp h89)
                have s2 := k_sum hy40 hy1 (bi_1.mp h105)
                refine r_aloadn dX5_copy_114 rfl (by decide) ?_
                refine r_getfr dX5_copy_115 kf_RX5_49 rfl rfl ?_
                refine r_iloadn dX5_copy_118 rfl ?_
                refine r_aaldL (j := k) dX5_copy_119 rfl rfl (sh_ss (by omega)) (by omega) (Nat.le_of_ble_eq_true rfl) ?_
                refine r_getfr dX5_copy_120 kf_RX5_259 (sh_s hk) rfl ?_ (by omega)
                refine r_iloadn dX5_copy_123 rfl ?_
                refine r_aloadn dX5_copy_124 rfl (by decide) ?_
                refine r_getfr dX5_copy_125 kf_RX5_49 rfl rfl ?_
                refine r_iloadn dX5_copy_128 rfl ?_
                refine r_aaldL (j := m) dX5_copy_129 rfl rfl (sh_ss (by omega)) (by omega) (Nat.le_of_ble_eq_true rfl) ?_
                refine r_getfr dX5_copy_130 kf_RX5_259 (sh_s hm) rfl ?_ (by omega)
                refine r_iload dX5_copy_133 rfl ?_
                refine r_iload dX5_copy_135 rfl ?_
                refine r_acopy dX5_copy_137 kl_RX5_262 wn_acopy ws_acopy wi_RJ10 (sh_n hk) (sh_n hm) s1.2.1 s2.2.1 s1.2.2 s1.1 s2.1 (by decide) (by decide) ?_
                refine r_iload dX5_copy_140 rfl ?_
                exact r_iret dX5_copy_142 ⟨by unfold sp_copy; simp only [v_run, eo, es, eo2, es2]; rw [if_pos ⟨bi_1.mp h4, bi_1.mp h11⟩, if_neg (fun q => q.elim (bi_0.mp h29) (bi_0.mp h41)), if_pos h68, if_pos ⟨bi_1.mp h89, bi_1.mp h105⟩], rfl, by unfold sp_copy; simp only [v_run, eo, es, eo2, es2]; rw [if_pos ⟨bi_1.mp h4, bi_1.mp h11⟩, if_neg (fun q => q.elim (bi_0.mp h29) (bi_0.mp h41)), if_pos h68, if_pos ⟨bi_1.mp h89, bi_1.mp h105⟩]⟩
              · refine r_aloadn dX5_copy_108 rfl (by decide) ?_
                refine r_ic (0) dX5_copy_109 ?_
                refine c_V1 (μz := mX5_finding) dX5_copy_110 kl_RX5_73 mv_X5_finding rfl (ok_X5_finding (w := 0) rfl (by decide)) ?_
                exact r_iret dX5_copy_113 ⟨by unfold sp_copy; simp only [v_run, eo, es, eo2, es2]; rw [if_pos ⟨bi_1.mp h4, bi_1.mp h11⟩, if_neg (fun q => q.elim (bi_0.mp h29) (bi_0.mp h41)), if_pos h68, if_neg (fun q => bi_0.mp h105 q.2)], rfl, by unfold sp_copy; simp only [v_run, eo, es, eo2, es2]; rw [if_pos ⟨bi_1.mp h4, bi_1.mp h11⟩, if_neg (fun q => q.elim (bi_0.mp h29) (bi_0.mp h41)), if_pos h68, if_neg (fun q => bi_0.mp h105 q.2)]⟩
          · refine r_aloadn dX5_copy_71 rfl (by decide) ?_
            refine r_ic (2) dX5_copy_72 ?_
            refine c_V1 (μz := mX5_finding) dX5_copy_73 kl_RX5_73 mv_X5_finding rfl (ok_X5_finding (w := 2) rfl (by decide)) ?_
            exact r_iret dX5_copy_76 ⟨by unfold sp_copy; simp only [v_run, eo, es, eo2, es2]; rw [if_pos ⟨bi_1.mp h4, bi_1.mp h11⟩, if_neg (fun q => q.elim (bi_0.mp h29) (bi_0.mp h41)), if_neg h68], rfl, by unfold sp_copy; simp only [v_run, eo, es, eo2, es2]; rw [if_pos ⟨bi_1.mp h4, bi_1.mp h11⟩, if_neg (fun q => q.elim (bi_0.mp h29) (bi_0.mp h41)), if_neg h68]⟩
        · refine r_aloadn dX5_copy_44 rfl (by decide) ?_
          refine r_ic (5) dX5_copy_45 ?_
          refine c_V1 (μz := mX5_finding) dX5_copy_46 kl_RX5_73 mv_X5_finding rfl (ok_X5_finding (w := 5) rfl (by decide)) ?_
          exact r_iret dX5_copy_49 ⟨by unfold sp_copy; simp only [v_run, eo, es, eo2, es2]; rw [if_pos ⟨bi_1.mp h4, bi_1.mp h11⟩, if_pos (Or.inr (bi_1.mp h41))], rfl, by unfold sp_copy; simp only [v_run, eo, es, eo2, es2]; rw [if_pos ⟨bi_1.mp h4, bi_1.mp h11⟩, if_pos (Or.inr (bi_1.mp h41))]⟩
    · refine r_aloadn dX5_copy_14 rfl (by decide) ?_
      refine r_ic (0) dX5_copy_15 ?_
      refine c_V1 (μz := mX5_finding) dX5_copy_16 kl_RX5_73 mv_X5_finding rfl (ok_X5_finding (w := 0) rfl (by decide)) ?_
      exact r_iret dX5_copy_19 ⟨by unfold sp_copy; rw [if_neg (fun q => bi_0.mp h11 q.2)], rfl, by unfold sp_copy; rw [if_neg (fun q => bi_0.mp h11 q.2)]⟩
theorem ok_X5_count {X : fp_X} {M : fp_M} {c : Nat} {w : Int32} (hw : k_wf M 1 c): fp_Ev X mX5_count [.ref 0, .int w] fp_sh M (some (.int (sp_count M c w).1)) (sp_count M c w).2 := by
  refine fp_ok [some (.ref 0), some (.int w)] ?_
  refine r_iloadn dX5_count_0 rfl ?_
  refine r_tsw [(0, 48), (1, 56), (2, 64), (3, 72), (4, 83), (5, 91), (6, 99), (7, 107)] 115 dX5_count_1 (And.intro (fun h1 => ?_) (And.intro (fun h1 => ?_) (And.intro (fun h1 => ?_) (And.intro (fun h1 => ?_) (And.intro (fun h1 => ?_) (And.intro (fun h1 => ?_) (And.intro (fun h1 => ?_) (And.intro (fun h1 => ?_) (trivial))))))))) (fun h1 => ?_)
  · refine r_aloadn dX5_count_48 rfl (by decide) ?_
    refine r_getfr dX5_count_49 kf_RX5_10 rfl rfl ?_
    refine r_getfi dX5_count_52 kf_RX5_107 rfl rfl ?_
    exact r_iret dX5_count_55 ⟨by unfold sp_count; rw [if_pos h1], rfl, by unfold sp_count; rw [if_pos h1]⟩
  · refine r_aloadn dX5_count_56 rfl (by decide) ?_
    refine r_getfr dX5_count_57 kf_RX5_10 rfl rfl ?_
    refine r_getfi dX5_count_60 kf_RX5_77 rfl rfl ?_
    exact r_iret dX5_count_63 ⟨by unfold sp_count; rw [if_neg (by rw [h1]; decide), if_pos h1], rfl, by unfold sp_count; rw [if_neg (by rw [h1]; decide), if_pos h1]⟩
  · refine r_aloadn dX5_count_64 rfl (by decide) ?_
    refine c_V0 (μz := mX5_counting) dX5_count_65 kl_RX5_126 mv_X5_counting rfl (ok_X5_counting hw) ?_
    refine c_S1 (μz := mJ6_bitCount_0f7a4) dX5_count_68 kl_RX5_171 ms_J6_bitCount_0f7a4 ok_J6_bitCount_0f7a4 ?_
    exact r_iret dX5_count_71 ⟨by unfold sp_count; rw [if_neg (by rw [h1]; decide), if_neg (by rw [h1]; decide), if_pos h1], rfl, by unfold sp_count; rw [if_neg (by rw [h1]; decide), if_neg (by rw [h1]; decide), if_pos h1]⟩
  · refine r_aloadn dX5_count_72 rfl (by decide) ?_
    refine r_getfr dX5_count_73 kf_RX5_10 rfl rfl ?_
    refine c_V0 (μz := mX2_struckOnes) dX5_count_76 kl_RX5_133 mv_X2_struckOnes rfl (ok_X2_struckOnes fp_of_1 hw.2.1 hw.1 (fun i hi => (hw.2.2 i hi).choose_spec.choose_spec.2.2.2.2)) ?_
    refine c_S1 (μz := mJ6_bitCount_0f7a4) dX5_count_79 kl_RX5_171 ms_J6_bitCount_0f7a4 ok_J6_bitCount_0f7a4 ?_
    exact r_iret dX5_count_82 ⟨by unfold sp_count; rw [if_neg (by rw [h1]; decide), if_neg (by rw [h1]; decide), if_neg (by rw [h1]; decide), if_pos h1], rfl, by unfold sp_count; rw [if_neg (by rw [h1]; decide), if_neg (by rw [h1]; decide), if_neg (by rw [h1]; decide), if_pos h1]⟩
  · refine r_aloadn dX5_count_83 rfl (by decide) ?_
    refine r_getfr dX5_count_84 kf_RX5_10 rfl rfl ?_
    refine c_V0 (μz := mX2_allDays) dX5_count_87 kl_RX5_278 mv_X2_allDays rfl (ok_X2_allDays fp_of_1 hw.2.1 hw.1) ?_
    exact r_iret dX5_count_90 ⟨by unfold sp_count; rw [if_neg (by rw [h1]; decide), if_neg (by rw [h1]; decide), if_neg (by rw [h1]; decide), if_neg (by rw [h1]; decide), if_pos h1], rfl, by unfold sp_count; rw [if_neg (by rw [h1]; decide), if_neg (by rw [h1]; decide), if_neg (by rw [h1]; decide), if_neg (by rw [h1]; decide), if_pos h1]⟩
  · refine r_aloadn dX5_count_91 rfl (by decide) ?_
    refine r_getfr dX5_count_92 kf_RX5_43 rfl rfl ?_
    refine r_getfi dX5_count_95 kf_RX5_217 rfl rfl ?_
    exact r_iret dX5_count_98 ⟨by unfold sp_count; rw [if_neg (by rw [h1]; decide), if_neg (by rw [h1]; decide), if_neg (by rw [h1]; decide), if_neg (by rw [h1]; decide), if_neg (by rw [h1]; decide), if_pos h1], rfl, by unfold sp_count; rw [if_neg (by rw [h1]; decide), if_neg (by rw [h1]; decide), if_neg (by rw [h1]; decide), if_neg (by rw [h1]; decide), if_neg (by rw [h1]; decide), if_pos h1]⟩
  · refine r_aloadn dX5_count_99 rfl (by decide) ?_
    refine r_getfr dX5_count_100 kf_RX5_10 rfl rfl ?_
    refine r_getfi dX5_count_103 kf_RX5_214 rfl rfl ?_
    exact r_iret dX5_count_106 ⟨by unfold sp_count; rw [if_neg (by rw [h1]; decide), if_neg (by rw [h1]; decide), if_neg (by rw [h1]; decide), if_neg (by rw [h1]; decide), if_neg (by rw [h1]; decide), if_neg (by rw [h1]; decide), if_pos h1], rfl, by unfold sp_count; rw [if_neg (by rw [h1]; decide), if_neg (by rw [h1]; decide), if_neg (by rw [h1]; decide), if_neg (by rw [h1]; decide), if_neg (by rw [h1]; decide), if_neg (by rw [h1]; decide), if_pos h1]⟩
  · refine r_aloadn dX5_count_107 rfl (by decide) ?_
    refine r_getfr dX5_count_108 kf_RX5_10 rfl rfl ?_
    refine c_V0 (μz := mX2_heldSpots) dX5_count_111 kl_RX5_281 mv_X2_heldSpots rfl (ok_X2_heldSpots fp_of_1) ?_
    exact r_iret dX5_count_114 ⟨by unfold sp_count; rw [if_neg (by rw [h1]; decide), if_neg (by rw [h1]; decide), if_neg (by rw [h1]; decide), if_neg (by rw [h1]; decide), if_neg (by rw [h1]; decide), if_neg (by rw [h1]; decide), if_neg (by rw [h1]; decide), if_pos h1], rfl, by unfold sp_count; rw [if_neg (by rw [h1]; decide), if_neg (by rw [h1]; decide), if_neg (by rw [h1]; decide), if_neg (by rw [h1]; decide), if_neg (by rw [h1]; decide), if_neg (by rw [h1]; decide), if_neg (by rw [h1]; decide), if_pos h1]⟩
  · refine r_aloadn dX5_count_115 rfl (by decide) ?_
    refine r_ic (0) dX5_count_116 ?_
    refine c_V1 (μz := mX5_finding) dX5_count_117 kl_RX5_73 mv_X5_finding rfl (ok_X5_finding (w := 0) rfl (by decide)) ?_
    exact r_iret dX5_count_120 ⟨by unfold sp_count; rw [if_neg h1.1, if_neg h1.2.1, if_neg h1.2.2.1, if_neg h1.2.2.2.1, if_neg h1.2.2.2.2.1, if_neg h1.2.2.2.2.2.1, if_neg h1.2.2.2.2.2.2.1, if_neg h1.2.2.2.2.2.2.2.1], rfl, by unfold sp_count; rw [if_neg h1.1, if_neg h1.2.1, if_neg h1.2.2.1, if_neg h1.2.2.2.1, if_neg h1.2.2.2.2.1, if_neg h1.2.2.2.2.2.1, if_neg h1.2.2.2.2.2.2.1, if_neg h1.2.2.2.2.2.2.2.1]⟩
theorem lp_X5_status {X : fp_X} {M : fp_M} {v : Int32} : ∀ (n i : Nat), i + n = 7 → ∀ (s : Int32), fp_W X mX5_status 31 [some (.ref 0), some (.int v), some (.int s), some (.int (nI i))] [] fp_sh M 0 0 (fun r sh m => r = some (.int (k_it (fun i s => s + M 40 i) n i s)) ∧ sh = fp_sh ∧ m = M) := by
  intro n
  induction n with
  | zero =>
    intro i hi s 
    have ti : (nI i).toInt = (i : Int) := nI_toInt (by omega)
    refine r_iloadn dX5_status_31 rfl ?_
    refine r_bp (7) dX5_status_32 ?_
    refine r_icmp_ge 52 dX5_status_34 (fun h34 => ?_) (fun h34 => ?_)
    · refine r_iloadn dX5_status_52 rfl ?_
      exact r_iret dX5_status_53 ⟨rfl, rfl, rfl⟩
    · exfalso; simp only [Int32.le_iff_toInt_le, Int32.lt_iff_toInt_lt, Int32.reduceToInt] at h34; omega
  | succ n ih =>
    intro i hi s 
    have ti : (nI i).toInt = (i : Int) := nI_toInt (by omega)
    refine r_iloadn dX5_status_31 rfl ?_
    refine r_bp (7) dX5_status_32 ?_
    refine r_icmp_ge 52 dX5_status_34 (fun h34 => ?_) (fun h34 => ?_)
    · exfalso; simp only [Int32.le_iff_toInt_le, Int32.lt_iff_toInt_lt, Int32.reduceToInt] at h34; omega
    · refine r_iloadn dX5_status_37 rfl ?_
      refine r_aloadn dX5_status_38 rfl (by decide) ?_
      refine r_getfr dX5_status_39 kf_RX5_53 rfl rfl ?_
      refine r_iloadn dX5_status_42 rfl ?_
      refine r_ialdL (j := i) dX5_status_43 rfl rfl ⟨by omega, by decide⟩ ?_
      refine r_iadd dX5_status_44 ?_
      refine r_istore2 dX5_status_45 ?_
      refine r_iinc3 (1) dX5_status_46 ?_
      refine r_goto 31 dX5_status_49 ?_
      rw [nI_1]
      exact ih (i + 1) (by omega) _

theorem ok_X5_status {X : fp_X} {M : fp_M} {w : Int32} : fp_Ev X mX5_status [.ref 0, .int w] fp_sh M (some (.int (sp_status M w).1)) (sp_status M w).2 := by
  refine fp_ok [some (.ref 0), some (.int w), none, none] ?_
  refine r_iloadn dX5_status_0 rfl ?_
  refine r_ic (-1) dX5_status_1 ?_
  refine r_bp (6) dX5_status_2 ?_
  refine c_S3 (μz := mX5_within) dX5_status_4 kl_RX5_69 ms_X5_within ok_X5_within ?_
  refine r_if_ne 16 dX5_status_7 (fun h7 => ?_) (fun h7 => ?_)
  · refine r_iloadn dX5_status_16 rfl ?_
    refine r_if_lt 27 dX5_status_17 (fun h17 => ?_) (fun h17 => ?_)
    · refine r_ic (0) dX5_status_27 ?_
      refine r_istore2 dX5_status_28 ?_
      refine r_ic (0) dX5_status_29 ?_
      refine r_istore3 dX5_status_30 ?_
      have e := lp_X5_status (X := X) (M := M) (v := w) 7 0 (by omega) 0
      have e2 : sp_status M w = (k_all M, M) := by
        unfold sp_status
        rw [if_pos (bi_1.mp h7), if_pos h17]
      rw [e2]
      exact e
    · obtain ⟨x, hx, rfl⟩ := k_rng (N := 6) rfl ⟨Int32.not_lt.mp h17, (bi_1.mp h7).2⟩
      have ex : k_v (nI x) = x := nI_clamp (by omega)
      refine r_aloadn dX5_status_20 rfl (by decide) ?_
      refine r_getfr dX5_status_21 kf_RX5_53 rfl rfl ?_
      refine r_iloadn dX5_status_24 rfl ?_
      refine r_ialdL (j := x) dX5_status_25 rfl rfl ⟨by omega, by decide⟩ ?_
      exact r_iret dX5_status_26 ⟨by unfold sp_status; rw [if_pos (bi_1.mp h7)]; show _ = some (Value.int (if _ then _ else _)); rw [if_neg h17, ex], rfl, by unfold sp_status; rw [if_pos (bi_1.mp h7)]⟩
  · refine r_aloadn dX5_status_10 rfl (by decide) ?_
    refine r_ic (0) dX5_status_11 ?_
    refine c_V1 (μz := mX5_finding) dX5_status_12 kl_RX5_73 mv_X5_finding rfl (ok_X5_finding (w := 0) rfl (by decide)) ?_
    exact r_iret dX5_status_15 ⟨by unfold sp_status; rw [if_neg (bi_0.mp h7)], rfl, by unfold sp_status; rw [if_neg (bi_0.mp h7)]⟩
