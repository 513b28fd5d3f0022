/-! ===== the other one's reader: items ===== -/
theorem ok_X6_townsHere {X : fp_X} {M : fp_M} {z : Nat} (ht : g_tp M z): fp_Ev X mX6_townsHere [.ref 49] fp_sh M (some (.int (pg_towns M).1)) (pg_towns M).2 := by
  have t1 := g_nx_tp ht
  have t2 := pg_t2_tp ht
  have t3 := g_nx_tp t2
  refine fp_ok [some (.ref 49)] ?_
  refine r_aloadn dX6_townsHere_0 rfl (by decide) ?_
  refine c_V0v (μz := mX6_nextToken) dX6_townsHere_1 kl_RX6_213 mv_X6_nextToken rfl (ok_X6_next ht) ?_
  refine r_aloadn dX6_townsHere_4 rfl (by decide) ?_
  refine r_ic (0) dX6_townsHere_5 ?_
  refine r_bp (7) dX6_townsHere_6 ?_
  refine c_V2 (μz := mX6_isNumber) dX6_townsHere_8 kl_RX6_216 mv_X6_isNumber rfl ok_X6_isNumber ?_
  refine r_if_ne 16 dX6_townsHere_11 (fun h11 => ?_) (fun h11 => ?_)
  · rw [if_pos (bi_1.mp h11)]
    refine r_aloadn dX6_townsHere_16 rfl (by decide) ?_
    refine r_aloadn dX6_townsHere_17 rfl (by decide) ?_
    refine r_getfi dX6_townsHere_18 kf_RX6_186 rfl rfl ?_
    refine r_putfi dX6_townsHere_21 kf_RX6_219 rfl rfl ?_
    refine r_aloadn dX6_townsHere_24 rfl (by decide) ?_
    refine c_V0v (μz := mX6_nextToken) dX6_townsHere_25 kl_RX6_213 mv_X6_nextToken rfl (ok_X6_next t2) ?_
    refine r_aloadn dX6_townsHere_28 rfl (by decide) ?_
    refine r_ic (0) dX6_townsHere_29 ?_
    refine r_bp (7) dX6_townsHere_30 ?_
    refine c_V2 (μz := mX6_isNumber) dX6_townsHere_32 kl_RX6_216 mv_X6_isNumber rfl ok_X6_isNumber ?_
    refine r_if_eq 49 dX6_townsHere_35 (fun h35 => ?_) (fun h35 => ?_)
    · rw [if_neg (bi_0.mp h35)]
      refine r_aloadn dX6_townsHere_49 rfl (by decide) ?_
      refine c_V0 (μz := mX6_fails) dX6_townsHere_50 kl_RX6_199 mv_X6_fails rfl ok_X6_fails ?_
      exact r_iret dX6_townsHere_53 ⟨by unfold pg_towns; rw [if_pos (bi_1.mp h11), if_neg (bi_0.mp h35)], rfl, by unfold pg_towns; rw [if_pos (bi_1.mp h11), if_neg (bi_0.mp h35)]⟩
    · rw [if_pos (bi_1.mp h35)]
      refine r_aloadn dX6_townsHere_38 rfl (by decide) ?_
      refine r_getfi dX6_townsHere_39 kf_RX6_186 rfl rfl ?_
      refine r_aloadn dX6_townsHere_42 rfl (by decide) ?_
      refine r_getfi dX6_townsHere_43 kf_RX6_219 rfl rfl ?_
      refine r_icmp_ne 54 dX6_townsHere_46 (fun h46 => ?_) (fun h46 => ?_)
      · refine r_aloadn dX6_townsHere_54 rfl (by decide) ?_
        refine r_aloadn dX6_townsHere_55 rfl (by decide) ?_
        refine r_getfi dX6_townsHere_56 kf_RX6_186 rfl rfl ?_
        refine r_putfi dX6_townsHere_59 kf_RX6_222 rfl rfl ?_
        refine r_aloadn dX6_townsHere_62 rfl (by decide) ?_
        refine c_V0v (μz := mX6_nextToken) dX6_townsHere_63 kl_RX6_213 mv_X6_nextToken rfl (ok_X6_next (t3.wr (by decide) (by decide))) ?_
        refine r_ic (1) dX6_townsHere_66 ?_
        exact r_iret dX6_townsHere_67 ⟨by unfold pg_towns; rw [if_pos (bi_1.mp h11), if_pos (bi_1.mp h35), if_neg h46], rfl, by unfold pg_towns; rw [if_pos (bi_1.mp h11), if_pos (bi_1.mp h35), if_neg h46]⟩
      · refine r_aloadn dX6_townsHere_49 rfl (by decide) ?_
        refine c_V0 (μz := mX6_fails) dX6_townsHere_50 kl_RX6_199 mv_X6_fails rfl ok_X6_fails ?_
        exact r_iret dX6_townsHere_53 ⟨by unfold pg_towns; rw [if_pos (bi_1.mp h11), if_pos (bi_1.mp h35), if_pos h46], rfl, by unfold pg_towns; rw [if_pos (bi_1.mp h11), if_pos (bi_1.mp h35), if_pos h46]⟩
  · rw [if_neg (bi_0.mp h11)]
    refine r_ic (0) dX6_townsHere_14 ?_
    exact r_iret dX6_townsHere_15 ⟨by unfold pg_towns; rw [if_neg (bi_0.mp h11)], rfl, by unfold pg_towns; rw [if_neg (bi_0.mp h11)]⟩
theorem ok_X6_daysHere {X : fp_X} {M : fp_M} {z : Nat} (ht : g_tp M z): fp_Ev X mX6_daysHere [.ref 49] fp_sh M (some (.int (pg_days M).1)) (pg_days M).2 := by
  have t1 := g_nx_tp ht
  have t2 := pg_dm_tp ht
  refine fp_ok [some (.ref 49), none] ?_
  refine r_aloadn dX6_daysHere_0 rfl (by decide) ?_
  refine r_bp (100) dX6_daysHere_1 ?_
  refine r_bp (97) dX6_daysHere_3 ?_
  refine r_bp (121) dX6_daysHere_5 ?_
  refine r_bp (115) dX6_daysHere_7 ?_
  refine c_V4 (μz := mX6_isFour) dX6_daysHere_9 kl_RX6_210 mv_X6_isFour rfl (ok_X6_isFour (i := 9) ht rfl) ?_
  refine r_if_ne 20 dX6_daysHere_12 (fun h12 => ?_) (fun h12 => ?_)
  · refine r_aloadn dX6_daysHere_20 rfl (by decide) ?_
    refine c_V0v (μz := mX6_nextToken) dX6_daysHere_21 kl_RX6_213 mv_X6_nextToken rfl (ok_X6_next ht) ?_
    refine r_aloadn dX6_daysHere_24 rfl (by decide) ?_
    refine r_getfi dX6_daysHere_25 kf_RX6_183 rfl rfl ?_
    refine r_ic (5) dX6_daysHere_28 ?_
    refine r_icmp_ne 36 dX6_daysHere_29 (fun h29 => ?_) (fun h29 => ?_)
    · refine r_ic (0) dX6_daysHere_36 ?_
      refine r_istore1 dX6_daysHere_37 ?_
      refine r_iloadn dX6_daysHere_38 rfl ?_
      refine r_if_eq 46 dX6_daysHere_39 (fun h39 => ?_) (fun h39 => ?_)
      · rw [show g_nx M = pg_dm M from (if_neg h29).symm]
        refine r_aloadn dX6_daysHere_46 rfl (by decide) ?_
        refine r_ic (0) dX6_daysHere_47 ?_
        refine r_bp (99) dX6_daysHere_48 ?_
        refine c_V2 (μz := mX6_isNumber) dX6_daysHere_50 kl_RX6_216 mv_X6_isNumber rfl (ok_X6_isNumber (M := pg_dm M)) ?_
        refine r_if_ne 58 dX6_daysHere_53 (fun h53 => ?_) (fun h53 => ?_)
        · rw [if_pos (bi_1.mp h53)]
          refine r_aloadn dX6_daysHere_58 rfl (by decide) ?_
          refine r_iloadn dX6_daysHere_59 rfl ?_
          refine r_if_eq 71 dX6_daysHere_60 (fun h60 => ?_) (fun h60 => ?_)
          · refine r_aloadn dX6_daysHere_71 rfl (by decide) ?_
            refine r_getfi dX6_daysHere_72 kf_RX6_186 rfl rfl ?_
            refine r_putfi dX6_daysHere_75 kf_RX6_225 rfl rfl ?_
            refine r_aloadn dX6_daysHere_78 rfl (by decide) ?_
            refine c_V0v (μz := mX6_nextToken) dX6_daysHere_79 kl_RX6_213 mv_X6_nextToken rfl (ok_X6_next (t2.wr (by decide) (by decide))) ?_
            refine r_ic (1) dX6_daysHere_82 ?_
            exact r_iret dX6_daysHere_83 ⟨by unfold pg_days; rw [if_pos (bi_1.mp h12), if_pos (bi_1.mp h53), if_neg h29], rfl, by unfold pg_days; rw [if_pos (bi_1.mp h12), if_pos (bi_1.mp h53), if_neg h29]⟩
          · exact absurd rfl h60
        · rw [if_neg (bi_0.mp h53)]
          refine r_ic (0) dX6_daysHere_56 ?_
          exact r_iret dX6_daysHere_57 ⟨by unfold pg_days; rw [if_pos (bi_1.mp h12), if_neg (bi_0.mp h53)], rfl, by unfold pg_days; rw [if_pos (bi_1.mp h12), if_neg (bi_0.mp h53)]⟩
      · exact absurd rfl h39
    · refine r_ic (1) dX6_daysHere_32 ?_
      refine r_goto 37 dX6_daysHere_33 ?_
      refine r_istore1 dX6_daysHere_37 ?_
      refine r_iloadn dX6_daysHere_38 rfl ?_
      refine r_if_eq 46 dX6_daysHere_39 (fun h39 => ?_) (fun h39 => ?_)
      · exact absurd h39 (by decide)
      · refine r_aloadn dX6_daysHere_42 rfl (by decide) ?_
        refine c_V0v (μz := mX6_nextToken) dX6_daysHere_43 kl_RX6_213 mv_X6_nextToken rfl (ok_X6_next t1) ?_
        rw [show g_nx (g_nx M) = pg_dm M from (if_pos h29).symm]
        refine r_aloadn dX6_daysHere_46 rfl (by decide) ?_
        refine r_ic (0) dX6_daysHere_47 ?_
        refine r_bp (99) dX6_daysHere_48 ?_
        refine c_V2 (μz := mX6_isNumber) dX6_daysHere_50 kl_RX6_216 mv_X6_isNumber rfl (ok_X6_isNumber (M := pg_dm M)) ?_
        refine r_if_ne 58 dX6_daysHere_53 (fun h53 => ?_) (fun h53 => ?_)
        · rw [if_pos (bi_1.mp h53)]
          refine r_aloadn dX6_daysHere_58 rfl (by decide) ?_
          refine r_iloadn dX6_daysHere_59 rfl ?_
          refine r_if_eq 71 dX6_daysHere_60 (fun h60 => ?_) (fun h60 => ?_)
          · exact absurd h60 (by decide)
          · refine r_aloadn dX6_daysHere_63 rfl (by decide) ?_
            refine r_getfi dX6_daysHere_64 kf_RX6_186 rfl rfl ?_
            refine r_ineg dX6_daysHere_67 ?_
            refine r_goto 75 dX6_daysHere_68 ?_
            refine r_putfi dX6_daysHere_75 kf_RX6_225 rfl rfl ?_
            refine r_aloadn dX6_daysHere_78 rfl (by decide) ?_
            refine c_V0v (μz := mX6_nextToken) dX6_daysHere_79 kl_RX6_213 mv_X6_nextToken rfl (ok_X6_next (t2.wr (by decide) (by decide))) ?_
            refine r_ic (1) dX6_daysHere_82 ?_
            exact r_iret dX6_daysHere_83 ⟨by unfold pg_days; rw [if_pos (bi_1.mp h12), if_pos (bi_1.mp h53), if_pos h29], rfl, by unfold pg_days; rw [if_pos (bi_1.mp h12), if_pos (bi_1.mp h53), if_pos h29]⟩
        · rw [if_neg (bi_0.mp h53)]
          refine r_ic (0) dX6_daysHere_56 ?_
          exact r_iret dX6_daysHere_57 ⟨by unfold pg_days; rw [if_pos (bi_1.mp h12), if_neg (bi_0.mp h53)], rfl, by unfold pg_days; rw [if_pos (bi_1.mp h12), if_neg (bi_0.mp h53)]⟩
  · refine r_aloadn dX6_daysHere_15 rfl (by decide) ?_
    refine c_V0 (μz := mX6_fails) dX6_daysHere_16 kl_RX6_199 mv_X6_fails rfl ok_X6_fails ?_
    exact r_iret dX6_daysHere_19 ⟨by unfold pg_days; rw [if_neg (bi_0.mp h12)], rfl, by unfold pg_days; rw [if_neg (bi_0.mp h12)]⟩
theorem ok_X6_lawHere {X : fp_X} {M : fp_M} {z w : Nat} (ht : g_tp M z) (hw2 : w < 2): fp_Ev X mX6_lawHere [.ref 49, .int (nI w)] fp_sh M (some (.int (pg_law M w).1)) (pg_law M w).2 := by
  have t1 := g_nx_tp ht
  refine fp_ok [some (.ref 49), some (.int (nI w))] ?_
  refine r_aloadn dX6_lawHere_0 rfl (by decide) ?_
  refine c_V0v (μz := mX6_nextToken) dX6_lawHere_1 kl_RX6_213 mv_X6_nextToken rfl (ok_X6_next ht) ?_
  refine r_aloadn dX6_lawHere_4 rfl (by decide) ?_
  refine r_ic (0) dX6_lawHere_5 ?_
  refine r_bp (9) dX6_lawHere_6 ?_
  refine c_V2 (μz := mX6_isNumber) dX6_lawHere_8 kl_RX6_216 mv_X6_isNumber rfl ok_X6_isNumber ?_
  refine r_if_ne 16 dX6_lawHere_11 (fun h11 => ?_) (fun h11 => ?_)
  · rw [if_pos (bi_1.mp h11)]
    refine r_aloadn dX6_lawHere_16 rfl (by decide) ?_
    refine r_getfr dX6_lawHere_17 kf_RX6_7 rfl rfl ?_
    refine r_ic (2) dX6_lawHere_20 ?_
    refine r_iloadn dX6_lawHere_21 rfl ?_
    refine r_iadd dX6_lawHere_22 ?_
    refine r_aloadn dX6_lawHere_23 rfl (by decide) ?_
    refine r_getfi dX6_lawHere_24 kf_RX6_186 rfl rfl ?_
    refine r_iastL (j := 2 + w) dX6_lawHere_27 rfl (nI_add 2 w) (by omega) ?_
    refine r_aloadn dX6_lawHere_28 rfl (by decide) ?_
    refine c_V0v (μz := mX6_nextToken) dX6_lawHere_29 kl_RX6_213 mv_X6_nextToken rfl (ok_X6_next (t1.wr (by decide) (by omega))) ?_
    refine r_ic (1) dX6_lawHere_32 ?_
    exact r_iret dX6_lawHere_33 ⟨by unfold pg_law; rw [if_pos (bi_1.mp h11)], rfl, by unfold pg_law; rw [if_pos (bi_1.mp h11)]⟩
  · rw [if_neg (bi_0.mp h11)]
    refine r_ic (0) dX6_lawHere_14 ?_
    exact r_iret dX6_lawHere_15 ⟨by unfold pg_law; rw [if_neg (bi_0.mp h11)], rfl, by unfold pg_law; rw [if_neg (bi_0.mp h11)]⟩
theorem g_nx_50 {M : fp_M} {k j : Nat} (h : ¬ k = 49) : g_nx M k j = M k j := g_nx_o h
theorem pg_t2_o {M : fp_M} {k j : Nat} (h : ¬ k = 49) : pg_t2 M k j = M k j := (fp_wr_ne h).trans (g_nx_o h)
theorem pg_towns_o {M : fp_M} {k j : Nat} (h : ¬ k = 49) : (pg_towns M).2 k j = M k j := by
  unfold pg_towns
  split
  · split
    · split
      · show fp_wr _ 49 16 _ k j = _
        rw [fp_wr_ne h, g_nx_o h, pg_t2_o h]
      · show g_nx _ k j = _
        rw [g_nx_o h, fp_wr_ne h, g_nx_o h, pg_t2_o h]
    · show fp_wr (fp_wr _ 49 16 _) 49 16 _ k j = _
      rw [fp_wr_ne h, fp_wr_ne h, g_nx_o h, pg_t2_o h]
  · show fp_wr _ 49 16 _ k j = _
    rw [fp_wr_ne h, g_nx_o h]
theorem pg_dm_o {M : fp_M} {k j : Nat} (h : ¬ k = 49) : pg_dm M k j = M k j := by
  unfold pg_dm
  split
  · rw [g_nx_o h, g_nx_o h]
  · rw [g_nx_o h]
theorem pg_days_o {M : fp_M} {k j : Nat} (h : ¬ k = 49) : (pg_days M).2 k j = M k j := by
  unfold pg_days
  split
  · split
    · show g_nx _ k j = _
      rw [g_nx_o h, fp_wr_ne h, pg_dm_o h]
    · show fp_wr _ 49 16 _ k j = _
      rw [fp_wr_ne h, pg_dm_o h]
  · show fp_wr _ 49 16 _ k j = _
    rw [fp_wr_ne h]
theorem pg_rc_n {D : fp_M} {c : Nat} {v : Int32} : pg_rc D c v 50 0 = nI (c + 1) := by
  unfold pg_rc g_recv
  exact fp_wr_eq
theorem ok_X6_comesR {X : fp_X} {D : fp_M} {c : Nat} {v : Int32} (hc : D 50 0 = nI c) (hc8 : c < 8) : fp_Ev X mX6_comes [.ref 49, .int v, .int (D 49 17), .int (D 49 18), .int (D 49 19), .int 0] fp_sh D none (pg_rc D c v) := ok_X6_comes hc hc8
theorem lp_X6_let2 {X : fp_X} {M : fp_M} {z c : Nat} {w1 : Option Value} (ht : g_tp M z) (hc8 : c < 8) : fp_W X mX6_letterHere 112 [some (.ref 49), w1, some (.int (nI (5 + 6 * c)))] [] fp_sh M 0 0 (fun r s m => r = some (.int 1) ∧ s = fp_sh ∧ m = pg_struck M c) := by
  refine r_aloadn dX6_letterHere_112 rfl (by decide) ?_
  refine r_bp (115) dX6_letterHere_113 ?_
  refine r_bp (116) dX6_letterHere_115 ?_
  refine r_bp (114) dX6_letterHere_117 ?_
  refine r_bp (117) dX6_letterHere_119 ?_
  refine r_bp (99) dX6_letterHere_121 ?_
  refine r_bp (107) dX6_letterHere_123 ?_
  refine c_V6 (μz := mX6_isSix) dX6_letterHere_125 kl_RX6_202 mv_X6_isSix rfl (ok_X6_isSix (i := 11) ht rfl) ?_
  refine r_if_eq 144 dX6_letterHere_128 (fun h128 => ?_) (fun h128 => ?_)
  · refine r_ic (1) dX6_letterHere_144 ?_
    exact r_iret dX6_letterHere_145 ⟨rfl, rfl, by unfold pg_struck; rw [if_neg (bi_0.mp h128)]⟩
  · refine r_aloadn dX6_letterHere_131 rfl (by decide) ?_
    refine r_getfr dX6_letterHere_132 kf_RX6_7 rfl rfl ?_
    refine r_iloadn dX6_letterHere_135 rfl ?_
    refine r_ic (5) dX6_letterHere_136 ?_
    refine r_iadd dX6_letterHere_137 ?_
    rw [show nI (5 + 6 * c) + 5 = nI (5 + 6 * c + 5) from nI_add (5 + 6 * c) 5]
    refine r_ic (1) dX6_letterHere_138 ?_
    refine r_iastL (j := 5 + 6 * c + 5) dX6_letterHere_139 rfl rfl (by omega) ?_
    refine r_aloadn dX6_letterHere_140 rfl (by decide) ?_
    refine c_V0v (μz := mX6_nextToken) dX6_letterHere_141 kl_RX6_213 mv_X6_nextToken rfl (ok_X6_next (ht.wr (by decide) (by omega))) ?_
    refine r_ic (1) dX6_letterHere_144 ?_
    exact r_iret dX6_letterHere_145 ⟨rfl, rfl, by unfold pg_struck; rw [if_pos (bi_1.mp h128)]⟩
theorem lp_X6_let1b {X : fp_X} {R : fp_M} {z c : Nat} {v : Int32} (tR : g_tp R z) (hR : R 50 0 = nI (c + 1)) (hc8 : c < 8) : fp_W X mX6_letterHere 50 [some (.ref 49), some (.int v), none] [] fp_sh R 0 0 (fun r s m => r = some (.int (pg_ms R c).1) ∧ s = fp_sh ∧ m = (pg_ms R c).2) := by
  refine r_ic (5) dX6_letterHere_50 ?_
  refine r_bp (6) dX6_letterHere_51 ?_
  refine r_aloadn dX6_letterHere_53 rfl (by decide) ?_
  refine r_getfr dX6_letterHere_54 kf_RX6_7 rfl rfl ?_
  refine r_ic (0) dX6_letterHere_57 ?_
  refine r_ialdL dX6_letterHere_58 rfl rfl (by decide) ?_
  rw [hR]
  refine r_ic (1) dX6_letterHere_59 ?_
  refine r_isub dX6_letterHere_60 ?_
  rw [nI_pred]
  refine r_imul dX6_letterHere_61 ?_
  refine r_iadd dX6_letterHere_62 ?_
  rw [g_i0 c (by omega)]
  refine r_istore2 dX6_letterHere_63 ?_
  refine r_aloadn dX6_letterHere_64 rfl (by decide) ?_
  refine r_bp (109) dX6_letterHere_65 ?_
  refine r_bp (97) dX6_letterHere_67 ?_
  refine r_bp (114) dX6_letterHere_69 ?_
  refine r_bp (107) dX6_letterHere_71 ?_
  refine c_V4 (μz := mX6_isFour) dX6_letterHere_73 kl_RX6_210 mv_X6_isFour rfl (ok_X6_isFour (i := 10) tR rfl) ?_
  refine r_if_eq 112 dX6_letterHere_76 (fun h76 => ?_) (fun h76 => ?_)
  · have e : pg_ms R c = (1, pg_struck R c) := by
      unfold pg_ms pg_mark
      rw [if_neg (bi_0.mp h76)]
      exact if_neg (show ¬ (1 : Int32) = 0 by decide)
    rw [e]
    exact lp_X6_let2 tR hc8
  · refine r_aloadn dX6_letterHere_79 rfl (by decide) ?_
    refine c_V0v (μz := mX6_nextToken) dX6_letterHere_80 kl_RX6_213 mv_X6_nextToken rfl (ok_X6_next tR) ?_
    refine r_aloadn dX6_letterHere_83 rfl (by decide) ?_
    refine r_ic (0) dX6_letterHere_84 ?_
    refine r_sp (999) dX6_letterHere_85 ?_
    refine c_V2 (μz := mX6_isNumber) dX6_letterHere_88 kl_RX6_216 mv_X6_isNumber rfl ok_X6_isNumber ?_
    refine r_if_ne 96 dX6_letterHere_91 (fun h91 => ?_) (fun h91 => ?_)
    · rw [if_pos (bi_1.mp h91)]
      refine r_aloadn dX6_letterHere_96 rfl (by decide) ?_
      refine r_getfr dX6_letterHere_97 kf_RX6_7 rfl rfl ?_
      refine r_iloadn dX6_letterHere_100 rfl ?_
      refine r_ic (4) dX6_letterHere_101 ?_
      refine r_iadd dX6_letterHere_102 ?_
      rw [show nI (5 + 6 * c) + 4 = nI (5 + 6 * c + 4) from nI_add (5 + 6 * c) 4]
      refine r_aloadn dX6_letterHere_103 rfl (by decide) ?_
      refine r_getfi dX6_letterHere_104 kf_RX6_186 rfl rfl ?_
      refine r_iastL (j := 5 + 6 * c + 4) dX6_letterHere_107 rfl rfl (by omega) ?_
      refine r_aloadn dX6_letterHere_108 rfl (by decide) ?_
      refine c_V0v (μz := mX6_nextToken) dX6_letterHere_109 kl_RX6_213 mv_X6_nextToken rfl (ok_X6_next ((g_nx_tp tR).wr (by decide) (by omega))) ?_
      have e : pg_ms R c = (1, pg_struck (g_nx (fp_wr (g_nx R) 50 (5 + 6 * c + 4) (g_nx R 49 15))) c) := by
        unfold pg_ms pg_mark
        rw [if_pos (bi_1.mp h76), if_pos (bi_1.mp h91)]
        exact if_neg (show ¬ (1 : Int32) = 0 by decide)
      rw [e]
      exact lp_X6_let2 (g_nx_tp ((g_nx_tp tR).wr (by decide) (by omega))) hc8
    · rw [if_neg (bi_0.mp h91)]
      refine r_ic (0) dX6_letterHere_94 ?_
      exact r_iret dX6_letterHere_95 ⟨by unfold pg_ms pg_mark; rw [if_pos (bi_1.mp h76), if_neg (bi_0.mp h91)]; rfl, rfl, by unfold pg_ms pg_mark; rw [if_pos (bi_1.mp h76), if_neg (bi_0.mp h91)]; rfl⟩
theorem lp_X6_let1 {X : fp_X} {D : fp_M} {z c : Nat} {v : Int32} (tD : g_tp D z) (hD : D 50 0 = nI c) (hc8 : c < 8) : fp_W X mX6_letterHere 32 [some (.ref 49), some (.int v), none] [] fp_sh D 0 0 (fun r s m => r = some (.int (pg_ms (pg_rc D c v) c).1) ∧ s = fp_sh ∧ m = (pg_ms (pg_rc D c v) c).2) := by
  refine r_aloadn dX6_letterHere_32 rfl (by decide) ?_
  refine r_iloadn dX6_letterHere_33 rfl ?_
  refine r_aloadn dX6_letterHere_34 rfl (by decide) ?_
  refine r_getfi dX6_letterHere_35 kf_RX6_219 rfl rfl ?_
  refine r_aloadn dX6_letterHere_38 rfl (by decide) ?_
  refine r_getfi dX6_letterHere_39 kf_RX6_222 rfl rfl ?_
  refine r_aloadn dX6_letterHere_42 rfl (by decide) ?_
  refine r_getfi dX6_letterHere_43 kf_RX6_225 rfl rfl ?_
  refine r_ic (0) dX6_letterHere_46 ?_
  refine c_V5v (μz := mX6_comes) dX6_letterHere_47 kl_RX6_81 mv_X6_comes rfl (ok_X6_comesR hD hc8) ?_
  exact lp_X6_let1b (pg_rc_tp tD) pg_rc_n hc8
theorem ok_X6_letterHere {X : fp_X} {M : fp_M} {z c : Nat} {v : Int32} (ht : g_tp M z) (hc : M 50 0 = nI c) (hc9 : c ≤ 8): fp_Ev X mX6_letterHere [.ref 49, .int v] fp_sh M (some (.int (pg_let M c v).1)) (pg_let M c v).2 := by
  have hcD : (pg_days (pg_towns M).2).2 50 0 = nI c := by rw [pg_days_o (by decide), pg_towns_o (by decide)]; exact hc
  refine fp_ok [some (.ref 49), some (.int v), none] ?_
  refine r_aloadn dX6_letterHere_0 rfl (by decide) ?_
  refine r_getfr dX6_letterHere_1 kf_RX6_7 rfl rfl ?_
  refine r_ic (0) dX6_letterHere_4 ?_
  refine r_ialdL dX6_letterHere_5 rfl rfl (by decide) ?_
  refine r_bp (8) dX6_letterHere_6 ?_
  refine r_icmp_ne 16 dX6_letterHere_8 (fun h8 => ?_) (fun h8 => ?_)
  · have hcn : ¬ c = 8 := fun q => h8 (by rw [hc, q]; rfl)
    have hc8 : c < 8 := by omega
    refine r_aloadn dX6_letterHere_16 rfl (by decide) ?_
    refine c_V0 (μz := mX6_townsHere) dX6_letterHere_17 kl_RX6_228 mv_X6_townsHere rfl (ok_X6_townsHere ht) ?_
    refine r_if_eq 30 dX6_letterHere_20 (fun h20 => ?_) (fun h20 => ?_)
    · refine r_ic (0) dX6_letterHere_30 ?_
      exact r_iret dX6_letterHere_31 ⟨by unfold pg_let; rw [if_neg hcn, if_pos h20], rfl, by unfold pg_let; rw [if_neg hcn, if_pos h20]⟩
    · refine r_aloadn dX6_letterHere_23 rfl (by decide) ?_
      refine c_V0 (μz := mX6_daysHere) dX6_letterHere_24 kl_RX6_231 mv_X6_daysHere rfl (ok_X6_daysHere (pg_towns_tp ht)) ?_
      refine r_if_ne 32 dX6_letterHere_27 (fun h27 => ?_) (fun h27 => ?_)
      · have e : pg_let M c v = pg_ms (pg_rc (pg_days (pg_towns M).2).2 c v) c := by
          unfold pg_let
          rw [if_neg hcn, if_neg h20, if_neg h27]
        rw [e]
        exact lp_X6_let1 (pg_days_tp (pg_towns_tp ht)) hcD hc8
      · refine r_ic (0) dX6_letterHere_30 ?_
        exact r_iret dX6_letterHere_31 ⟨by unfold pg_let; rw [if_neg hcn, if_neg h20, if_pos h27], rfl, by unfold pg_let; rw [if_neg hcn, if_neg h20, if_pos h27]⟩
  · have hc8 : c = 8 := by
      have q := h8
      rw [hc] at q
      exact (nI_eq (by omega) (by decide)).mp q
    refine r_aloadn dX6_letterHere_11 rfl (by decide) ?_
    refine c_V0 (μz := mX6_fails) dX6_letterHere_12 kl_RX6_199 mv_X6_fails rfl ok_X6_fails ?_
    exact r_iret dX6_letterHere_15 ⟨by unfold pg_let; rw [if_pos hc8], rfl, by unfold pg_let; rw [if_pos hc8]⟩
theorem pg_law_01 (M : fp_M) (w : Nat) : (pg_law M w).1 = 0 ∨ (pg_law M w).1 = 1 := by
  unfold pg_law
  split
  · exact Or.inr rfl
  · exact Or.inl rfl
theorem pg_let_01 (M : fp_M) (c : Nat) (v : Int32) : (pg_let M c v).1 = 0 ∨ (pg_let M c v).1 = 1 := by
  unfold pg_let
  split
  · exact Or.inl rfl
  · split
    · exact Or.inl rfl
    · split
      · exact Or.inl rfl
      · unfold pg_ms
        split
        · exact Or.inl rfl
        · exact Or.inr rfl
theorem pg_item_01 (M : fp_M) (c : Nat) : (pg_item M c).1 = 0 ∨ (pg_item M c).1 = 1 := by
  unfold pg_item
  split
  · exact pg_let_01 _ _ _
  · split
    · exact pg_law_01 _ _
    · split
      · exact pg_law_01 _ _
      · exact Or.inl rfl
theorem ok_X6_itemHere {X : fp_X} {M : fp_M} {z c : Nat} (ht : g_tp M z) (hc : M 50 0 = nI c) (hc9 : c ≤ 8): fp_Ev X mX6_itemHere [.ref 49] fp_sh M (some (.int (pg_item M c).1)) (pg_item M c).2 := by
  refine fp_ok [some (.ref 49), none] ?_
  refine r_aloadn dX6_itemHere_0 rfl (by decide) ?_
  refine c_V0 (μz := mX6_kindHere) dX6_itemHere_1 kl_RX6_234 mv_X6_kindHere rfl (ok_X6_kindHere ht) ?_
  refine r_istore1 dX6_itemHere_4 ?_
  refine r_iloadn dX6_itemHere_5 rfl ?_
  refine r_if_lt 15 dX6_itemHere_6 (fun h6 => ?_) (fun h6 => ?_)
  · refine r_aloadn dX6_itemHere_15 rfl (by decide) ?_
    refine r_bp (115) dX6_itemHere_16 ?_
    refine r_bp (108) dX6_itemHere_18 ?_
    refine r_bp (105) dX6_itemHere_20 ?_
    refine r_bp (112) dX6_itemHere_22 ?_
    refine c_V4 (μz := mX6_isFour) dX6_itemHere_24 kl_RX6_210 mv_X6_isFour rfl (ok_X6_isFour (i := 7) ht rfl) ?_
    refine r_if_eq 36 dX6_itemHere_27 (fun h27 => ?_) (fun h27 => ?_)
    · refine r_aloadn dX6_itemHere_36 rfl (by decide) ?_
      refine r_bp (102) dX6_itemHere_37 ?_
      refine r_bp (114) dX6_itemHere_39 ?_
      refine r_bp (111) dX6_itemHere_41 ?_
      refine r_bp (115) dX6_itemHere_43 ?_
      refine r_bp (116) dX6_itemHere_45 ?_
      refine c_V5 (μz := mX6_isFive) dX6_itemHere_47 kl_RX6_206 mv_X6_isFive rfl (ok_X6_isFive (i := 8) ht rfl) ?_
      refine r_if_eq 61 dX6_itemHere_50 (fun h50 => ?_) (fun h50 => ?_)
      · refine r_aloadn dX6_itemHere_61 rfl (by decide) ?_
        refine c_V0 (μz := mX6_fails) dX6_itemHere_62 kl_RX6_199 mv_X6_fails rfl ok_X6_fails ?_
        exact r_iret dX6_itemHere_65 ⟨by unfold pg_item; rw [if_neg (Int32.not_le.mpr h6), if_neg (bi_0.mp h27), if_neg (bi_0.mp h50)], rfl, by unfold pg_item; rw [if_neg (Int32.not_le.mpr h6), if_neg (bi_0.mp h27), if_neg (bi_0.mp h50)]⟩
      · refine r_aloadn dX6_itemHere_53 rfl (by decide) ?_
        refine r_ic (1) dX6_itemHere_54 ?_
        refine c_V1 (μz := mX6_lawHere) dX6_itemHere_55 kl_RX6_240 mv_X6_lawHere rfl (ok_X6_lawHere (w := 1) ht (by decide)) ?_
        refine r_goto 65 dX6_itemHere_58 ?_
        exact r_iret dX6_itemHere_65 ⟨by unfold pg_item; rw [if_neg (Int32.not_le.mpr h6), if_neg (bi_0.mp h27), if_pos (bi_1.mp h50)], rfl, by unfold pg_item; rw [if_neg (Int32.not_le.mpr h6), if_neg (bi_0.mp h27), if_pos (bi_1.mp h50)]⟩ rfl (k_nar01 (pg_law_01 M 1))
    · refine r_aloadn dX6_itemHere_30 rfl (by decide) ?_
      refine r_ic (0) dX6_itemHere_31 ?_
      refine c_V1 (μz := mX6_lawHere) dX6_itemHere_32 kl_RX6_240 mv_X6_lawHere rfl (ok_X6_lawHere (w := 0) ht (by decide)) ?_
      exact r_iret dX6_itemHere_35 ⟨by unfold pg_item; rw [if_neg (Int32.not_le.mpr h6), if_pos (bi_1.mp h27)], rfl, by unfold pg_item; rw [if_neg (Int32.not_le.mpr h6), if_pos (bi_1.mp h27)]⟩ rfl (k_nar01 (pg_law_01 M 0))
  · refine r_aloadn dX6_itemHere_9 rfl (by decide) ?_
    refine r_iloadn dX6_itemHere_10 rfl ?_
    refine c_V1 (μz := mX6_letterHere) dX6_itemHere_11 kl_RX6_237 mv_X6_letterHere rfl (ok_X6_letterHere ht hc hc9) ?_
    exact r_iret dX6_itemHere_14 ⟨by unfold pg_item; rw [if_pos (Int32.not_lt.mp h6)], rfl, by unfold pg_item; rw [if_pos (Int32.not_lt.mp h6)]⟩ rfl (k_nar01 (pg_let_01 M c _))
