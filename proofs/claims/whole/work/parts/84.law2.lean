/-! ===== the law's loop ===== -/
theorem z_more {L i : Nat} (hL : L ≤ 3072) (h6 : i ≤ 6000) (h : ¬ nI L - 6 < nI i) : i + 6 ≤ L := by
  have e1 : (nI L - 6).toInt = L - 6 := q_sub (nI_toInt (by omega)) (show (6 : Int32).toInt = 6 from by decide) (by omega)
  rw [Int32.lt_iff_toInt_lt, e1, nI_toInt (show i < 2 ^ 31 by omega)] at h
  omega
theorem z_loop {X : fp_X} {nc ns : Nat} (hL : X.1 ≤ 3072) : ∀ (n i : Nat) (N : fp_M), X.1 + 6 ≤ i + 6 * n → i ≤ 6000 → w_R N N → fp_W X mL_law 18 (z_ls i) [] fp_sh N nc ns z_Q := by
  intro n
  induction n with
  | zero =>
    intro i N hn h6 _
    refine r_iloadn dL_law_18 rfl ?_
    refine r_aloadn dL_law_19 rfl (by decide) ?_
    refine r_slen dL_law_20 ?_
    refine r_bp (6) dL_law_21 ?_
    refine r_isub dL_law_23 ?_
    refine r_icmp_gt 1407 dL_law_24 (fun h24 => ?_) (fun h24 => ?_)
    · refine r_ic (1) dL_law_1407 ?_
      exact r_iret dL_law_1408 ⟨rfl, rfl⟩
    · exact absurd (z_more hL h6 h24) (by omega)
  | succ n ih =>
    intro i N hn h6 hR
    obtain ⟨c, R⟩ := hR
    refine r_iloadn dL_law_18 rfl ?_
    refine r_aloadn dL_law_19 rfl (by decide) ?_
    refine r_slen dL_law_20 ?_
    refine r_bp (6) dL_law_21 ?_
    refine r_isub dL_law_23 ?_
    refine r_icmp_gt 1407 dL_law_24 (fun h24 => ?_) (fun h24 => ?_)
    · refine r_ic (1) dL_law_1407 ?_
      exact r_iret dL_law_1408 ⟨rfl, rfl⟩
    · have hlt : i + 6 ≤ X.1 := z_more hL h6 h24
      have hK : ∀ N', w_R N' N' → fp_W X mL_law 1401 (z_ls i) [] fp_sh N' nc ns z_Q := by
        intro N' hR
        refine r_iinc3 (6) dL_law_1401 ?_
        refine r_goto 18 dL_law_1404 ?_
        rw [show nI i + 6 = nI (i + 6) from nI_add i 6]
        exact ih (i + 6) N' (by omega) (by omega) hR
      refine r_aloadn dL_law_27 rfl (by decide) ?_
      refine r_iloadn dL_law_28 rfl ?_
      refine r_sld dL_law_29 (vp_in_nI (by omega) (by omega)) ?_
      refine r_bp (63) dL_law_30 ?_
      refine r_iand dL_law_32 ?_
      refine r_tsw [(0, 232), (1, 295), (2, 328), (3, 371), (4, 404), (5, 427), (6, 450), (7, 463), (8, 506), (9, 529), (10, 552), (11, 565), (12, 578), (13, 621), (14, 634), (15, 657), (16, 690), (17, 713), (18, 726), (19, 739), (20, 752), (21, 765), (22, 778), (23, 811), (24, 834), (25, 857), (26, 880), (27, 893), (28, 916), (29, 950), (30, 973), (31, 1006), (32, 1019), (33, 1032), (34, 1065), (35, 1098), (36, 1141), (37, 1184), (38, 1247), (39, 1270), (40, 1293), (41, 1316), (42, 1329), (43, 1342), (44, 1355), (45, 1378)] 1401 dL_law_33 (And.intro (fun h33 => ?_) (And.intro (fun h33 => ?_) (And.intro (fun h33 => ?_) (And.intro (fun h33 => ?_) (And.intro (fun h33 => ?_) (And.intro (fun h33 => ?_) (And.intro (fun h33 => ?_) (And.intro (fun h33 => ?_) (And.intro (fun h33 => ?_) (And.intro (fun h33 => ?_) (And.intro (fun h33 => ?_) (And.intro (fun h33 => ?_) (And.intro (fun h33 => ?_) (And.intro (fun h33 => ?_) (And.intro (fun h33 => ?_) (And.intro (fun h33 => ?_) (And.intro (fun h33 => ?_) (And.intro (fun h33 => ?_) (And.intro (fun h33 => ?_) (And.intro (fun h33 => ?_) (And.intro (fun h33 => ?_) (And.intro (fun h33 => ?_) (And.intro (fun h33 => ?_) (And.intro (fun h33 => ?_) (And.intro (fun h33 => ?_) (And.intro (fun h33 => ?_) (And.intro (fun h33 => ?_) (And.intro (fun h33 => ?_) (And.intro (fun h33 => ?_) (And.intro (fun h33 => ?_) (And.intro (fun h33 => ?_) (And.intro (fun h33 => ?_) (And.intro (fun h33 => ?_) (And.intro (fun h33 => ?_) (And.intro (fun h33 => ?_) (And.intro (fun h33 => ?_) (And.intro (fun h33 => ?_) (And.intro (fun h33 => ?_) (And.intro (fun h33 => ?_) (And.intro (fun h33 => ?_) (And.intro (fun h33 => ?_) (And.intro (fun h33 => ?_) (And.intro (fun h33 => ?_) (And.intro (fun h33 => ?_) (And.intro (fun h33 => ?_) (And.intro (fun h33 => ?_) (trivial))))))))))))))))))))))))))))))))))))))))))))))) (fun h33 => ?_)
      · exact z_letter R hL (by omega) hK
      · exact z_of R hL (by omega) hK
      · exact z_change R hL (by omega) hK
      · exact z_law R hL (by omega) hK
      · exact z_go R hL (by omega) hK
      · exact z_now R hL (by omega) hK
      · exact z_fits R hL (by omega) hK
      · exact z_span R hL (by omega) hK
      · exact z_sure R hL (by omega) hK
      · exact z_below R hL (by omega) hK
      · exact z_widest R hL (by omega) hK
      · exact z_unknown R hL (by omega) hK
      · exact z_can R hL (by omega) hK
      · exact z_when R hL (by omega) hK
      · exact z_ahead R hL (by omega) hK
      · exact z_known R hL (by omega) hK
      · exact z_agree R hL (by omega) hK
      · exact z_strike R hL (by omega) hK
      · exact z_strikes R hL (by omega) hK
      · exact z_implied R hL (by omega) hK
      · exact z_suspects R hL (by omega) hK
      · exact z_dearest R hL (by omega) hK
      · exact z_merge R hL (by omega) hK
      · exact z_kinds R hL (by omega) hK
      · exact z_days R hL (by omega) hK
      · exact z_fewest R hL (by omega) hK
      · exact z_tight R hL (by omega) hK
      · exact z_loses R hL (by omega) hK
      · exact z_odds R hL (by omega) hK
      · exact z_seed R hL (by omega) hK
      · exact z_feed R hL (by omega) hK
      · exact z_wipe R hL (by omega) hK
      · exact z_text R hL (by omega) hK
      · exact z_hold R hL (by omega) hK
      · exact z_as R hL (by omega) hK
      · exact z_sheet R hL (by omega) hK
      · exact z_write R hL (by omega) hK
      · exact z_copy R hL (by omega) hK
      · exact z_load R hL (by omega) hK
      · exact z_judge R hL (by omega) hK
      · exact z_maps R hL (by omega) hK
      · exact z_image R hL (by omega) hK
      · exact z_undo R hL (by omega) hK
      · exact z_tear R hL (by omega) hK
      · exact z_count R hL (by omega) hK
      · exact z_status R hL (by omega) hK
      · exact hK N ⟨c, R⟩
