/-! ===== the other one's calls 1 ===== -/
theorem g_in {v lo hi : Int32} : (lo.toInt64 ≤ v.toInt64 ∧ v.toInt64 ≤ hi.toInt64) ↔ (lo ≤ v ∧ v ≤ hi) := by
  simp only [Int64.le_iff_toInt_le, Int32.toInt_toInt64, Int32.le_iff_toInt_le]
theorem ok_X6_in {X : fp_X} {M : fp_M} {v lo hi : Int32} {a b : Int64} (ha : a = lo.toInt64) (hb : b = hi.toInt64) : fp_Ev X mX6_isIn [.long v.toInt64, .long a, .long b] fp_sh M (some (.int (bi (lo ≤ v ∧ v ≤ hi)))) M := by
  subst ha hb
  rw [← bi_iff g_in]
  exact ok_X6_isIn
theorem g_wf.w1 {M : fp_M} {c j : Nat} {v : Int32} (h : g_wf M c) (h0 : ¬ j = 0) (h5 : j < 5) : g_wf (fp_wr M 50 j v) c := by
  have e : ∀ i, ¬ i = j → fp_wr M 50 j v 50 i = M 50 i := fun i hi => fp_wr_ne2 hi
  obtain ⟨h1, h2, h3⟩ := h
  refine ⟨h1, (e 0 (fun q => h0 q.symm)).trans h2, fun i hi => ?_⟩
  obtain ⟨f, t, a1, a2, a3, a4, a5⟩ := h3 i hi
  exact ⟨f, t, a1, a2, (e _ (by omega)).trans a3, (e _ (by omega)).trans a4, by rw [e _ (by omega)]; exact a5⟩
def sg_letter (M : fp_M) (c : Nat) (k f t d m : Int32) : Int32 × fp_M := if v_letter k f t d m then (if M 50 0 = 8 then (-1000002, g_fd M 1) else (nI c, g_recv M c k f t d m)) else (-1000001, g_fd M 0)
def sg_law (M : fp_M) (w v : Int32) : Int32 × fp_M := if (0 ≤ w ∧ w ≤ 1) ∧ (0 ≤ v ∧ v ≤ 9) then (M 50 (2 + k_v w), fp_wr M 50 (2 + k_v w) v) else (-1000001, g_fd M 0)
def sg_go (M : fp_M) (c : Nat) (n : Int32) : Int32 × fp_M := if 1 ≤ n ∧ n ≤ 200 then (if M 50 1 + n ≤ 99999 then (nI (g_con (fp_wr M 50 1 (M 50 1 + n)) (fp_wr M 50 1 (M 50 1 + n) 50 1 + 0) c), fp_wr M 50 1 (M 50 1 + n)) else (-1000005, g_fd M 4)) else (-1000001, g_fd M 0)
abbrev g_cc (M : fp_M) (c : Nat) : fp_M := g_cm M c (nI (g_con M (M 50 1 + 0) c))
def sg_fits (M : fp_M) (c : Nat) : Int32 × fp_M := (if g_ok (g_cc M c) = 0 then 0 else 1, g_cc M c)
def sg_span (M : fp_M) (c : Nat) (a b w : Int32) : Int32 × fp_M := if k_pair a b ∧ (0 ≤ w ∧ w ≤ 2) then (if g_ok (g_cc M c) = 0 then (-1000004, g_fd (g_cc M c) 3) else if w = 0 then (-(g_cc M c 58 (8 * k_v b + k_v a)), g_cc M c) else if w = 1 then (g_cc M c 58 (8 * k_v a + k_v b), g_cc M c) else (g_wid (g_cc M c) (k_v a) (k_v b), g_cc M c)) else (-1000001, g_fd M 0)
def sg_unknown (M : fp_M) (c : Nat) : Int32 × fp_M := if g_ok (g_cc M c) = 0 then (-1000004, g_fd (g_cc M c) 3) else (k_allw (g_wid (g_cc M c)), g_cc M c)
def sg_ahead (M : fp_M) (c : Nat) (n : Int32) : Int32 × fp_M := if 0 ≤ n ∧ n ≤ 500 then (nI (g_con M (M 50 1 + n) c), M) else (-1000001, g_fd M 0)
def sg_agree (M : fp_M) (c : Nat) (a : Int32) : Int32 × fp_M := if 0 ≤ a ∧ a ≤ (1 : Int32) <<< (M 50 0 &&& 31) - 1 then (if g_ok (g_cm M c a) = 0 then 0 else 1, g_cm M c a) else (-1000001, g_fd M 0)
theorem g_v7 {a : Int32} (h : 0 ≤ a ∧ a ≤ 7) : a = nI (k_v a) ∧ k_v a < 8 := by
  have h1 : 0 ≤ a.toInt := by have := Int32.le_iff_toInt_le.mp h.1; simpa using this
  have h2 : a.toInt ≤ 7 := by have := Int32.le_iff_toInt_le.mp h.2; simpa using this
  have e : (a.toNatClampNeg : Int) = a.toInt := Int.toNat_of_nonneg h1
  have h3 : k_v a < 8 := by show a.toNatClampNeg < 8; omega
  refine ⟨Int32.toInt_inj.mp ?_, h3⟩
  rw [nI_toInt (by omega)]
  exact e.symm
theorem ok_X6_letter {X : fp_X} {M : fp_M} {c : Nat} {k f t d m : Int32} (hw : g_wf M c): fp_Ev X mX6_letter [.ref 49, .int k, .int f, .int t, .int d, .int m] fp_sh M (some (.int (sg_letter M c k f t d m).1)) (sg_letter M c k f t d m).2 := by
  refine fp_ok [some (.ref 49), some (.int k), some (.int f), some (.int t), some (.int d), some (.int m)] ?_
  refine r_iloadn dX6_letter_0 rfl ?_
  refine r_i2l dX6_letter_1 ?_
  refine r_lc 0 dX6_letter_2 ?_
  refine r_ldc2 dX6_letter_3 kc_RX6_68 ?_
  refine c_S3 (μz := mX6_isIn) dX6_letter_6 kl_RX6_42 ms_X6_isIn (ok_X6_in (lo := 0) (hi := 6) (by decide) (by decide)) ?_
  refine r_if_eq 48 dX6_letter_9 (fun h9 => ?_) (fun h9 => ?_)
  · refine r_aloadn dX6_letter_48 rfl (by decide) ?_
    refine r_ldc dX6_letter_49 kc_RX6_37 ?_
    refine c_V1 (μz := mX6_finds) dX6_letter_51 kl_RX6_47 mv_X6_finds rfl (ok_X6_finds (w := 0) (by decide) (by decide)) ?_
    exact r_iret dX6_letter_54 ⟨by unfold sg_letter; rw [if_neg (fun q => absurd q.1 (bi_0.mp h9))], rfl, by unfold sg_letter; rw [if_neg (fun q => absurd q.1 (bi_0.mp h9))]⟩
  · refine r_iloadn dX6_letter_12 rfl ?_
    refine r_iloadn dX6_letter_13 rfl ?_
    refine c_S2 (μz := mX6_isPair) dX6_letter_14 kl_RX6_70 ms_X6_isPair ok_X6_isPair ?_
    refine r_if_eq 48 dX6_letter_17 (fun h17 => ?_) (fun h17 => ?_)
    · refine r_aloadn dX6_letter_48 rfl (by decide) ?_
      refine r_ldc dX6_letter_49 kc_RX6_37 ?_
      refine c_V1 (μz := mX6_finds) dX6_letter_51 kl_RX6_47 mv_X6_finds rfl (ok_X6_finds (w := 0) (by decide) (by decide)) ?_
      exact r_iret dX6_letter_54 ⟨by unfold sg_letter; rw [if_neg (fun q => absurd q.2.1 (bi_0.mp h17))], rfl, by unfold sg_letter; rw [if_neg (fun q => absurd q.2.1 (bi_0.mp h17))]⟩
    · refine r_iload dX6_letter_20 rfl ?_
      refine r_i2l dX6_letter_22 ?_
      refine r_ldc2 dX6_letter_23 kc_RX6_74 ?_
      refine r_ldc2 dX6_letter_26 kc_RX6_76 ?_
      refine c_S3 (μz := mX6_isIn) dX6_letter_29 kl_RX6_42 ms_X6_isIn (ok_X6_in (lo := (-99)) (hi := 99) (by decide) (by decide)) ?_
      refine r_if_eq 48 dX6_letter_32 (fun h32 => ?_) (fun h32 => ?_)
      · refine r_aloadn dX6_letter_48 rfl (by decide) ?_
        refine r_ldc dX6_letter_49 kc_RX6_37 ?_
        refine c_V1 (μz := mX6_finds) dX6_letter_51 kl_RX6_47 mv_X6_finds rfl (ok_X6_finds (w := 0) (by decide) (by decide)) ?_
        exact r_iret dX6_letter_54 ⟨by unfold sg_letter; rw [if_neg (fun q => absurd q.2.2.1 (bi_0.mp h32))], rfl, by unfold sg_letter; rw [if_neg (fun q => absurd q.2.2.1 (bi_0.mp h32))]⟩
      · refine r_iload dX6_letter_35 rfl ?_
        refine r_i2l dX6_letter_37 ?_
        refine r_lc 0 dX6_letter_38 ?_
        refine r_ldc2 dX6_letter_39 kc_RX6_78 ?_
        refine c_S3 (μz := mX6_isIn) dX6_letter_42 kl_RX6_42 ms_X6_isIn (ok_X6_in (lo := 0) (hi := 999) (by decide) (by decide)) ?_
        refine r_if_ne 55 dX6_letter_45 (fun h45 => ?_) (fun h45 => ?_)
        · have hv : v_letter k f t d m := ⟨bi_1.mp h9, bi_1.mp h17, bi_1.mp h32, bi_1.mp h45⟩
          refine r_aloadn dX6_letter_55 rfl (by decide) ?_
          refine r_getfr dX6_letter_56 kf_RX6_7 rfl rfl ?_
          refine r_ic (0) dX6_letter_59 ?_
          refine r_ialdL dX6_letter_60 rfl rfl (by decide) ?_
          refine r_bp (8) dX6_letter_61 ?_
          refine r_icmp_ne 73 dX6_letter_63 (fun h63 => ?_) (fun h63 => ?_)
          · have hc8 : c < 8 := by
              have h8 := hw.1
              rcases Nat.lt_or_ge c 8 with h | h
              · exact h
              · exact absurd (by rw [hw.2.1, show c = 8 by omega]; rfl) h63
            refine r_aloadn dX6_letter_73 rfl (by decide) ?_
            refine r_iloadn dX6_letter_74 rfl ?_
            refine r_iloadn dX6_letter_75 rfl ?_
            refine r_iloadn dX6_letter_76 rfl ?_
            refine r_iload dX6_letter_77 rfl ?_
            refine r_iload dX6_letter_79 rfl ?_
            refine c_V5v (μz := mX6_comes) dX6_letter_81 kl_RX6_81 mv_X6_comes rfl (ok_X6_comes hw.2.1 hc8) ?_
            refine r_aloadn dX6_letter_84 rfl (by decide) ?_
            refine r_getfr dX6_letter_85 kf_RX6_7 rfl rfl ?_
            refine r_ic (0) dX6_letter_88 ?_
            refine r_ialdL dX6_letter_89 rfl rfl (by decide) ?_
            refine r_ic (1) dX6_letter_90 ?_
            refine r_isub dX6_letter_91 ?_
            exact r_iret dX6_letter_92 ⟨by unfold sg_letter; rw [if_pos hv, if_neg h63, show g_recv M c k f t d m 50 0 = nI (c + 1) from fp_wr_eq, ← nI_1, Int32.add_sub_cancel], rfl, by unfold sg_letter; rw [if_pos hv, if_neg h63]⟩
          · refine r_aloadn dX6_letter_66 rfl (by decide) ?_
            refine r_ldc dX6_letter_67 kc_RX6_80 ?_
            refine c_V1 (μz := mX6_finds) dX6_letter_69 kl_RX6_47 mv_X6_finds rfl (ok_X6_finds (w := 1) (by decide) (by decide)) ?_
            exact r_iret dX6_letter_72 ⟨by unfold sg_letter; rw [if_pos hv, if_pos h63], rfl, by unfold sg_letter; rw [if_pos hv, if_pos h63]⟩
        · refine r_aloadn dX6_letter_48 rfl (by decide) ?_
          refine r_ldc dX6_letter_49 kc_RX6_37 ?_
          refine c_V1 (μz := mX6_finds) dX6_letter_51 kl_RX6_47 mv_X6_finds rfl (ok_X6_finds (w := 0) (by decide) (by decide)) ?_
          exact r_iret dX6_letter_54 ⟨by unfold sg_letter; rw [if_neg (fun q => absurd q.2.2.2 (bi_0.mp h45))], rfl, by unfold sg_letter; rw [if_neg (fun q => absurd q.2.2.2 (bi_0.mp h45))]⟩
theorem ok_X6_go {X : fp_X} {M : fp_M} {c : Nat} {n : Int32} (hw : g_wf M c): fp_Ev X mX6_go [.ref 49, .int n] fp_sh M (some (.int (sg_go M c n).1)) (sg_go M c n).2 := by
  refine fp_ok [some (.ref 49), some (.int n)] ?_
  refine r_iloadn dX6_go_0 rfl ?_
  refine r_i2l dX6_go_1 ?_
  refine r_lc 1 dX6_go_2 ?_
  refine r_ldc2 dX6_go_3 kc_RX6_106 ?_
  refine c_S3 (μz := mX6_isIn) dX6_go_6 kl_RX6_42 ms_X6_isIn (ok_X6_in (lo := 1) (hi := 200) (by decide) (by decide)) ?_
  refine r_if_ne 19 dX6_go_9 (fun h9 => ?_) (fun h9 => ?_)
  · refine r_aloadn dX6_go_19 rfl (by decide) ?_
    refine r_getfr dX6_go_20 kf_RX6_7 rfl rfl ?_
    refine r_ic (1) dX6_go_23 ?_
    refine r_ialdL dX6_go_24 rfl rfl (by decide) ?_
    refine r_iloadn dX6_go_25 rfl ?_
    refine r_iadd dX6_go_26 ?_
    refine r_ldc dX6_go_27 kc_RX6_108 ?_
    refine r_icmp_le 39 dX6_go_29 (fun h29 => ?_) (fun h29 => ?_)
    · refine r_aloadn dX6_go_39 rfl (by decide) ?_
      refine r_getfr dX6_go_40 kf_RX6_7 rfl rfl ?_
      refine r_ic (1) dX6_go_43 ?_
      refine r_dup2 dX6_go_44 ?_
      refine r_ialdL dX6_go_45 rfl rfl (by decide) ?_
      refine r_iloadn dX6_go_46 rfl ?_
      refine r_iadd dX6_go_47 ?_
      refine r_iastL dX6_go_48 rfl rfl (by decide) ?_
      refine r_aloadn dX6_go_49 rfl (by decide) ?_
      refine r_ic (0) dX6_go_50 ?_
      refine c_V1 (μz := mX6_countIn) dX6_go_51 kl_RX6_96 mv_X6_countIn rfl (ok_X6_countIn (hw.w1 (by decide) (by decide))) ?_
      exact r_iret dX6_go_54 ⟨by unfold sg_go; rw [if_pos (bi_1.mp h9), if_pos h29], rfl, by unfold sg_go; rw [if_pos (bi_1.mp h9), if_pos h29]⟩
    · refine r_aloadn dX6_go_32 rfl (by decide) ?_
      refine r_ldc dX6_go_33 kc_RX6_109 ?_
      refine c_V1 (μz := mX6_finds) dX6_go_35 kl_RX6_47 mv_X6_finds rfl (ok_X6_finds (w := 4) (by decide) (by decide)) ?_
      exact r_iret dX6_go_38 ⟨by unfold sg_go; rw [if_pos (bi_1.mp h9), if_neg h29], rfl, by unfold sg_go; rw [if_pos (bi_1.mp h9), if_neg h29]⟩
  · refine r_aloadn dX6_go_12 rfl (by decide) ?_
    refine r_ldc dX6_go_13 kc_RX6_37 ?_
    refine c_V1 (μz := mX6_finds) dX6_go_15 kl_RX6_47 mv_X6_finds rfl (ok_X6_finds (w := 0) (by decide) (by decide)) ?_
    exact r_iret dX6_go_18 ⟨by unfold sg_go; rw [if_neg (bi_0.mp h9)], rfl, by unfold sg_go; rw [if_neg (bi_0.mp h9)]⟩
theorem ok_X6_fits {X : fp_X} {M : fp_M} {c : Nat} (hw : g_wf M c): fp_Ev X mX6_fits [.ref 49] fp_sh M (some (.int (sg_fits M c).1)) (sg_fits M c).2 := by
  refine fp_ok [some (.ref 49)] ?_
  refine r_aloadn dX6_fits_0 rfl (by decide) ?_
  refine c_V0 (μz := mX6_isFitting) dX6_fits_1 kl_RX6_128 mv_X6_isFitting rfl (ok_X6_isFitting hw) ?_
  refine r_if_eq 11 dX6_fits_4 (fun h4 => ?_) (fun h4 => ?_)
  · refine r_ic (0) dX6_fits_11 ?_
    exact r_iret dX6_fits_12 ⟨by unfold sg_fits; rw [if_pos h4], rfl, rfl⟩
  · refine r_ic (1) dX6_fits_7 ?_
    refine r_goto 12 dX6_fits_8 ?_
    exact r_iret dX6_fits_12 ⟨by unfold sg_fits; rw [if_neg h4], rfl, rfl⟩
theorem ok_X6_unknown {X : fp_X} {M : fp_M} {c : Nat} (hw : g_wf M c): fp_Ev X mX6_unknown [.ref 49] fp_sh M (some (.int (sg_unknown M c).1)) (sg_unknown M c).2 := by
  refine fp_ok [some (.ref 49)] ?_
  refine r_aloadn dX6_unknown_0 rfl (by decide) ?_
  refine c_V0 (μz := mX6_isFitting) dX6_unknown_1 kl_RX6_128 mv_X6_isFitting rfl (ok_X6_isFitting hw) ?_
  refine r_if_eq 14 dX6_unknown_4 (fun h4 => ?_) (fun h4 => ?_)
  · refine r_aloadn dX6_unknown_14 rfl (by decide) ?_
    refine r_ldc dX6_unknown_15 kc_RX6_46 ?_
    refine c_V1 (μz := mX6_finds) dX6_unknown_17 kl_RX6_47 mv_X6_finds rfl (ok_X6_finds (w := 3) (by decide) (by decide)) ?_
    exact r_iret dX6_unknown_20 ⟨by unfold sg_unknown; rw [if_pos h4], rfl, by unfold sg_unknown; rw [if_pos h4]⟩
  · refine r_aloadn dX6_unknown_7 rfl (by decide) ?_
    refine c_V0 (μz := mX6_spans) dX6_unknown_8 kl_RX6_133 mv_X6_spans rfl ok_X6_spans ?_
    refine r_goto 20 dX6_unknown_11 ?_
    exact r_iret dX6_unknown_20 ⟨by unfold sg_unknown; rw [if_neg h4], rfl, by unfold sg_unknown; rw [if_neg h4]⟩
theorem ok_X6_ahead {X : fp_X} {M : fp_M} {c : Nat} {n : Int32} (hw : g_wf M c): fp_Ev X mX6_ahead [.ref 49, .int n] fp_sh M (some (.int (sg_ahead M c n).1)) (sg_ahead M c n).2 := by
  refine fp_ok [some (.ref 49), some (.int n)] ?_
  refine r_iloadn dX6_ahead_0 rfl ?_
  refine r_i2l dX6_ahead_1 ?_
  refine r_lc 0 dX6_ahead_2 ?_
  refine r_ldc2 dX6_ahead_3 kc_RX6_138 ?_
  refine c_S3 (μz := mX6_isIn) dX6_ahead_6 kl_RX6_42 ms_X6_isIn (ok_X6_in (lo := 0) (hi := 500) (by decide) (by decide)) ?_
  refine r_if_eq 20 dX6_ahead_9 (fun h9 => ?_) (fun h9 => ?_)
  · refine r_aloadn dX6_ahead_20 rfl (by decide) ?_
    refine r_ldc dX6_ahead_21 kc_RX6_37 ?_
    refine c_V1 (μz := mX6_finds) dX6_ahead_23 kl_RX6_47 mv_X6_finds rfl (ok_X6_finds (w := 0) (by decide) (by decide)) ?_
    exact r_iret dX6_ahead_26 ⟨by unfold sg_ahead; rw [if_neg (bi_0.mp h9)], rfl, by unfold sg_ahead; rw [if_neg (bi_0.mp h9)]⟩
  · refine r_aloadn dX6_ahead_12 rfl (by decide) ?_
    refine r_iloadn dX6_ahead_13 rfl ?_
    refine c_V1 (μz := mX6_countIn) dX6_ahead_14 kl_RX6_96 mv_X6_countIn rfl (ok_X6_countIn hw) ?_
    refine r_goto 26 dX6_ahead_17 ?_
    exact r_iret dX6_ahead_26 ⟨by unfold sg_ahead; rw [if_pos (bi_1.mp h9)], rfl, by unfold sg_ahead; rw [if_pos (bi_1.mp h9)]⟩
theorem ok_X6_agree {X : fp_X} {M : fp_M} {c : Nat} {a : Int32} (hw : g_wf M c): fp_Ev X mX6_agree [.ref 49, .int a] fp_sh M (some (.int (sg_agree M c a).1)) (sg_agree M c a).2 := by
  refine fp_ok [some (.ref 49), some (.int a)] ?_
  refine r_aloadn dX6_agree_0 rfl (by decide) ?_
  refine r_iloadn dX6_agree_1 rfl ?_
  refine c_V1 (μz := mX6_isSet) dX6_agree_2 kl_RX6_140 mv_X6_isSet rfl ok_X6_isSet ?_
  refine r_if_ne 15 dX6_agree_5 (fun h5 => ?_) (fun h5 => ?_)
  · refine r_aloadn dX6_agree_15 rfl (by decide) ?_
    refine r_iloadn dX6_agree_16 rfl ?_
    refine c_V1 (μz := mX6_canHold) dX6_agree_17 kl_RX6_122 mv_X6_canHold rfl (ok_X6_canHold hw) ?_
    refine r_if_eq 27 dX6_agree_20 (fun h20 => ?_) (fun h20 => ?_)
    · refine r_ic (0) dX6_agree_27 ?_
      exact r_iret dX6_agree_28 ⟨by unfold sg_agree; rw [if_pos (bi_1.mp h5), if_pos h20], rfl, by unfold sg_agree; rw [if_pos (bi_1.mp h5)]⟩
    · refine r_ic (1) dX6_agree_23 ?_
      refine r_goto 28 dX6_agree_24 ?_
      exact r_iret dX6_agree_28 ⟨by unfold sg_agree; rw [if_pos (bi_1.mp h5), if_neg h20], rfl, by unfold sg_agree; rw [if_pos (bi_1.mp h5)]⟩
  · refine r_aloadn dX6_agree_8 rfl (by decide) ?_
    refine r_ldc dX6_agree_9 kc_RX6_37 ?_
    refine c_V1 (μz := mX6_finds) dX6_agree_11 kl_RX6_47 mv_X6_finds rfl (ok_X6_finds (w := 0) (by decide) (by decide)) ?_
    exact r_iret dX6_agree_14 ⟨by unfold sg_agree; rw [if_neg (bi_0.mp h5)], rfl, by unfold sg_agree; rw [if_neg (bi_0.mp h5)]⟩
theorem ok_X6_span {X : fp_X} {M : fp_M} {c : Nat} {a b w : Int32} (hw : g_wf M c): fp_Ev X mX6_span [.ref 49, .int a, .int b, .int w] fp_sh M (some (.int (sg_span M c a b w).1)) (sg_span M c a b w).2 := by
  refine fp_ok [some (.ref 49), some (.int a), some (.int b), some (.int w)] ?_
  refine r_iloadn dX6_span_0 rfl ?_
  refine r_iloadn dX6_span_1 rfl ?_
  refine c_S2 (μz := mX6_isPair) dX6_span_2 kl_RX6_70 ms_X6_isPair ok_X6_isPair ?_
  refine r_if_eq 20 dX6_span_5 (fun h5 => ?_) (fun h5 => ?_)
  · refine r_aloadn dX6_span_20 rfl (by decide) ?_
    refine r_ldc dX6_span_21 kc_RX6_37 ?_
    refine c_V1 (μz := mX6_finds) dX6_span_23 kl_RX6_47 mv_X6_finds rfl (ok_X6_finds (w := 0) (by decide) (by decide)) ?_
    exact r_iret dX6_span_26 ⟨by unfold sg_span; rw [if_neg (fun q => absurd q.1 (bi_0.mp h5))], rfl, by unfold sg_span; rw [if_neg (fun q => absurd q.1 (bi_0.mp h5))]⟩
  · refine r_iloadn dX6_span_8 rfl ?_
    refine r_i2l dX6_span_9 ?_
    refine r_lc 0 dX6_span_10 ?_
    refine r_ldc2 dX6_span_11 kc_RX6_131 ?_
    refine c_S3 (μz := mX6_isIn) dX6_span_14 kl_RX6_42 ms_X6_isIn (ok_X6_in (lo := 0) (hi := 2) (by decide) (by decide)) ?_
    refine r_if_ne 27 dX6_span_17 (fun h17 => ?_) (fun h17 => ?_)
    · have hp : k_pair a b ∧ (0 ≤ w ∧ w ≤ 2) := ⟨bi_1.mp h5, bi_1.mp h17⟩
      obtain ⟨ea, la⟩ := g_v7 hp.1.1
      obtain ⟨eb, lb⟩ := g_v7 hp.1.2.1
      refine r_aloadn dX6_span_27 rfl (by decide) ?_
      refine c_V0 (μz := mX6_isFitting) dX6_span_28 kl_RX6_128 mv_X6_isFitting rfl (ok_X6_isFitting hw) ?_
      refine r_if_ne 41 dX6_span_31 (fun h31 => ?_) (fun h31 => ?_)
      · refine r_iloadn dX6_span_41 rfl ?_
        refine r_if_ne 60 dX6_span_42 (fun h42 => ?_) (fun h42 => ?_)
        · refine r_iloadn dX6_span_60 rfl ?_
          refine r_ic (1) dX6_span_61 ?_
          refine r_icmp_ne 79 dX6_span_62 (fun h62 => ?_) (fun h62 => ?_)
          · refine r_aloadn dX6_span_79 rfl (by decide) ?_
            refine r_iloadn dX6_span_80 rfl ?_
            refine r_iloadn dX6_span_81 rfl ?_
            refine c_V2 (μz := mX6_spanOf) dX6_span_82 kl_RX6_125 mv_X6_spanOf rfl (ok_X6_spanOf ea eb la lb) ?_
            exact r_iret dX6_span_85 ⟨by unfold sg_span; rw [if_pos hp, if_neg h31, if_neg h42, if_neg h62], rfl, by unfold sg_span; rw [if_pos hp, if_neg h31, if_neg h42, if_neg h62]⟩
          · refine r_aloadn dX6_span_65 rfl (by decide) ?_
            refine r_getfr dX6_span_66 kf_RX6_34 rfl rfl ?_
            refine r_bp (8) dX6_span_69 ?_
            refine r_iloadn dX6_span_71 rfl ?_
            refine r_imul dX6_span_72 ?_
            refine r_iloadn dX6_span_73 rfl ?_
            refine r_iadd dX6_span_74 ?_
            refine r_ialdL (j := 8 * k_v a + k_v b) dX6_span_75 rfl ((congr (congrArg (fun u v : Int32 => 8 * u + v) ea) eb).trans (g_8 _ la _ lb)) ⟨by omega, by decide⟩ ?_
            refine r_goto 85 dX6_span_76 ?_
            exact r_iret dX6_span_85 ⟨by unfold sg_span; rw [if_pos hp, if_neg h31, if_neg h42, if_pos h62], rfl, by unfold sg_span; rw [if_pos hp, if_neg h31, if_neg h42, if_pos h62]⟩
        · refine r_aloadn dX6_span_45 rfl (by decide) ?_
          refine r_getfr dX6_span_46 kf_RX6_34 rfl rfl ?_
          refine r_bp (8) dX6_span_49 ?_
          refine r_iloadn dX6_span_51 rfl ?_
          refine r_imul dX6_span_52 ?_
          refine r_iloadn dX6_span_53 rfl ?_
          refine r_iadd dX6_span_54 ?_
          refine r_ialdL (j := 8 * k_v b + k_v a) dX6_span_55 rfl ((congr (congrArg (fun u v : Int32 => 8 * u + v) eb) ea).trans (g_8 _ lb _ la)) ⟨by omega, by decide⟩ ?_
          refine r_ineg dX6_span_56 ?_
          refine r_goto 85 dX6_span_57 ?_
          exact r_iret dX6_span_85 ⟨by unfold sg_span; rw [if_pos hp, if_neg h31, if_pos h42], rfl, by unfold sg_span; rw [if_pos hp, if_neg h31, if_pos h42]⟩
      · refine r_aloadn dX6_span_34 rfl (by decide) ?_
        refine r_ldc dX6_span_35 kc_RX6_46 ?_
        refine c_V1 (μz := mX6_finds) dX6_span_37 kl_RX6_47 mv_X6_finds rfl (ok_X6_finds (w := 3) (by decide) (by decide)) ?_
        exact r_iret dX6_span_40 ⟨by unfold sg_span; rw [if_pos hp, if_pos h31], rfl, by unfold sg_span; rw [if_pos hp, if_pos h31]⟩
    · refine r_aloadn dX6_span_20 rfl (by decide) ?_
      refine r_ldc dX6_span_21 kc_RX6_37 ?_
      refine c_V1 (μz := mX6_finds) dX6_span_23 kl_RX6_47 mv_X6_finds rfl (ok_X6_finds (w := 0) (by decide) (by decide)) ?_
      exact r_iret dX6_span_26 ⟨by unfold sg_span; rw [if_neg (fun q => absurd q.2 (bi_0.mp h17))], rfl, by unfold sg_span; rw [if_neg (fun q => absurd q.2 (bi_0.mp h17))]⟩
def sg_can (M : fp_M) (c : Nat) (a b v : Int32) : Int32 × fp_M := if k_pair a b ∧ (-999 ≤ v ∧ v ≤ 999) then ((if ¬ g_ok (g_cc M c) = 0 ∧ v ≤ g_cc M c 58 (8 * k_v a + k_v b) ∧ -v ≤ g_cc M c 58 (8 * k_v b + k_v a) then 1 else 0), g_cc M c) else (-1000001, g_fd M 0)
def sg_sure (M : fp_M) (c : Nat) (a : Int32) : Int32 × fp_M := if 0 ≤ a ∧ a ≤ 7 then (if g_ok (g_cc M c) = 0 then (-1000004, g_fd (g_cc M c) 3) else (nI (k_bn (fun i => decide (g_wid (g_cc M c) (k_v a) i = 1)) 8), g_cc M c)) else (-1000001, g_fd M 0)
def sg_below (M : fp_M) (c : Nat) (a : Int32) : Int32 × fp_M := if 0 ≤ a ∧ a ≤ 7 then (if g_ok (g_cc M c) = 0 then (-1000004, g_fd (g_cc M c) 3) else (nI (k_bn (fun i => decide (g_cc M c 58 (8 * i + k_v a) < 0)) 8), g_cc M c)) else (-1000001, g_fd M 0)
theorem ok_X6_can {X : fp_X} {M : fp_M} {c : Nat} {a b v : Int32} (hw : g_wf M c): fp_Ev X mX6_can [.ref 49, .int a, .int b, .int v] fp_sh M (some (.int (sg_can M c a b v).1)) (sg_can M c a b v).2 := by
  refine fp_ok [some (.ref 49), some (.int a), some (.int b), some (.int v)] ?_
  refine r_iloadn dX6_can_0 rfl ?_
  refine r_iloadn dX6_can_1 rfl ?_
  refine c_S2 (μz := mX6_isPair) dX6_can_2 kl_RX6_70 ms_X6_isPair ok_X6_isPair ?_
  refine r_if_eq 22 dX6_can_5 (fun h5 => ?_) (fun h5 => ?_)
  · refine r_aloadn dX6_can_22 rfl (by decide) ?_
    refine r_ldc dX6_can_23 kc_RX6_37 ?_
    refine c_V1 (μz := mX6_finds) dX6_can_25 kl_RX6_47 mv_X6_finds rfl (ok_X6_finds (w := 0) (by decide) (by decide)) ?_
    exact r_iret dX6_can_28 ⟨by unfold sg_can; rw [if_neg (fun q => absurd q.1 (bi_0.mp h5))], rfl, by unfold sg_can; rw [if_neg (fun q => absurd q.1 (bi_0.mp h5))]⟩
  · refine r_iloadn dX6_can_8 rfl ?_
    refine r_i2l dX6_can_9 ?_
    refine r_ldc2 dX6_can_10 kc_RX6_136 ?_
    refine r_ldc2 dX6_can_13 kc_RX6_78 ?_
    refine c_S3 (μz := mX6_isIn) dX6_can_16 kl_RX6_42 ms_X6_isIn (ok_X6_in (lo := (-999)) (hi := 999) (by decide) (by decide)) ?_
    refine r_if_ne 29 dX6_can_19 (fun h19 => ?_) (fun h19 => ?_)
    · have hp : k_pair a b ∧ (-999 ≤ v ∧ v ≤ 999) := ⟨bi_1.mp h5, bi_1.mp h19⟩
      obtain ⟨ea, la⟩ := g_v7 hp.1.1
      obtain ⟨eb, lb⟩ := g_v7 hp.1.2.1
      refine r_aloadn dX6_can_29 rfl (by decide) ?_
      refine c_V0 (μz := mX6_isFitting) dX6_can_30 kl_RX6_128 mv_X6_isFitting rfl (ok_X6_isFitting hw) ?_
      refine r_if_eq 71 dX6_can_33 (fun h33 => ?_) (fun h33 => ?_)
      · refine r_ic (0) dX6_can_71 ?_
        exact r_iret dX6_can_72 ⟨by unfold sg_can; rw [if_pos hp, if_neg (fun q => q.1 h33)], rfl, by unfold sg_can; rw [if_pos hp]⟩
      · refine r_iloadn dX6_can_36 rfl ?_
        refine r_aloadn dX6_can_37 rfl (by decide) ?_
        refine r_getfr dX6_can_38 kf_RX6_34 rfl rfl ?_
        refine r_bp (8) dX6_can_41 ?_
        refine r_iloadn dX6_can_43 rfl ?_
        refine r_imul dX6_can_44 ?_
        refine r_iloadn dX6_can_45 rfl ?_
        refine r_iadd dX6_can_46 ?_
        refine r_ialdL (j := 8 * k_v a + k_v b) dX6_can_47 rfl ((congr (congrArg (fun u v : Int32 => 8 * u + v) ea) eb).trans (g_8 _ la _ lb)) ⟨by omega, by decide⟩ ?_
        refine r_icmp_gt 71 dX6_can_48 (fun h48 => ?_) (fun h48 => ?_)
        · refine r_ic (0) dX6_can_71 ?_
          exact r_iret dX6_can_72 ⟨by unfold sg_can; rw [if_pos hp, if_neg (fun q => absurd h48 (Int32.not_lt.mpr q.2.1))], rfl, by unfold sg_can; rw [if_pos hp]⟩
        · refine r_iloadn dX6_can_51 rfl ?_
          refine r_ineg dX6_can_52 ?_
          refine r_aloadn dX6_can_53 rfl (by decide) ?_
          refine r_getfr dX6_can_54 kf_RX6_34 rfl rfl ?_
          refine r_bp (8) dX6_can_57 ?_
          refine r_iloadn dX6_can_59 rfl ?_
          refine r_imul dX6_can_60 ?_
          refine r_iloadn dX6_can_61 rfl ?_
          refine r_iadd dX6_can_62 ?_
          refine r_ialdL (j := 8 * k_v b + k_v a) dX6_can_63 rfl ((congr (congrArg (fun u v : Int32 => 8 * u + v) eb) ea).trans (g_8 _ lb _ la)) ⟨by omega, by decide⟩ ?_
          refine r_icmp_gt 71 dX6_can_64 (fun h64 => ?_) (fun h64 => ?_)
          · refine r_ic (0) dX6_can_71 ?_
            exact r_iret dX6_can_72 ⟨by unfold sg_can; rw [if_pos hp, if_neg (fun q => absurd h64 (Int32.not_lt.mpr q.2.2))], rfl, by unfold sg_can; rw [if_pos hp]⟩
          · refine r_ic (1) dX6_can_67 ?_
            refine r_goto 72 dX6_can_68 ?_
            exact r_iret dX6_can_72 ⟨by unfold sg_can; rw [if_pos hp, if_pos ⟨h33, Int32.not_lt.mp h48, Int32.not_lt.mp h64⟩], rfl, by unfold sg_can; rw [if_pos hp]⟩
    · refine r_aloadn dX6_can_22 rfl (by decide) ?_
      refine r_ldc dX6_can_23 kc_RX6_37 ?_
      refine c_V1 (μz := mX6_finds) dX6_can_25 kl_RX6_47 mv_X6_finds rfl (ok_X6_finds (w := 0) (by decide) (by decide)) ?_
      exact r_iret dX6_can_28 ⟨by unfold sg_can; rw [if_neg (fun q => absurd q.2 (bi_0.mp h19))], rfl, by unfold sg_can; rw [if_neg (fun q => absurd q.2 (bi_0.mp h19))]⟩
theorem lp_X6_sure {X : fp_X} {N : fp_M} {a : Int32} (ea : a = nI (k_v a)) (la : k_v a < 8) : ∀ (n i : Nat), i + n = 8 → fp_W X mX6_sure 32 [some (.ref 49), some (.int a), some (.int (nI (k_bn (fun i => decide (g_wid N (k_v a) i = 1)) i))), some (.int (nI i))] [] fp_sh N 0 0 (fun r s m => r = some (.int (nI (k_bn (fun i => decide (g_wid N (k_v a) i = 1)) 8))) ∧ s = fp_sh ∧ m = N) := by
  intro n
  induction n with
  | zero =>
    intro i hi 
    have ti : (nI i).toInt = (i : Int) := nI_toInt (by omega)
    refine r_iloadn dX6_sure_32 rfl ?_
    refine r_bp (8) dX6_sure_33 ?_
    refine r_icmp_ge 64 dX6_sure_35 (fun h35 => ?_) (fun h35 => ?_)
    · refine r_iloadn dX6_sure_64 rfl ?_
      exact r_iret dX6_sure_65 ⟨by rw [show i = 8 by omega], rfl, rfl⟩
    · exfalso; simp only [Int32.le_iff_toInt_le, Int32.lt_iff_toInt_lt, Int32.reduceToInt] at h35; omega
  | succ n ih =>
    intro i hi 
    have ti : (nI i).toInt = (i : Int) := nI_toInt (by omega)
    refine r_iloadn dX6_sure_32 rfl ?_
    refine r_bp (8) dX6_sure_33 ?_
    refine r_icmp_ge 64 dX6_sure_35 (fun h35 => ?_) (fun h35 => ?_)
    · exfalso; simp only [Int32.le_iff_toInt_le, Int32.lt_iff_toInt_lt, Int32.reduceToInt] at h35; omega
    · refine r_iloadn dX6_sure_38 rfl ?_
      refine r_aloadn dX6_sure_39 rfl (by decide) ?_
      refine r_iloadn dX6_sure_40 rfl ?_
      refine r_iloadn dX6_sure_41 rfl ?_
      refine c_V2 (μz := mX6_spanOf) dX6_sure_42 kl_RX6_125 mv_X6_spanOf rfl (ok_X6_spanOf (b := i) ea rfl la (by omega)) ?_
      refine r_ic (1) dX6_sure_45 ?_
      refine r_icmp_ne 55 dX6_sure_46 (fun h46 => ?_) (fun h46 => ?_)
      · refine r_ic (0) dX6_sure_55 ?_
        refine r_ior dX6_sure_56 ?_
        refine r_istore2 dX6_sure_57 ?_
        refine r_iinc3 (1) dX6_sure_58 ?_
        refine r_goto 32 dX6_sure_61 ?_
        rw [nI_1, Int32.or_zero]
        have e := ih (i + 1) (by omega)
        rw [show (k_bn (fun i => decide (g_wid N (k_v a) i = 1)) (i + 1)) = (k_bn (fun i => decide (g_wid N (k_v a) i = 1)) i) from k_bn_no (decide_eq_false h46)] at e
        exact e
      · refine r_ic (1) dX6_sure_49 ?_
        refine r_iloadn dX6_sure_50 rfl ?_
        refine r_ishl dX6_sure_51 ?_
        refine r_goto 56 dX6_sure_52 ?_
        refine r_ior dX6_sure_56 ?_
        refine r_istore2 dX6_sure_57 ?_
        refine r_iinc3 (1) dX6_sure_58 ?_
        refine r_goto 32 dX6_sure_61 ?_
        rw [nI_1, show nI (k_bn (fun i => decide (g_wid N (k_v a) i = 1)) i) ||| _ = nI (k_bn (fun i => decide (g_wid N (k_v a) i = 1)) (i + 1)) from k_bn_or (by omega) (decide_eq_true h46)]
        exact ih (i + 1) (by omega)

theorem ok_X6_sure {X : fp_X} {M : fp_M} {c : Nat} {a : Int32} (hw : g_wf M c): fp_Ev X mX6_sure [.ref 49, .int a] fp_sh M (some (.int (sg_sure M c a).1)) (sg_sure M c a).2 := by
  refine fp_ok [some (.ref 49), some (.int a), none, none] ?_
  refine r_iloadn dX6_sure_0 rfl ?_
  refine c_S1 (μz := mX6_isTown) dX6_sure_1 kl_RX6_38 ms_X6_isTown ok_X6_isTown ?_
  refine r_if_ne 14 dX6_sure_4 (fun h4 => ?_) (fun h4 => ?_)
  · refine r_aloadn dX6_sure_14 rfl (by decide) ?_
    refine c_V0 (μz := mX6_isFitting) dX6_sure_15 kl_RX6_128 mv_X6_isFitting rfl (ok_X6_isFitting hw) ?_
    refine r_if_ne 28 dX6_sure_18 (fun h18 => ?_) (fun h18 => ?_)
    · refine r_ic (0) dX6_sure_28 ?_
      refine r_istore2 dX6_sure_29 ?_
      refine r_ic (0) dX6_sure_30 ?_
      refine r_istore3 dX6_sure_31 ?_
      obtain ⟨ea, la⟩ := g_v7 (bi_1.mp h4)
      unfold sg_sure
      rw [if_pos (bi_1.mp h4), if_neg h18]
      exact lp_X6_sure ea la 8 0 (by omega)
    · refine r_aloadn dX6_sure_21 rfl (by decide) ?_
      refine r_ldc dX6_sure_22 kc_RX6_46 ?_
      refine c_V1 (μz := mX6_finds) dX6_sure_24 kl_RX6_47 mv_X6_finds rfl (ok_X6_finds (w := 3) (by decide) (by decide)) ?_
      exact r_iret dX6_sure_27 ⟨by unfold sg_sure; rw [if_pos (bi_1.mp h4), if_pos h18], rfl, by unfold sg_sure; rw [if_pos (bi_1.mp h4), if_pos h18]⟩
  · refine r_aloadn dX6_sure_7 rfl (by decide) ?_
    refine r_ldc dX6_sure_8 kc_RX6_37 ?_
    refine c_V1 (μz := mX6_finds) dX6_sure_10 kl_RX6_47 mv_X6_finds rfl (ok_X6_finds (w := 0) (by decide) (by decide)) ?_
    exact r_iret dX6_sure_13 ⟨by unfold sg_sure; rw [if_neg (bi_0.mp h4)], rfl, by unfold sg_sure; rw [if_neg (bi_0.mp h4)]⟩
theorem lp_X6_below {X : fp_X} {N : fp_M} {a : Int32} (ea : a = nI (k_v a)) (la : k_v a < 8) : ∀ (n i : Nat), i + n = 8 → fp_W X mX6_below 32 [some (.ref 49), some (.int a), some (.int (nI (k_bn (fun i => decide (N 58 (8 * i + k_v a) < 0)) i))), some (.int (nI i))] [] fp_sh N 0 0 (fun r s m => r = some (.int (nI (k_bn (fun i => decide (N 58 (8 * i + k_v a) < 0)) 8))) ∧ s = fp_sh ∧ m = N) := by
  intro n
  induction n with
  | zero =>
    intro i hi 
    have ti : (nI i).toInt = (i : Int) := nI_toInt (by omega)
    refine r_iloadn dX6_below_32 rfl ?_
    refine r_bp (8) dX6_below_33 ?_
    refine r_icmp_ge 68 dX6_below_35 (fun h35 => ?_) (fun h35 => ?_)
    · refine r_iloadn dX6_below_68 rfl ?_
      exact r_iret dX6_below_69 ⟨by rw [show i = 8 by omega], rfl, rfl⟩
    · exfalso; simp only [Int32.le_iff_toInt_le, Int32.lt_iff_toInt_lt, Int32.reduceToInt] at h35; omega
  | succ n ih =>
    intro i hi 
    have ti : (nI i).toInt = (i : Int) := nI_toInt (by omega)
    refine r_iloadn dX6_below_32 rfl ?_
    refine r_bp (8) dX6_below_33 ?_
    refine r_icmp_ge 68 dX6_below_35 (fun h35 => ?_) (fun h35 => ?_)
    · exfalso; simp only [Int32.le_iff_toInt_le, Int32.lt_iff_toInt_lt, Int32.reduceToInt] at h35; omega
    · refine r_iloadn dX6_below_38 rfl ?_
      refine r_aloadn dX6_below_39 rfl (by decide) ?_
      refine r_getfr dX6_below_40 kf_RX6_34 rfl rfl ?_
      refine r_bp (8) dX6_below_43 ?_
      refine r_iloadn dX6_below_45 rfl ?_
      refine r_imul dX6_below_46 ?_
      refine r_iloadn dX6_below_47 rfl ?_
      refine r_iadd dX6_below_48 ?_
      refine r_ialdL (j := 8 * i + k_v a) dX6_below_49 rfl ((congrArg (fun v : Int32 => 8 * nI i + v) ea).trans (g_8 i (by omega) _ la)) ⟨by omega, by decide⟩ ?_
      refine r_if_ge 59 dX6_below_50 (fun h50 => ?_) (fun h50 => ?_)
      · refine r_ic (0) dX6_below_59 ?_
        refine r_ior dX6_below_60 ?_
        refine r_istore2 dX6_below_61 ?_
        refine r_iinc3 (1) dX6_below_62 ?_
        refine r_goto 32 dX6_below_65 ?_
        rw [nI_1, Int32.or_zero]
        have e := ih (i + 1) (by omega)
        rw [show (k_bn (fun i => decide (N 58 (8 * i + k_v a) < 0)) (i + 1)) = (k_bn (fun i => decide (N 58 (8 * i + k_v a) < 0)) i) from k_bn_no (decide_eq_false (Int32.not_lt.mpr h50))] at e
        exact e
      · refine r_ic (1) dX6_below_53 ?_
        refine r_iloadn dX6_below_54 rfl ?_
        refine r_ishl dX6_below_55 ?_
        refine r_goto 60 dX6_below_56 ?_
        refine r_ior dX6_below_60 ?_
        refine r_istore2 dX6_below_61 ?_
        refine r_iinc3 (1) dX6_below_62 ?_
        refine r_goto 32 dX6_below_65 ?_
        rw [nI_1, show nI (k_bn (fun i => decide (N 58 (8 * i + k_v a) < 0)) i) ||| _ = nI (k_bn (fun i => decide (N 58 (8 * i + k_v a) < 0)) (i + 1)) from k_bn_or (by omega) (decide_eq_true (Int32.not_le.mp h50))]
        exact ih (i + 1) (by omega)

theorem ok_X6_below {X : fp_X} {M : fp_M} {c : Nat} {a : Int32} (hw : g_wf M c): fp_Ev X mX6_below [.ref 49, .int a] fp_sh M (some (.int (sg_below M c a).1)) (sg_below M c a).2 := by
  refine fp_ok [some (.ref 49), some (.int a), none, none] ?_
  refine r_iloadn dX6_below_0 rfl ?_
  refine c_S1 (μz := mX6_isTown) dX6_below_1 kl_RX6_38 ms_X6_isTown ok_X6_isTown ?_
  refine r_if_ne 14 dX6_below_4 (fun h4 => ?_) (fun h4 => ?_)
  · refine r_aloadn dX6_below_14 rfl (by decide) ?_
    refine c_V0 (μz := mX6_isFitting) dX6_below_15 kl_RX6_128 mv_X6_isFitting rfl (ok_X6_isFitting hw) ?_
    refine r_if_ne 28 dX6_below_18 (fun h18 => ?_) (fun h18 => ?_)
    · refine r_ic (0) dX6_below_28 ?_
      refine r_istore2 dX6_below_29 ?_
      refine r_ic (0) dX6_below_30 ?_
      refine r_istore3 dX6_below_31 ?_
      obtain ⟨ea, la⟩ := g_v7 (bi_1.mp h4)
      unfold sg_below
      rw [if_pos (bi_1.mp h4), if_neg h18]
      exact lp_X6_below ea la 8 0 (by omega)
    · refine r_aloadn dX6_below_21 rfl (by decide) ?_
      refine r_ldc dX6_below_22 kc_RX6_46 ?_
      refine c_V1 (μz := mX6_finds) dX6_below_24 kl_RX6_47 mv_X6_finds rfl (ok_X6_finds (w := 3) (by decide) (by decide)) ?_
      exact r_iret dX6_below_27 ⟨by unfold sg_below; rw [if_pos (bi_1.mp h4), if_pos h18], rfl, by unfold sg_below; rw [if_pos (bi_1.mp h4), if_pos h18]⟩
  · refine r_aloadn dX6_below_7 rfl (by decide) ?_
    refine r_ldc dX6_below_8 kc_RX6_37 ?_
    refine c_V1 (μz := mX6_finds) dX6_below_10 kl_RX6_47 mv_X6_finds rfl (ok_X6_finds (w := 0) (by decide) (by decide)) ?_
    exact r_iret dX6_below_13 ⟨by unfold sg_below; rw [if_neg (bi_0.mp h4)], rfl, by unfold sg_below; rw [if_neg (bi_0.mp h4)]⟩
