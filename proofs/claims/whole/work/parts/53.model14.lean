/-! ===== the other one: write ===== -/
theorem g_ix {i s : Int32} {z : Nat} (hz : z ≤ 40) (hs : s = nI z) (h : 0 ≤ i ∧ i ≤ s - 1) : i = nI (k_v i) ∧ k_v i < z := by
  have e : (s - 1).toInt = (z : Int) - 1 := by
    rw [hs, Int32.toInt_sub, nI_toInt (by omega)]
    simp only [Int32.reduceToInt]
    exact Int.bmod_eq_of_le (by omega) (by omega)
  have h2 := Int32.le_iff_toInt_le.mp h.2
  rw [e] at h2
  exact g_vb h.1 (by omega) (by omega)
/-- sheets are at most 40 long -/
def g_sz (M : fp_M) : Prop := ∀ k, k < 4 → ∃ z : Nat, z ≤ 40 ∧ M 56 k = nI z
def sg_write (M : fp_M) (t i v : Int32) : Int32 × fp_M := if 0 ≤ t ∧ t ≤ 3 then (if 0 ≤ M 55 (k_v t) then (if 0 ≤ i ∧ i ≤ M 56 (k_v t) - 1 then (1, fp_wr M 57 (40 * k_v t + k_v i) (k_bits (M 55 (k_v t)) v)) else (-1000001, g_fd M 0)) else (-1000006, g_fd M 5)) else (-1000001, g_fd M 0)
theorem ok_X6_write {X : fp_X} {M : fp_M} {t i v : Int32} (hz : g_sz M): fp_Ev X mX6_write [.ref 49, .int t, .int i, .int v] fp_sh M (some (.int (sg_write M t i v).1)) (sg_write M t i v).2 := by
  refine fp_ok [some (.ref 49), some (.int t), some (.int i), some (.int v)] ?_
  refine r_iloadn dX6_write_0 rfl ?_
  refine c_S1 (μz := mX6_isSheet) dX6_write_1 kl_RX6_255 ms_X6_isSheet ok_X6_isSheet ?_
  refine r_if_ne 14 dX6_write_4 (fun h4 => ?_) (fun h4 => ?_)
  · have ht := bi_1.mp h4
    obtain ⟨et, lt⟩ := g_v3 ht
    obtain ⟨z, z40, ez⟩ := hz (k_v t) lt
    refine r_aloadn dX6_write_14 rfl (by decide) ?_
    refine r_getfr dX6_write_15 kf_RX6_25 rfl rfl ?_
    refine r_iloadn dX6_write_18 rfl ?_
    refine r_ialdL (j := k_v t) dX6_write_19 rfl et ⟨lt, by decide⟩ ?_
    refine r_if_ge 30 dX6_write_20 (fun h20 => ?_) (fun h20 => ?_)
    · refine r_iloadn dX6_write_30 rfl ?_
      refine r_i2l dX6_write_31 ?_
      refine r_lc 0 dX6_write_32 ?_
      refine r_aloadn dX6_write_33 rfl (by decide) ?_
      refine r_getfr dX6_write_34 kf_RX6_28 rfl rfl ?_
      refine r_iloadn dX6_write_37 rfl ?_
      refine r_ialdL (j := k_v t) dX6_write_38 rfl et ⟨lt, by decide⟩ ?_
      refine r_ic (1) dX6_write_39 ?_
      refine r_isub dX6_write_40 ?_
      refine r_i2l dX6_write_41 ?_
      refine c_S3 (μz := mX6_isIn) dX6_write_42 kl_RX6_42 ms_X6_isIn (ok_X6_in (lo := 0) (hi := M 56 (k_v t) - 1) (by decide) rfl) ?_
      refine r_if_ne 55 dX6_write_45 (fun h45 => ?_) (fun h45 => ?_)
      · obtain ⟨ei, li⟩ := g_ix z40 ez (bi_1.mp h45)
        refine r_aloadn dX6_write_55 rfl (by decide) ?_
        refine r_getfr dX6_write_56 kf_RX6_31 rfl rfl ?_
        refine r_bp (40) dX6_write_59 ?_
        refine r_iloadn dX6_write_61 rfl ?_
        refine r_imul dX6_write_62 ?_
        refine r_iloadn dX6_write_63 rfl ?_
        refine r_iadd dX6_write_64 ?_
        refine r_aloadn dX6_write_65 rfl (by decide) ?_
        refine r_getfr dX6_write_66 kf_RX6_25 rfl rfl ?_
        refine r_iloadn dX6_write_69 rfl ?_
        refine r_ialdL (j := k_v t) dX6_write_70 rfl et ⟨lt, by decide⟩ ?_
        refine r_bp (8) dX6_write_71 ?_
        refine r_icmp_ne 81 dX6_write_73 (fun h73 => ?_) (fun h73 => ?_)
        · refine r_aloadn dX6_write_81 rfl (by decide) ?_
          refine r_getfr dX6_write_82 kf_RX6_25 rfl rfl ?_
          refine r_iloadn dX6_write_85 rfl ?_
          refine r_ialdL (j := k_v t) dX6_write_86 rfl et ⟨lt, by decide⟩ ?_
          refine r_bp (16) dX6_write_87 ?_
          refine r_icmp_ne 97 dX6_write_89 (fun h89 => ?_) (fun h89 => ?_)
          · refine r_iloadn dX6_write_97 rfl ?_
            refine r_iastL (j := 40 * k_v t + k_v i) dX6_write_98 rfl ((congr (congrArg (fun u w : Int32 => 40 * u + w) et) ei).trans (g_40 _ lt _ (by omega))) ⟨by omega, by decide⟩ ?_
            refine r_ic (1) dX6_write_99 ?_
            exact r_iret dX6_write_100 ⟨by unfold sg_write; rw [if_pos ht, if_pos h20, if_pos (bi_1.mp h45)], rfl, by unfold sg_write; rw [if_pos ht, if_pos h20, if_pos (bi_1.mp h45)]; unfold k_bits; rw [if_neg h73, if_neg h89]⟩
          · refine r_iloadn dX6_write_92 rfl ?_
            refine r_i2s dX6_write_93 ?_
            refine r_goto 98 dX6_write_94 ?_
            refine r_iastL (j := 40 * k_v t + k_v i) dX6_write_98 rfl ((congr (congrArg (fun u w : Int32 => 40 * u + w) et) ei).trans (g_40 _ lt _ (by omega))) ⟨by omega, by decide⟩ ?_
            refine r_ic (1) dX6_write_99 ?_
            exact r_iret dX6_write_100 ⟨by unfold sg_write; rw [if_pos ht, if_pos h20, if_pos (bi_1.mp h45)], rfl, by unfold sg_write; rw [if_pos ht, if_pos h20, if_pos (bi_1.mp h45)]; unfold k_bits; rw [if_neg h73, if_pos h89]⟩
        · refine r_iloadn dX6_write_76 rfl ?_
          refine r_i2b dX6_write_77 ?_
          refine r_goto 98 dX6_write_78 ?_
          refine r_iastL (j := 40 * k_v t + k_v i) dX6_write_98 rfl ((congr (congrArg (fun u w : Int32 => 40 * u + w) et) ei).trans (g_40 _ lt _ (by omega))) ⟨by omega, by decide⟩ ?_
          refine r_ic (1) dX6_write_99 ?_
          exact r_iret dX6_write_100 ⟨by unfold sg_write; rw [if_pos ht, if_pos h20, if_pos (bi_1.mp h45)], rfl, by unfold sg_write; rw [if_pos ht, if_pos h20, if_pos (bi_1.mp h45)]; unfold k_bits; rw [if_pos h73]⟩
      · refine r_aloadn dX6_write_48 rfl (by decide) ?_
        refine r_ldc dX6_write_49 kc_RX6_37 ?_
        refine c_V1 (μz := mX6_finds) dX6_write_51 kl_RX6_47 mv_X6_finds rfl (ok_X6_finds (w := 0) (by decide) (by decide)) ?_
        exact r_iret dX6_write_54 ⟨by unfold sg_write; rw [if_pos ht, if_pos h20, if_neg (bi_0.mp h45)], rfl, by unfold sg_write; rw [if_pos ht, if_pos h20, if_neg (bi_0.mp h45)]⟩
    · refine r_aloadn dX6_write_23 rfl (by decide) ?_
      refine r_ldc dX6_write_24 kc_RX6_250 ?_
      refine c_V1 (μz := mX6_finds) dX6_write_26 kl_RX6_47 mv_X6_finds rfl (ok_X6_finds (w := 5) (by decide) (by decide)) ?_
      exact r_iret dX6_write_29 ⟨by unfold sg_write; rw [if_pos ht, if_neg h20], rfl, by unfold sg_write; rw [if_pos ht, if_neg h20]⟩
  · refine r_aloadn dX6_write_7 rfl (by decide) ?_
    refine r_ldc dX6_write_8 kc_RX6_37 ?_
    refine c_V1 (μz := mX6_finds) dX6_write_10 kl_RX6_47 mv_X6_finds rfl (ok_X6_finds (w := 0) (by decide) (by decide)) ?_
    exact r_iret dX6_write_13 ⟨by unfold sg_write; rw [if_neg (bi_0.mp h4)], rfl, by unfold sg_write; rw [if_neg (bi_0.mp h4)]⟩
