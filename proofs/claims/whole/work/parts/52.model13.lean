/-! ===== the other one: as ===== -/
/-- spots hold letters, or none -/
def g_sp (M : fp_M) : Prop := ∀ k, k < 10 → M 50 (53 + k) = -1 ∨ ∃ i : Nat, i < 8 ∧ M 50 (53 + k) = nI i
def sg_as (M : fp_M) (p k : Int32) : Int32 × fp_M := if (0 ≤ p ∧ p ≤ 9) ∧ (0 ≤ k ∧ k ≤ 6) then (if 0 ≤ M 50 (53 + k_v p) then (if g_und (M 50 (5 + 6 * k_v (M 50 (53 + k_v p)) + 0)) k then (M 50 (53 + k_v p), M) else (-1000003, g_fd M 2)) else (-1000006, g_fd M 5)) else (-1000001, g_fd M 0)
theorem ok_X6_as {X : fp_X} {M : fp_M} {p k : Int32} (hs : g_sp M): fp_Ev X mX6_as [.ref 49, .int p, .int k] fp_sh M (some (.int (sg_as M p k).1)) (sg_as M p k).2 := by
  refine fp_ok [some (.ref 49), some (.int p), some (.int k), none] ?_
  refine r_iloadn dX6_as_0 rfl ?_
  refine r_i2l dX6_as_1 ?_
  refine r_lc 0 dX6_as_2 ?_
  refine r_ldc2 dX6_as_3 kc_RX6_88 ?_
  refine c_S3 (μz := mX6_isIn) dX6_as_6 kl_RX6_42 ms_X6_isIn (ok_X6_in (lo := 0) (hi := 9) (by decide) (by decide)) ?_
  refine r_if_eq 24 dX6_as_9 (fun h9 => ?_) (fun h9 => ?_)
  · refine r_aloadn dX6_as_24 rfl (by decide) ?_
    refine r_ldc dX6_as_25 kc_RX6_37 ?_
    refine c_V1 (μz := mX6_finds) dX6_as_27 kl_RX6_47 mv_X6_finds rfl (ok_X6_finds (w := 0) (by decide) (by decide)) ?_
    exact r_iret dX6_as_30 ⟨by unfold sg_as; rw [if_neg (fun q => absurd q.1 (bi_0.mp h9))], rfl, by unfold sg_as; rw [if_neg (fun q => absurd q.1 (bi_0.mp h9))]⟩
  · refine r_iloadn dX6_as_12 rfl ?_
    refine r_i2l dX6_as_13 ?_
    refine r_lc 0 dX6_as_14 ?_
    refine r_ldc2 dX6_as_15 kc_RX6_68 ?_
    refine c_S3 (μz := mX6_isIn) dX6_as_18 kl_RX6_42 ms_X6_isIn (ok_X6_in (lo := 0) (hi := 6) (by decide) (by decide)) ?_
    refine r_if_ne 31 dX6_as_21 (fun h21 => ?_) (fun h21 => ?_)
    · have hp : (0 ≤ p ∧ p ≤ 9) ∧ (0 ≤ k ∧ k ≤ 6) := ⟨bi_1.mp h9, bi_1.mp h21⟩
      obtain ⟨ep, lp⟩ := g_v9 hp.1
      refine r_aloadn dX6_as_31 rfl (by decide) ?_
      refine r_getfr dX6_as_32 kf_RX6_7 rfl rfl ?_
      refine r_bp (53) dX6_as_35 ?_
      refine r_iloadn dX6_as_37 rfl ?_
      refine r_iadd dX6_as_38 ?_
      refine r_ialdL (j := 53 + k_v p) dX6_as_39 rfl ((congrArg (fun x : Int32 => 53 + x) ep).trans (nI_add 53 _)) ⟨by omega, by decide⟩ ?_
      refine r_istore3 dX6_as_40 ?_
      refine r_iloadn dX6_as_41 rfl ?_
      refine r_if_ge 52 dX6_as_42 (fun h42 => ?_) (fun h42 => ?_)
      · have hl : M 50 (53 + k_v p) = nI (k_v (M 50 (53 + k_v p))) ∧ k_v (M 50 (53 + k_v p)) < 8 := by
          rcases hs (k_v p) lp with h | ⟨i, hi, h⟩
          · exact absurd (h ▸ h42) (by decide)
          · have e : k_v (M 50 (53 + k_v p)) = i := by show (M 50 (53 + k_v p)).toNatClampNeg = i; rw [h]; exact nI_clamp (by omega)
            rw [e]
            exact ⟨h, hi⟩
        obtain ⟨el, ll⟩ := hl
        refine r_aloadn dX6_as_52 rfl (by decide) ?_
        refine r_iloadn dX6_as_53 rfl ?_
        refine r_ic (0) dX6_as_54 ?_
        refine c_V2 (μz := mX6_its) dX6_as_55 kl_RX6_51 mv_X6_its rfl (ok_X6_its (i := k_v (M 50 (53 + k_v p))) (j := 0) el rfl ll (by decide)) ?_
        refine r_iloadn dX6_as_58 rfl ?_
        refine c_S2 (μz := mX6_isUnder) dX6_as_59 kl_RX6_251 ms_X6_isUnder ok_X6_isUnder ?_
        refine r_if_eq 69 dX6_as_62 (fun h62 => ?_) (fun h62 => ?_)
        · refine r_aloadn dX6_as_69 rfl (by decide) ?_
          refine r_ldc dX6_as_70 kc_RX6_254 ?_
          refine c_V1 (μz := mX6_finds) dX6_as_72 kl_RX6_47 mv_X6_finds rfl (ok_X6_finds (w := 2) (by decide) (by decide)) ?_
          exact r_iret dX6_as_75 ⟨by unfold sg_as; rw [if_pos hp, if_pos h42, if_neg (bi_0.mp h62)], rfl, by unfold sg_as; rw [if_pos hp, if_pos h42, if_neg (bi_0.mp h62)]⟩
        · refine r_iloadn dX6_as_65 rfl ?_
          refine r_goto 75 dX6_as_66 ?_
          exact r_iret dX6_as_75 ⟨by unfold sg_as; rw [if_pos hp, if_pos h42, if_pos (bi_1.mp h62)], rfl, by unfold sg_as; rw [if_pos hp, if_pos h42, if_pos (bi_1.mp h62)]⟩
      · refine r_aloadn dX6_as_45 rfl (by decide) ?_
        refine r_ldc dX6_as_46 kc_RX6_250 ?_
        refine c_V1 (μz := mX6_finds) dX6_as_48 kl_RX6_47 mv_X6_finds rfl (ok_X6_finds (w := 5) (by decide) (by decide)) ?_
        exact r_iret dX6_as_51 ⟨by unfold sg_as; rw [if_pos hp, if_neg h42], rfl, by unfold sg_as; rw [if_pos hp, if_neg h42]⟩
    · refine r_aloadn dX6_as_24 rfl (by decide) ?_
      refine r_ldc dX6_as_25 kc_RX6_37 ?_
      refine c_V1 (μz := mX6_finds) dX6_as_27 kl_RX6_47 mv_X6_finds rfl (ok_X6_finds (w := 0) (by decide) (by decide)) ?_
      exact r_iret dX6_as_30 ⟨by unfold sg_as; rw [if_neg (fun q => absurd q.2 (bi_0.mp h21))], rfl, by unfold sg_as; rw [if_neg (fun q => absurd q.2 (bi_0.mp h21))]⟩
