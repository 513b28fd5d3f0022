/-! ===== FarPost's calls: the fewest to strike, guesses ===== -/
abbrev k_pk (S : Nat) (few : Int32) (o : Nat) : Prop := nI o &&& (nI S ^^^ (-1)) = 0 ∧ k_bc (nI o) = few
abbrev k_rest (stay : Int32) (S o : Nat) : Int32 := stay ||| (nI S &&& (nI o ^^^ (-1)))
def k_fop (M : fp_M) (c : Nat) (stay : Int32) (S : Nat) (few : Int32) (o : Nat) : Bool := decide (k_pk S few o ∧ k_can M c (k_rest stay S o))
def k_fo (M : fp_M) (c : Nat) (stay : Int32) (S : Nat) : Nat → Nat → Nat
  | 0, _ => S
  | n + 1, few => match k_first (k_fop M c stay S (nI few)) (S + 1) 0 with
    | some o => o
    | none => k_fo M c stay S n (few + 1)
theorem lp_X5_fewestOut_in {X : fp_X} {M : fp_M} {c S few : Nat} {stay v : Int32} (hw : k_wf M 1 c) (hS : S < 256) : ∀ (n o : Nat), o + n = S + 1 → ∀ N : fp_M, k_ech M N → (∀ x, k_first (k_fop M c stay S (nI few)) n o = some x → v = nI x) → (k_first (k_fop M c stay S (nI few)) n o = none → ∀ N' : fp_M, k_ech M N' → fp_W X mX5_fewestOut 51 [some (.ref 0), some (.int stay), some (.int (nI S)), some (.int (nI few)), some (.int (nI (S + 1)))] [] fp_sh N' 0 0 (fun r s m => r = some (.int v) ∧ s = fp_sh ∧ k_ech M m)) → fp_W X mX5_fewestOut 11 [some (.ref 0), some (.int stay), some (.int (nI S)), some (.int (nI few)), some (.int (nI o))] [] fp_sh N 0 0 (fun r s m => r = some (.int v) ∧ s = fp_sh ∧ k_ech M m) := by
  intro n
  induction n with
  | zero =>
    intro o ho N hN fnd out
    have to : (nI o).toInt = (o : Int) := nI_toInt (by omega)
    have ts : (nI S).toInt = (S : Int) := nI_toInt (by omega)
    refine r_iload dX5_fewestOut_11 rfl ?_
    refine r_iloadn dX5_fewestOut_13 rfl ?_
    refine r_icmp_gt 51 dX5_fewestOut_14 (fun h14 => ?_) (fun h14 => ?_)
    · rw [show o = S + 1 by omega]
      exact out rfl N hN
    · exfalso; simp only [Int32.le_iff_toInt_le, Int32.lt_iff_toInt_lt, Int32.reduceToInt] at h14; omega
  | succ n ih =>
    intro o ho N hN fnd out
    have to : (nI o).toInt = (o : Int) := nI_toInt (by omega)
    have ts : (nI S).toInt = (S : Int) := nI_toInt (by omega)
    unfold k_first at fnd out
    refine r_iload dX5_fewestOut_11 rfl ?_
    refine r_iloadn dX5_fewestOut_13 rfl ?_
    refine r_icmp_gt 51 dX5_fewestOut_14 (fun h14 => ?_) (fun h14 => ?_)
    · exfalso; simp only [Int32.le_iff_toInt_le, Int32.lt_iff_toInt_lt, Int32.reduceToInt] at h14; omega
    · refine r_iload dX5_fewestOut_17 rfl ?_
      refine r_iloadn dX5_fewestOut_19 rfl ?_
      refine r_iloadn dX5_fewestOut_20 rfl ?_
      refine c_S3 (μz := mX5_isPick) dX5_fewestOut_21 kl_RX5_176 ms_X5_isPick ok_X5_isPick ?_
      refine r_if_eq 45 dX5_fewestOut_24 (fun h24 => ?_) (fun h24 => ?_)
      · refine r_iinc4 (1) dX5_fewestOut_45 ?_
        refine r_goto 11 dX5_fewestOut_48 ?_
        rw [nI_1]
        rw [if_neg (by unfold k_fop; rw [decide_eq_true_eq]; exact fun q => bi_0.mp h24 q.1)] at fnd out
        exact ih (o + 1) (by omega) _ hN fnd out
      · refine r_aloadn dX5_fewestOut_27 rfl (by decide) ?_
        refine r_iloadn dX5_fewestOut_28 rfl ?_
        refine r_iloadn dX5_fewestOut_29 rfl ?_
        refine r_iload dX5_fewestOut_30 rfl ?_
        refine r_ic (-1) dX5_fewestOut_32 ?_
        refine r_ixor dX5_fewestOut_33 ?_
        refine r_iand dX5_fewestOut_34 ?_
        refine r_ior dX5_fewestOut_35 ?_
        refine c_V1 (μz := mX5_canHold) dX5_fewestOut_36 kl_RX5_136 mv_X5_canHold rfl (ok_X5_canHold (hN.wf hw)) ?_
        refine r_if_eq 45 dX5_fewestOut_39 (fun h39 => ?_) (fun h39 => ?_)
        · refine r_iinc4 (1) dX5_fewestOut_45 ?_
          refine r_goto 11 dX5_fewestOut_48 ?_
          rw [nI_1]
          rw [if_neg (by unfold k_fop; rw [decide_eq_true_eq]; exact fun q => (k_can_e hN hw).mpr q.2 h39)] at fnd out
          exact ih (o + 1) (by omega) _ (hN.tr (k_ch_ech _ _ _)) fnd out
        · refine r_iload dX5_fewestOut_42 rfl ?_
          exact r_iret dX5_fewestOut_44 ⟨by rw [if_pos (show k_fop M c stay S (nI few) o = true from decide_eq_true ⟨bi_1.mp h24, (k_can_e hN hw).mp h39⟩)] at fnd; rw [fnd o rfl], rfl, hN.tr (k_ch_ech _ _ _)⟩
theorem lp_X5_fewestOut {X : fp_X} {M : fp_M} {c S : Nat} {stay : Int32} (hw : k_wf M 1 c) (hS : S < 256) : ∀ (n i : Nat), i + n = 9 → ∀ (N : fp_M) (w4 : Option Value), (k_ech M N) → fp_W X mX5_fewestOut 2 [some (.ref 0), some (.int stay), some (.int (nI S)), some (.int (nI i)), w4] [] fp_sh N 0 0 (fun r s m => r = some (.int (nI (k_fo M c stay S n i))) ∧ s = fp_sh ∧ k_ech M m) := by
  intro n
  induction n with
  | zero =>
    intro i hi N  w4  hinv
    have ti : (nI i).toInt = (i : Int) := nI_toInt (by omega)
    refine r_iloadn dX5_fewestOut_2 rfl ?_
    refine r_bp (8) dX5_fewestOut_3 ?_
    refine r_icmp_gt 57 dX5_fewestOut_5 (fun h5 => ?_) (fun h5 => ?_)
    · refine r_iloadn dX5_fewestOut_57 rfl ?_
      exact r_iret dX5_fewestOut_58 ⟨rfl, rfl, hinv⟩
    · exfalso; simp only [Int32.le_iff_toInt_le, Int32.lt_iff_toInt_lt, Int32.reduceToInt] at h5; omega
  | succ n ih =>
    intro i hi N  w4  hinv
    have ti : (nI i).toInt = (i : Int) := nI_toInt (by omega)
    refine r_iloadn dX5_fewestOut_2 rfl ?_
    refine r_bp (8) dX5_fewestOut_3 ?_
    refine r_icmp_gt 57 dX5_fewestOut_5 (fun h5 => ?_) (fun h5 => ?_)
    · exfalso; simp only [Int32.le_iff_toInt_le, Int32.lt_iff_toInt_lt, Int32.reduceToInt] at h5; omega
    · refine r_ic (0) dX5_fewestOut_8 ?_
      refine r_istore4 dX5_fewestOut_9 ?_
      unfold k_fo
      cases hf : k_first (k_fop M c stay S (nI i)) (S + 1) 0 with
      | some x => exact lp_X5_fewestOut_in hw hS (S + 1) 0 (by omega) N hinv (fun y hy => by rw [hf] at hy; cases hy; rfl) (fun hn => by rw [hf] at hn; cases hn)
      | none =>
        refine lp_X5_fewestOut_in hw hS (S + 1) 0 (by omega) N hinv (fun y hy => by rw [hf] at hy; cases hy) (fun _ N' hN' => ?_)
        refine r_iinc3 (1) dX5_fewestOut_51 ?_
        refine r_goto 2 dX5_fewestOut_54 ?_
        rw [nI_1]
        exact ih (i + 1) (by omega) N' _ hN'

theorem ok_X5_fewestOut {X : fp_X} {M : fp_M} {c S : Nat} {stay : Int32} (hw : k_wf M 1 c) (hS : S < 256) : fp_Ok X mX5_fewestOut [.ref 0, .int stay, .int (nI S)] fp_sh M (fun r s m => r = some (.int (nI (k_fo M c stay S 9 0))) ∧ s = fp_sh ∧ k_ech M m) := by
  refine fp_ok [some (.ref 0), some (.int stay), some (.int (nI S)), none, none] ?_
  refine r_ic (0) dX5_fewestOut_0 ?_
  refine r_istore3 dX5_fewestOut_1 ?_
  exact lp_X5_fewestOut hw hS 9 0 (by omega) M none (k_ech.rf M)
theorem k_con_lt (M : fp_M) (o : Nat) {c : Nat} (d : Int32) (hc : c ≤ 8) : k_con M o c d < 256 := Nat.lt_of_lt_of_le (k_bn_lt _ c) (Nat.pow_le_pow_right (by decide) hc)
theorem ok_X5_strike {X : fp_X} {M : fp_M} {c : Nat} (hw : k_wf M 1 c) : fp_Ok X mX5_strike [.ref 0] fp_sh M (fun r s m => r = some (.int (nI (k_fo M c 0 (k_con M 1 c (M 1 4)) 9 0))) ∧ s = fp_sh ∧ k_ech M m) := by
  refine fp_ok [some (.ref 0)] ?_
  refine r_aloadn dX5_strike_0 rfl (by decide) ?_
  refine r_ic (0) dX5_strike_1 ?_
  refine r_aloadn dX5_strike_2 rfl (by decide) ?_
  refine c_V0 (μz := mX5_counting) dX5_strike_3 kl_RX5_126 mv_X5_counting rfl (ok_X5_counting hw) ?_
  refine c_V2w (μz := mX5_fewestOut) dX5_strike_6 kl_RX5_168 mv_X5_fewestOut rfl (ok_X5_fewestOut hw (k_con_lt M 1 _ hw.1)) (fun N hN => ?_)
  exact r_iret dX5_strike_9 ⟨rfl, rfl, hN⟩
def k_stp (M : fp_M) (c S : Nat) (few : Int32) (o : Nat) (s : Int32) : Int32 := if k_pk S few o ∧ k_can M c (nI S &&& (nI o ^^^ (-1))) then s + 1 else s
theorem lp_X5_strikes {X : fp_X} {M : fp_M} {c S : Nat} {few : Int32} (hw : k_wf M 1 c) (hS : S < 256) : ∀ (n i : Nat), i + n = S + 1 → ∀ (N : fp_M) (z : Int32), (k_ech M N) → fp_W X mX5_strikes 20 [some (.ref 0), some (.int (nI S)), some (.int few), some (.int z), some (.int (nI i))] [] fp_sh N 0 0 (fun r s m => r = some (.int (k_it (k_stp M c S few) n i z)) ∧ s = fp_sh ∧ k_ech M m) := by
  intro n
  induction n with
  | zero =>
    intro i hi N  z  hinv
    have ti : (nI i).toInt = (i : Int) := nI_toInt (by omega)
    have hN := hinv
    have ts : (nI S).toInt = (S : Int) := nI_toInt (by omega)
    refine r_iload dX5_strikes_20 rfl ?_
    refine r_iloadn dX5_strikes_22 rfl ?_
    refine r_icmp_gt 58 dX5_strikes_23 (fun h23 => ?_) (fun h23 => ?_)
    · refine r_iloadn dX5_strikes_58 rfl ?_
      exact r_iret dX5_strikes_59 ⟨rfl, rfl, hinv⟩
    · exfalso; simp only [Int32.le_iff_toInt_le, Int32.lt_iff_toInt_lt, Int32.reduceToInt] at h23; omega
  | succ n ih =>
    intro i hi N  z  hinv
    have ti : (nI i).toInt = (i : Int) := nI_toInt (by omega)
    have hN := hinv
    have ts : (nI S).toInt = (S : Int) := nI_toInt (by omega)
    refine r_iload dX5_strikes_20 rfl ?_
    refine r_iloadn dX5_strikes_22 rfl ?_
    refine r_icmp_gt 58 dX5_strikes_23 (fun h23 => ?_) (fun h23 => ?_)
    · exfalso; simp only [Int32.le_iff_toInt_le, Int32.lt_iff_toInt_lt, Int32.reduceToInt] at h23; omega
    · refine r_iload dX5_strikes_26 rfl ?_
      refine r_iloadn dX5_strikes_28 rfl ?_
      refine r_iloadn dX5_strikes_29 rfl ?_
      refine c_S3 (μz := mX5_isPick) dX5_strikes_30 kl_RX5_176 ms_X5_isPick ok_X5_isPick ?_
      refine r_if_eq 52 dX5_strikes_33 (fun h33 => ?_) (fun h33 => ?_)
      · refine r_iinc4 (1) dX5_strikes_52 ?_
        refine r_goto 20 dX5_strikes_55 ?_
        rw [nI_1, k_it_s]
        rw [show k_stp M c S few i z = z from by unfold k_stp; rw [if_neg (fun q => bi_0.mp h33 q.1)]]
        exact ih (i + 1) (by omega) N z hinv
      · refine r_aloadn dX5_strikes_36 rfl (by decide) ?_
        refine r_iloadn dX5_strikes_37 rfl ?_
        refine r_iload dX5_strikes_38 rfl ?_
        refine r_ic (-1) dX5_strikes_40 ?_
        refine r_ixor dX5_strikes_41 ?_
        refine r_iand dX5_strikes_42 ?_
        refine c_V1 (μz := mX5_canHold) dX5_strikes_43 kl_RX5_136 mv_X5_canHold rfl (ok_X5_canHold (hN.wf hw)) ?_
        refine r_if_eq 52 dX5_strikes_46 (fun h46 => ?_) (fun h46 => ?_)
        · refine r_iinc4 (1) dX5_strikes_52 ?_
          refine r_goto 20 dX5_strikes_55 ?_
          rw [nI_1, k_it_s]
          rw [show k_stp M c S few i z = z from by unfold k_stp; rw [if_neg (fun q => (k_can_e hN hw).mpr q.2 h46)]]
          exact ih (i + 1) (by omega) _ z (hN.tr (k_ch_ech _ _ _))
        · refine r_iinc3 (1) dX5_strikes_49 ?_
          refine r_iinc4 (1) dX5_strikes_52 ?_
          refine r_goto 20 dX5_strikes_55 ?_
          rw [nI_1, k_it_s]
          rw [show k_stp M c S few i z = z + 1 from by unfold k_stp; rw [if_pos ⟨bi_1.mp h33, (k_can_e hN hw).mp h46⟩]]
          exact ih (i + 1) (by omega) _ (z + 1) (hN.tr (k_ch_ech _ _ _))

theorem ok_X5_strikes {X : fp_X} {M : fp_M} {c : Nat} (hw : k_wf M 1 c) : fp_Ok X mX5_strikes [.ref 0] fp_sh M (fun r s m => r = some (.int (k_it (k_stp M c (k_con M 1 c (M 1 4)) (k_bc (nI (k_fo M c 0 (k_con M 1 c (M 1 4)) 9 0)))) (k_con M 1 c (M 1 4) + 1) 0 0)) ∧ s = fp_sh ∧ k_ech M m) := by
  refine fp_ok [some (.ref 0), none, none, none, none] ?_
  refine r_aloadn dX5_strikes_0 rfl (by decide) ?_
  refine c_V0 (μz := mX5_counting) dX5_strikes_1 kl_RX5_126 mv_X5_counting rfl (ok_X5_counting hw) ?_
  refine r_istore1 dX5_strikes_4 ?_
  refine r_aloadn dX5_strikes_5 rfl (by decide) ?_
  refine r_ic (0) dX5_strikes_6 ?_
  refine r_iloadn dX5_strikes_7 rfl ?_
  refine c_V2w (μz := mX5_fewestOut) dX5_strikes_8 kl_RX5_168 mv_X5_fewestOut rfl (ok_X5_fewestOut hw (k_con_lt M 1 _ hw.1)) (fun N hN => ?_)
  refine c_S1 (μz := mJ6_bitCount_0f7a4) dX5_strikes_11 kl_RX5_171 ms_J6_bitCount_0f7a4 ok_J6_bitCount_0f7a4 ?_
  refine r_istore2 dX5_strikes_14 ?_
  refine r_ic (0) dX5_strikes_15 ?_
  refine r_istore3 dX5_strikes_16 ?_
  refine r_ic (0) dX5_strikes_17 ?_
  refine r_istore4 dX5_strikes_18 ?_
  exact lp_X5_strikes hw (k_con_lt M 1 _ hw.1) _ 0 (by omega) N 0 hN
theorem k_bs {M : fp_M} {c : Nat} {a : Int32} (hw : k_wf M 1 c) (h : v_set M a) : ∃ S, S < 2 ^ c ∧ a = nI S := by
  obtain ⟨n, hn, rfl⟩ := nI_of (Int32.not_lt.mpr h.1)
  refine ⟨n, ?_, rfl⟩
  have h2 := h.2
  rw [hw.2.1] at h2
  have e : ∀ c, c ≤ 8 → (1 : Int32) <<< (nI c &&& 31) = nI (2 ^ c) := by decide +kernel
  rw [e c hw.1] at h2
  exact (nI_ltI hn (Nat.lt_of_le_of_lt (Nat.pow_le_pow_right (by decide) hw.1) (by decide))).mp h2
theorem k_and256 {a : Nat} {b : Int32} (ha : a < 256) : ∃ S, S ≤ a ∧ nI a &&& b = nI S := by
  obtain ⟨S, h1, h2⟩ : ∃ S, S ≤ a ∧ nI a &&& b = nI S := by
    refine ⟨(b.toBitVec.toNat &&& a), Nat.and_le_right, ?_⟩
    apply Int32.toBitVec_inj.mp
    apply BitVec.eq_of_toNat_eq
    have e1 : (nI a).toBitVec.toNat = a := by
      show (BitVec.ofNat 32 a).toNat = a
      rw [BitVec.toNat_ofNat]
      exact Nat.mod_eq_of_lt (by omega)
    have e2 : (nI (b.toBitVec.toNat &&& a)).toBitVec.toNat = b.toBitVec.toNat &&& a := by
      show (BitVec.ofNat 32 _).toNat = _
      rw [BitVec.toNat_ofNat]
      exact Nat.mod_eq_of_lt (Nat.lt_of_le_of_lt Nat.and_le_right (by omega))
    rw [e2, Int32.toBitVec_and, BitVec.toNat_and, e1, Nat.and_comm]
  exact ⟨S, h1, h2⟩
def sp_merge (M : fp_M) (c : Nat) (a b : Int32) : Int32 × fp_M := if v_set M a ∧ v_set M b then (if k_can M c a then (nI (k_fo M c a (k_v (b &&& (a ^^^ (-1)))) 9 0), M) else (k_lo 3, k_fd M 3)) else (k_lo 0, k_fd M 0)
theorem k_first_cg {P Q : Nat → Bool} : ∀ (n i : Nat), (∀ j, P j = Q j) → k_first P n i = k_first Q n i
  | 0, _, _ => rfl
  | n + 1, i, h => by
    unfold k_first
    rw [h i, k_first_cg n (i + 1) h]
theorem k_fo_e {M N : fp_M} {c S : Nat} {stay : Int32} (h : k_ech M N) (hw : k_wf M 1 c) : ∀ n few, k_fo N c stay S n few = k_fo M c stay S n few
  | 0, _ => rfl
  | n + 1, few => by
    unfold k_fo
    rw [k_first_cg (P := k_fop N c stay S (nI few)) (Q := k_fop M c stay S (nI few)) (S + 1) 0 (fun j => by unfold k_fop; exact decide_eq_decide.mpr (and_congr_right (fun _ => k_can_e h hw))), k_fo_e h hw n (few + 1)]
theorem ok_X5_merge {X : fp_X} {M : fp_M} {c : Nat} {a b : Int32} (hw : k_wf M 1 c) : fp_Ok X mX5_merge [.ref 0, .int a, .int b] fp_sh M (fun r s m => r = some (.int (sp_merge M c a b).1) ∧ s = fp_sh ∧ k_ech (sp_merge M c a b).2 m) := by
  refine fp_ok [some (.ref 0), some (.int a), some (.int b)] ?_
  refine r_aloadn dX5_merge_0 rfl (by decide) ?_
  refine r_getfr dX5_merge_1 kf_RX5_10 rfl rfl ?_
  refine r_iloadn dX5_merge_4 rfl ?_
  refine c_V1 (μz := mX2_hasAll) dX5_merge_5 kl_RX5_165 mv_X2_hasAll rfl (ok_X2_hasAll fp_of_1) ?_
  refine r_if_eq 22 dX5_merge_8 (fun h8 => ?_) (fun h8 => ?_)
  · refine r_aloadn dX5_merge_22 rfl (by decide) ?_
    refine r_ic (0) dX5_merge_23 ?_
    refine c_V1 (μz := mX5_finding) dX5_merge_24 kl_RX5_73 mv_X5_finding rfl (ok_X5_finding (w := 0) rfl (by decide)) ?_
    exact r_iret dX5_merge_27 ⟨by unfold sp_merge; rw [if_neg (fun q => bi_0.mp h8 q.1)], rfl, by unfold sp_merge; rw [if_neg (fun q => bi_0.mp h8 q.1)]; exact k_ech.rf _⟩
  · refine r_aloadn dX5_merge_11 rfl (by decide) ?_
    refine r_getfr dX5_merge_12 kf_RX5_10 rfl rfl ?_
    refine r_iloadn dX5_merge_15 rfl ?_
    refine c_V1 (μz := mX2_hasAll) dX5_merge_16 kl_RX5_165 mv_X2_hasAll rfl (ok_X2_hasAll fp_of_1) ?_
    refine r_if_ne 28 dX5_merge_19 (fun h19 => ?_) (fun h19 => ?_)
    · refine r_aloadn dX5_merge_28 rfl (by decide) ?_
      refine r_iloadn dX5_merge_29 rfl ?_
      refine c_V1 (μz := mX5_canHold) dX5_merge_30 kl_RX5_136 mv_X5_canHold rfl (ok_X5_canHold hw) ?_
      refine r_if_ne 42 dX5_merge_33 (fun h33 => ?_) (fun h33 => ?_)
      · refine r_aloadn dX5_merge_42 rfl (by decide) ?_
        refine r_iloadn dX5_merge_43 rfl ?_
        refine r_iloadn dX5_merge_44 rfl ?_
        refine r_iloadn dX5_merge_45 rfl ?_
        refine r_ic (-1) dX5_merge_46 ?_
        refine r_ixor dX5_merge_47 ?_
        refine r_iand dX5_merge_48 ?_
        obtain ⟨T, hT, eT⟩ := k_bs hw (bi_1.mp h19)
        obtain ⟨S, hS, eS⟩ := k_and256 (a := T) (b := a ^^^ (-1)) (Nat.lt_of_lt_of_le hT (Nat.pow_le_pow_right (by decide) hw.1))
        have hS2 : S < 256 := Nat.lt_of_le_of_lt hS (Nat.lt_of_lt_of_le hT (Nat.pow_le_pow_right (by decide) hw.1))
        have eb : b &&& (a ^^^ (-1)) = nI S := by rw [eT]; exact eS
        have ev : k_v (b &&& (a ^^^ (-1))) = S := by show (b &&& (a ^^^ (-1))).toNatClampNeg = S; rw [eb]; exact nI_clamp (by omega)
        have e0 : sp_merge M c a b = (nI (k_fo M c a S 9 0), M) := by
          unfold sp_merge
          rw [if_pos ⟨bi_1.mp h8, bi_1.mp h19⟩, if_pos h33, ev]
        rw [e0, eb]
        refine c_V2w (μz := mX5_fewestOut) dX5_merge_49 kl_RX5_168 mv_X5_fewestOut rfl (ok_X5_fewestOut ((k_ch_ech M c a).wf hw) hS2) (fun N hN => ?_)
        exact r_iret dX5_merge_52 ⟨by rw [k_fo_e (k_ch_ech M c a) hw], rfl, (k_ch_ech M c a).tr hN⟩
      · refine r_aloadn dX5_merge_36 rfl (by decide) ?_
        refine r_ic (3) dX5_merge_37 ?_
        refine c_V1 (μz := mX5_finding) dX5_merge_38 kl_RX5_73 mv_X5_finding rfl (ok_X5_finding (w := 3) rfl (by decide)) ?_
        exact r_iret dX5_merge_41 ⟨by unfold sp_merge; rw [if_pos ⟨bi_1.mp h8, bi_1.mp h19⟩, if_neg (fun q => q h33)], rfl, by unfold sp_merge; rw [if_pos ⟨bi_1.mp h8, bi_1.mp h19⟩, if_neg (fun q => q h33)]; exact (k_ch_ech _ _ _).fd⟩
    · refine r_aloadn dX5_merge_22 rfl (by decide) ?_
      refine r_ic (0) dX5_merge_23 ?_
      refine c_V1 (μz := mX5_finding) dX5_merge_24 kl_RX5_73 mv_X5_finding rfl (ok_X5_finding (w := 0) rfl (by decide)) ?_
      exact r_iret dX5_merge_27 ⟨by unfold sp_merge; rw [if_neg (fun q => bi_0.mp h19 q.2)], rfl, by unfold sp_merge; rw [if_neg (fun q => bi_0.mp h19 q.2)]; exact k_ech.rf _⟩
