/-! ===== FarPost's calls: sheets as maps, draws, the tape ===== -/
/-- do the numbers of a sheet tell places -/
abbrev v_pl (M : fp_M) (s : Int32) : Prop := k_v (M (k_so s) 1) ≤ 8 ∧ ∀ a, a < k_v (M (k_so s) 1) → ∀ b, b < a → k_near (M (k_sn s) a) (M (k_sn s) b)
def k_pt (M : fp_M) (s : Int32) : Int32 := if k_st M s = -1 then (if v_pl M s then -1 else 4) else k_st M s
theorem k_pt_v {M : fp_M} {s : Int32} (h : ¬ k_pt M s = -1) : ∃ w, w < 7 ∧ k_pt M s = nI w := by
  unfold k_pt at h ⊢
  split at h
  · rename_i h1
    rw [if_pos h1]
    split at h
    · exact absurd rfl h
    · rename_i h2
      rw [if_neg h2]
      exact ⟨4, by decide, rfl⟩
  · rename_i h1
    rw [if_neg h1]
    exact k_st_v h1
theorem k_pt_s {M : fp_M} {s : Int32} (h : k_pt M s = -1) : k_st M s = -1 ∧ v_pl M s := by
  unfold k_pt at h
  split at h
  · rename_i h1
    split at h
    · rename_i h2
      exact ⟨h1, h2⟩
    · cases h
  · rename_i h1
    exact absurd h h1
theorem ok_X5_placesTrouble {X : fp_X} {M : fp_M} {s : Int32} (hz : ∀ k, k < 4 → ∃ z : Nat, z ≤ 40 ∧ M (41 + 2 * k) 1 = nI z): fp_Ev X mX5_placesTrouble [.ref 0, .int s] fp_sh M (some (.int (k_pt M s))) M := by
  refine fp_ok [some (.ref 0), some (.int s), none] ?_
  refine r_aloadn dX5_placesTrouble_0 rfl (by decide) ?_
  refine r_iloadn dX5_placesTrouble_1 rfl ?_
  refine c_V1 (μz := mX5_sheetTrouble) dX5_placesTrouble_2 kl_RX5_244 mv_X5_sheetTrouble rfl ok_X5_sheetTrouble ?_
  refine r_istore2 dX5_placesTrouble_5 ?_
  refine r_iloadn dX5_placesTrouble_6 rfl ?_
  refine r_ic (-1) dX5_placesTrouble_7 ?_
  refine r_icmp_eq 13 dX5_placesTrouble_8 (fun h8 => ?_) (fun h8 => ?_)
  · obtain ⟨k, hk, rfl⟩ := k_sh (k_st_s h8).1
    have ek : k_v (nI k) = k := nI_clamp (by omega)
    have eo : k_so (nI k) = 41 + 2 * k := by show 41 + 2 * (nI k).toNatClampNeg = _; rw [nI_clamp (by omega)]
    have es : k_sn (nI k) = 42 + 2 * k := by show 42 + 2 * (nI k).toNatClampNeg = _; rw [nI_clamp (by omega)]
    obtain ⟨z, hz40, hz1⟩ := hz k hk
    have ez : k_v (M (k_so (nI k)) 1) = z := by show (M (k_so (nI k)) 1).toNatClampNeg = z; rw [eo, hz1]; exact nI_clamp (by omega)
    refine r_aloadn dX5_placesTrouble_13 rfl (by decide) ?_
    refine r_getfr dX5_placesTrouble_14 kf_RX5_49 rfl rfl ?_
    refine r_iloadn dX5_placesTrouble_17 rfl ?_
    refine r_aaldL (j := k) dX5_placesTrouble_18 rfl rfl (sh_ss (by omega)) (by omega) (Nat.le_of_ble_eq_true rfl) ?_
    refine c_V0 (μz := mX3_arePlaces) dX5_placesTrouble_19 kl_RX5_300 mv_X3_arePlaces (sh_s hk) (ok_X3_arePlaces hk hz1 hz40) ?_
    refine r_if_eq 29 dX5_placesTrouble_22 (fun h22 => ?_) (fun h22 => ?_)
    · refine r_ic (4) dX5_placesTrouble_29 ?_
      exact r_iret dX5_placesTrouble_30 ⟨by unfold k_pt; rw [if_pos h8, if_neg (by unfold v_pl; rw [ez, es]; exact bi_0.mp h22)], rfl, rfl⟩
    · refine r_ic (-1) dX5_placesTrouble_25 ?_
      refine r_goto 30 dX5_placesTrouble_26 ?_
      exact r_iret dX5_placesTrouble_30 ⟨by unfold k_pt; rw [if_pos h8, if_pos (by unfold v_pl; rw [ez, es]; exact bi_1.mp h22)], rfl, rfl⟩
  · refine r_iloadn dX5_placesTrouble_11 rfl ?_
    exact r_iret dX5_placesTrouble_12 ⟨by unfold k_pt; rw [if_neg h8], rfl, rfl⟩
abbrev k_den (M : fp_M) (s : Int32) (i : Nat) : Prop := (k_v (M (3 + i) 1) < k_v (M (k_so s) 1) ∧ k_v (M (3 + i) 2) < k_v (M (k_so s) 1)) ∧ (M (k_sn s) (k_v (M (3 + i) 2)) - M (k_sn s) (k_v (M (3 + i) 1)) < k_least (M (3 + i) 0) (M (3 + i) 3) (M 1 2) ∨ k_most (M (3 + i) 0) (M (3 + i) 3) (M 1 2) < M (k_sn s) (k_v (M (3 + i) 2)) - M (k_sn s) (k_v (M (3 + i) 1)))
def k_judge (M : fp_M) (set s : Int32) (n : Nat) : Nat := k_bn (fun i => decide (k_isin set i ∧ k_den M s i)) n
def sp_judge (M : fp_M) (c : Nat) (s : Int32) : Int32 × fp_M := if k_pt M s = -1 then (nI (k_judge M (k_cn M c) s c), M) else (k_lo (k_pt M s), k_fd M (k_v (k_pt M s)))
theorem lp_X5_judge {X : fp_X} {M : fp_M} {c k z : Nat} {set : Int32} {w2 : Int32} (hw : k_wf M 1 c) (hk : k < 4) (hz40 : z ≤ 40) (hz1 : M (41 + 2 * k) 1 = nI z) : ∀ (n i : Nat), i + n = c → fp_W X mX5_judge 28 [some (.ref 0), some (.int (nI k)), some (.int w2), some (.int set), some (.int (nI (k_judge M set (nI k) i))), some (.int (nI i))] [] fp_sh M 0 0 (fun r s m => r = some (.int (nI (k_judge M set (nI k) c))) ∧ s = fp_sh ∧ m = M) := by
  intro n
  induction n with
  | zero =>
    intro i hi 
    have h8 := hw.1
    have ti : (nI i).toInt = (i : Int) := nI_toInt (by omega)
    have tc : (M 1 1).toInt = (c : Int) := by rw [hw.2.1]; exact nI_toInt (by omega)
    have eo : k_so (nI k) = 41 + 2 * k := by show 41 + 2 * (nI k).toNatClampNeg = _; rw [nI_clamp (by omega)]
    have es : k_sn (nI k) = 42 + 2 * k := by show 42 + 2 * (nI k).toNatClampNeg = _; rw [nI_clamp (by omega)]
    have ez : k_v (M (k_so (nI k)) 1) = z := by show (M (k_so (nI k)) 1).toNatClampNeg = z; rw [eo, hz1]; exact nI_clamp (by omega)
    refine r_iload dX5_judge_28 rfl ?_
    refine r_aloadn dX5_judge_30 rfl (by decide) ?_
    refine r_getfr dX5_judge_31 kf_RX5_10 rfl rfl ?_
    refine r_getfi dX5_judge_34 kf_RX5_77 rfl rfl ?_
    refine r_icmp_ge 93 dX5_judge_37 (fun h37 => ?_) (fun h37 => ?_)
    · refine r_iload dX5_judge_93 rfl ?_
      exact r_iret dX5_judge_95 ⟨by rw [show i = c by omega], rfl, rfl⟩
    · exfalso; simp only [Int32.le_iff_toInt_le, Int32.lt_iff_toInt_lt, Int32.reduceToInt] at h37; omega
  | succ n ih =>
    intro i hi 
    have h8 := hw.1
    have ti : (nI i).toInt = (i : Int) := nI_toInt (by omega)
    have tc : (M 1 1).toInt = (c : Int) := by rw [hw.2.1]; exact nI_toInt (by omega)
    have eo : k_so (nI k) = 41 + 2 * k := by show 41 + 2 * (nI k).toNatClampNeg = _; rw [nI_clamp (by omega)]
    have es : k_sn (nI k) = 42 + 2 * k := by show 42 + 2 * (nI k).toNatClampNeg = _; rw [nI_clamp (by omega)]
    have ez : k_v (M (k_so (nI k)) 1) = z := by show (M (k_so (nI k)) 1).toNatClampNeg = z; rw [eo, hz1]; exact nI_clamp (by omega)
    refine r_iload dX5_judge_28 rfl ?_
    refine r_aloadn dX5_judge_30 rfl (by decide) ?_
    refine r_getfr dX5_judge_31 kf_RX5_10 rfl rfl ?_
    refine r_getfi dX5_judge_34 kf_RX5_77 rfl rfl ?_
    refine r_icmp_ge 93 dX5_judge_37 (fun h37 => ?_) (fun h37 => ?_)
    · exfalso; simp only [Int32.le_iff_toInt_le, Int32.lt_iff_toInt_lt, Int32.reduceToInt] at h37; omega
    · refine r_iload dX5_judge_40 rfl ?_
      refine r_iloadn dX5_judge_42 rfl ?_
      refine c_S2 (μz := mX5_isIn) dX5_judge_43 kl_RX5_179 ms_X5_isIn ok_X5_isIn ?_
      refine r_if_eq 87 dX5_judge_46 (fun h46 => ?_) (fun h46 => ?_)
      · refine r_iinc5 (1) dX5_judge_87 ?_
        refine r_goto 28 dX5_judge_90 ?_
        rw [nI_1]
        have e := ih (i + 1) (by omega)
        rw [show k_judge M set (nI k) (i + 1) = k_judge M set (nI k) i from k_bn_no (decide_eq_false (fun q => bi_0.mp h46 q.1))] at e
        exact e
      · obtain ⟨f, t, hf8, ht8, hf, ht, h01⟩ := hw.2.2 i (by omega)
        have ef : k_v (M (3 + i) 1) = f := by show (M (3 + i) 1).toNatClampNeg = f; rw [show M (3 + i) 1 = nI f from hf]; exact nI_clamp (by omega)
        have et : k_v (M (3 + i) 2) = t := by show (M (3 + i) 2).toNatClampNeg = t; rw [show M (3 + i) 2 = nI t from ht]; exact nI_clamp (by omega)
        have e3 : 1 + 2 + i = 3 + i := by omega
        refine r_aloadn dX5_judge_49 rfl (by decide) ?_
        refine r_getfr dX5_judge_50 kf_RX5_49 rfl rfl ?_
        refine r_iloadn dX5_judge_53 rfl ?_
        refine r_aaldL (j := k) dX5_judge_54 rfl rfl (sh_ss (by omega)) (by omega) (Nat.le_of_ble_eq_true rfl) ?_
        refine r_aloadn dX5_judge_55 rfl (by decide) ?_
        refine r_getfr dX5_judge_56 kf_RX5_10 rfl rfl ?_
        refine r_getfr dX5_judge_59 kf_RX5_88 rfl rfl ?_
        refine r_iload dX5_judge_62 rfl ?_
        refine r_aaldL (j := i) dX5_judge_64 (sh_r fp_of_1) rfl (sh_rr (by omega)) (by omega) (Nat.le_of_ble_eq_true rfl) ?_
        refine r_aloadn dX5_judge_65 rfl (by decide) ?_
        refine r_getfr dX5_judge_66 kf_RX5_10 rfl rfl ?_
        refine r_getfi dX5_judge_69 kf_RX5_92 rfl rfl ?_
        refine c_V2 (μz := mX3_denies) dX5_judge_72 kl_RX5_271 mv_X3_denies (sh_s hk) (ok_X3_denies hk (sh_l fp_of_1 (by omega)) hz1 hz40 hf ht hf8 ht8) ?_
        refine r_if_eq 87 dX5_judge_75 (fun h75 => ?_) (fun h75 => ?_)
        · refine r_iinc5 (1) dX5_judge_87 ?_
          refine r_goto 28 dX5_judge_90 ?_
          rw [nI_1]
          rw [e3] at h75
          have e := ih (i + 1) (by omega)
          rw [show k_judge M set (nI k) (i + 1) = k_judge M set (nI k) i from k_bn_no (decide_eq_false (fun q => by have q2 := q.2; unfold k_den at q2; rw [ez, ef, et, es] at q2; exact bi_0.mp h75 q2))] at e
          exact e
        · refine r_iload dX5_judge_78 rfl ?_
          refine r_ic (1) dX5_judge_80 ?_
          refine r_iload dX5_judge_81 rfl ?_
          refine r_ishl dX5_judge_83 ?_
          refine r_ior dX5_judge_84 ?_
          refine r_istore4 dX5_judge_85 ?_
          refine r_iinc5 (1) dX5_judge_87 ?_
          refine r_goto 28 dX5_judge_90 ?_
          rw [nI_1]
          rw [e3] at h75
          rw [show nI (k_judge M set (nI k) i) ||| _ = nI (k_judge M set (nI k) (i + 1)) from k_bn_or (by omega) (decide_eq_true ⟨bi_1.mp h46, by unfold k_den; rw [ez, ef, et, es]; exact bi_1.mp h75⟩)]
          exact ih (i + 1) (by omega)

theorem ok_X5_judge {X : fp_X} {M : fp_M} {c : Nat} {s : Int32} (hw : k_wf M 1 c) (hz : ∀ k, k < 4 → ∃ z : Nat, z ≤ 40 ∧ M (41 + 2 * k) 1 = nI z): fp_Ev X mX5_judge [.ref 0, .int s] fp_sh M (some (.int (sp_judge M c s).1)) (sp_judge M c s).2 := by
  refine fp_ok [some (.ref 0), some (.int s), none, none, none, none] ?_
  refine r_aloadn dX5_judge_0 rfl (by decide) ?_
  refine r_iloadn dX5_judge_1 rfl ?_
  refine c_V1 (μz := mX5_placesTrouble) dX5_judge_2 kl_RX5_268 mv_X5_placesTrouble rfl (ok_X5_placesTrouble hz) ?_
  refine r_istore2 dX5_judge_5 ?_
  refine r_iloadn dX5_judge_6 rfl ?_
  refine r_ic (-1) dX5_judge_7 ?_
  refine r_icmp_eq 17 dX5_judge_8 (fun h8 => ?_) (fun h8 => ?_)
  · obtain ⟨k, hk, rfl⟩ := k_sh (k_st_s (k_pt_s h8).1).1
    obtain ⟨z, hz40, hz1⟩ := hz k hk
    refine r_aloadn dX5_judge_17 rfl (by decide) ?_
    refine c_V0 (μz := mX5_counting) dX5_judge_18 kl_RX5_126 mv_X5_counting rfl (ok_X5_counting hw) ?_
    refine r_istore3 dX5_judge_21 ?_
    refine r_ic (0) dX5_judge_22 ?_
    refine r_istore4 dX5_judge_23 ?_
    refine r_ic (0) dX5_judge_25 ?_
    refine r_istore5 dX5_judge_26 ?_
    unfold sp_judge
    rw [if_pos h8]
    exact lp_X5_judge hw hk hz40 hz1 c 0 (by omega)
  · obtain ⟨w, hw7, hw8⟩ := k_pt_v h8
    have ew : k_v (k_pt M s) = w := by show (k_pt M s).toNatClampNeg = w; rw [hw8]; exact nI_clamp (by omega)
    refine r_aloadn dX5_judge_11 rfl (by decide) ?_
    refine r_iloadn dX5_judge_12 rfl ?_
    refine c_V1 (μz := mX5_finding) dX5_judge_13 kl_RX5_73 mv_X5_finding rfl (ok_X5_finding hw8 hw7) ?_
    exact r_iret dX5_judge_16 ⟨by unfold sp_judge; rw [if_neg h8, ew], rfl, by unfold sp_judge; rw [if_neg h8, ew]⟩
def k_ld (nm : Nat → Int32) (c : Nat) : Nat → Nat → fp_M → Nat × fp_M
  | 0, i, N => (i, N)
  | n + 1, i, N => if (-99 ≤ nm i ∧ nm i ≤ 99) ∧ i < c then k_ld nm c n (i + 1) (fp_wr N (3 + i) 3 (nm i)) else (i, N)
def sp_load (M : fp_M) (c : Nat) (s : Int32) : Int32 × fp_M := if k_st M s = -1 then (nI (k_ld (M (k_sn s)) c (k_v (M (k_so s) 1)) 0 M).1, (k_ld (M (k_sn s)) c (k_v (M (k_so s) 1)) 0 M).2) else (k_lo (k_st M s), k_fd M (k_v (k_st M s)))
theorem lp_X5_load {X : fp_X} {M : fp_M} {c k z : Nat} {w2 : Int32} (h8 : c ≤ 8) (hk : k < 4) (hz40 : z ≤ 40) : ∀ (n i : Nat), i + n = z → ∀ (N : fp_M) (w5 : Option Value), ((∀ j, N (42 + 2 * k) j = M (42 + 2 * k) j) ∧ N 1 1 = nI c ∧ N (41 + 2 * k) 1 = nI z) → fp_W X mX5_load 22 [some (.ref 0), some (.int (nI k)), some (.int w2), some (.int (nI i)), some (.int (nI i)), w5] [] fp_sh N 0 0 (fun r s m => r = some (.int (nI (k_ld (M (42 + 2 * k)) c n i N).1)) ∧ s = fp_sh ∧ m = (k_ld (M (42 + 2 * k)) c n i N).2) := by
  intro n
  induction n with
  | zero =>
    intro i hi N  w5  hinv
    have ti : (nI i).toInt = (i : Int) := nI_toInt (by omega)
    have hQ := hinv
    have tz : (N (41 + 2 * k) 1).toInt = (z : Int) := by rw [hQ.2.2]; exact nI_toInt (by omega)
    refine r_iload dX5_load_22 rfl ?_
    refine r_aloadn dX5_load_24 rfl (by decide) ?_
    refine r_getfr dX5_load_25 kf_RX5_49 rfl rfl ?_
    refine r_iloadn dX5_load_28 rfl ?_
    refine r_aaldL (j := k) dX5_load_29 rfl rfl (sh_ss (by omega)) (by omega) (Nat.le_of_ble_eq_true rfl) ?_
    refine r_getfi dX5_load_30 kf_RX5_243 (sh_s hk) rfl ?_
    refine r_icmp_ge 97 dX5_load_33 (fun h33 => ?_) (fun h33 => ?_)
    · refine r_iloadn dX5_load_97 rfl ?_
      exact r_iret dX5_load_98 ⟨rfl, rfl, rfl⟩
    · exfalso; simp only [Int32.le_iff_toInt_le, Int32.lt_iff_toInt_lt, Int32.reduceToInt] at h33; omega
  | succ n ih =>
    intro i hi N  w5  hinv
    have ti : (nI i).toInt = (i : Int) := nI_toInt (by omega)
    have hQ := hinv
    have tz : (N (41 + 2 * k) 1).toInt = (z : Int) := by rw [hQ.2.2]; exact nI_toInt (by omega)
    refine r_iload dX5_load_22 rfl ?_
    refine r_aloadn dX5_load_24 rfl (by decide) ?_
    refine r_getfr dX5_load_25 kf_RX5_49 rfl rfl ?_
    refine r_iloadn dX5_load_28 rfl ?_
    refine r_aaldL (j := k) dX5_load_29 rfl rfl (sh_ss (by omega)) (by omega) (Nat.le_of_ble_eq_true rfl) ?_
    refine r_getfi dX5_load_30 kf_RX5_243 (sh_s hk) rfl ?_
    refine r_icmp_ge 97 dX5_load_33 (fun h33 => ?_) (fun h33 => ?_)
    · exfalso; simp only [Int32.le_iff_toInt_le, Int32.lt_iff_toInt_lt, Int32.reduceToInt] at h33; omega
    · refine r_aloadn dX5_load_36 rfl (by decide) ?_
      refine r_getfr dX5_load_37 kf_RX5_49 rfl rfl ?_
      refine r_iloadn dX5_load_40 rfl ?_
      refine r_aaldL (j := k) dX5_load_41 rfl rfl (sh_ss (by omega)) (by omega) (Nat.le_of_ble_eq_true rfl) ?_
      refine r_getfr dX5_load_42 kf_RX5_259 (sh_s hk) rfl ?_ (by omega)
      refine r_iload dX5_load_45 rfl ?_
      refine r_ialdL (j := i) dX5_load_47 (sh_n hk) rfl ⟨by omega, by decide⟩ ?_
      rw [hQ.1 i]
      refine r_istore5 dX5_load_48 ?_
      refine r_iload dX5_load_50 rfl ?_
      refine c_S1 (μz := mX5_areDays) dX5_load_52 kl_RX5_66 ms_X5_areDays ok_X5_areDays ?_
      refine r_if_eq 97 dX5_load_55 (fun h55 => ?_) (fun h55 => ?_)
      · refine r_iloadn dX5_load_97 rfl ?_
        exact r_iret dX5_load_98 ⟨by unfold k_ld; rw [if_neg (fun q => absurd q.1 (bi_0.mp h55))], rfl, by unfold k_ld; rw [if_neg (fun q => absurd q.1 (bi_0.mp h55))]⟩
      · refine r_aloadn dX5_load_58 rfl (by decide) ?_
        refine r_getfr dX5_load_59 kf_RX5_10 rfl rfl ?_
        refine r_iload dX5_load_62 rfl ?_
        refine c_V1 (μz := mX2_has) dX5_load_64 kl_RX5_85 mv_X2_has rfl (ok_X2_has fp_of_1) ?_
        refine r_if_ne 73 dX5_load_67 (fun h67 => ?_) (fun h67 => ?_)
        · have hic : i < c := by
            have q := (bi_1.mp h67).2
            rw [hQ.2.1] at q
            exact (nI_ltI (by omega) (by omega)).mp q
          refine r_aloadn dX5_load_73 rfl (by decide) ?_
          refine r_getfr dX5_load_74 kf_RX5_10 rfl rfl ?_
          refine r_getfr dX5_load_77 kf_RX5_88 rfl rfl ?_
          refine r_iload dX5_load_80 rfl ?_
          refine r_aaldL (j := i) dX5_load_82 (sh_r fp_of_1) rfl (sh_rr (by omega)) (by omega) (Nat.le_of_ble_eq_true rfl) ?_
          refine r_iload dX5_load_83 rfl ?_
          refine r_putfi dX5_load_85 kf_RX5_199 (sh_l fp_of_1 (by omega)) rfl ?_
          refine r_iinc3 (1) dX5_load_88 ?_
          refine r_iinc4 (1) dX5_load_91 ?_
          refine r_goto 22 dX5_load_94 ?_
          rw [nI_1]
          have e3 : 1 + 2 + i = 3 + i := by omega
          rw [e3]
          unfold k_ld
          rw [if_pos ⟨bi_1.mp h55, hic⟩]
          exact ih (i + 1) (by omega) _ _ ⟨fun j => by rw [fp_wr_ne (by omega)]; exact hQ.1 j, by rw [fp_wr_ne (by omega)]; exact hQ.2.1, by rw [fp_wr_ne (by omega)]; exact hQ.2.2⟩
        · refine r_goto 97 dX5_load_70 ?_
          refine r_iloadn dX5_load_97 rfl ?_
          exact r_iret dX5_load_98 ⟨by unfold k_ld; rw [if_neg (fun q => (bi_0.mp h67) ⟨nI_pos' (by omega), by rw [hQ.2.1]; exact nI_lt q.2 (by omega)⟩)], rfl, by unfold k_ld; rw [if_neg (fun q => (bi_0.mp h67) ⟨nI_pos' (by omega), by rw [hQ.2.1]; exact nI_lt q.2 (by omega)⟩)]⟩

theorem ok_X5_load {X : fp_X} {M : fp_M} {c : Nat} {s : Int32} (hw : k_wf M 1 c) (hz : ∀ k, k < 4 → ∃ z : Nat, z ≤ 40 ∧ M (41 + 2 * k) 1 = nI z): fp_Ev X mX5_load [.ref 0, .int s] fp_sh M (some (.int (sp_load M c s).1)) (sp_load M c s).2 := by
  refine fp_ok [some (.ref 0), some (.int s), none, none, none, none] ?_
  refine r_aloadn dX5_load_0 rfl (by decide) ?_
  refine r_iloadn dX5_load_1 rfl ?_
  refine c_V1 (μz := mX5_sheetTrouble) dX5_load_2 kl_RX5_244 mv_X5_sheetTrouble rfl ok_X5_sheetTrouble ?_
  refine r_istore2 dX5_load_5 ?_
  refine r_iloadn dX5_load_6 rfl ?_
  refine r_ic (-1) dX5_load_7 ?_
  refine r_icmp_eq 17 dX5_load_8 (fun h8 => ?_) (fun h8 => ?_)
  · obtain ⟨k, hk, rfl⟩ := k_sh (k_st_s h8).1
    have eo : k_so (nI k) = 41 + 2 * k := by show 41 + 2 * (nI k).toNatClampNeg = _; rw [nI_clamp (by omega)]
    have es : k_sn (nI k) = 42 + 2 * k := by show 42 + 2 * (nI k).toNatClampNeg = _; rw [nI_clamp (by omega)]
    obtain ⟨z, hz40, hz1⟩ := hz k hk
    have ez : k_v (M (k_so (nI k)) 1) = z := by show (M (k_so (nI k)) 1).toNatClampNeg = z; rw [eo, hz1]; exact nI_clamp (by omega)
    refine r_ic (0) dX5_load_17 ?_
    refine r_istore3 dX5_load_18 ?_
    refine r_ic (0) dX5_load_19 ?_
    refine r_istore4 dX5_load_20 ?_
    have e := lp_X5_load (X := X) (M := M) (w2 := k_st M (nI k)) hw.1 hk hz40 z 0 (by omega) M none ⟨fun _ => rfl, hw.2.1, hz1⟩
    have e2 : sp_load M c (nI k) = (nI (k_ld (M (42 + 2 * k)) c z 0 M).1, (k_ld (M (42 + 2 * k)) c z 0 M).2) := by
      unfold sp_load
      rw [if_pos h8, ez, es]
    rw [e2]
    exact e
  · obtain ⟨w, hw7, hw8⟩ := k_st_v h8
    have ew : k_v (k_st M s) = w := by show (k_st M s).toNatClampNeg = w; rw [hw8]; exact nI_clamp (by omega)
    refine r_aloadn dX5_load_11 rfl (by decide) ?_
    refine r_iloadn dX5_load_12 rfl ?_
    refine c_V1 (μz := mX5_finding) dX5_load_13 kl_RX5_73 mv_X5_finding rfl (ok_X5_finding hw8 hw7) ?_
    exact r_iret dX5_load_16 ⟨by unfold sp_load; rw [if_neg h8, ew], rfl, by unfold sp_load; rw [if_neg h8, ew]⟩
def k_mp (M : fp_M) (k : Nat) (t : Nat) (N : fp_M) : fp_M := k_nar N 0 t (M (42 + 2 * k) t - M (42 + 2 * k) 0) (M (42 + 2 * k) t - M (42 + 2 * k) 0)
def k_maps (M : fp_M) (c k z : Nat) : fp_M := k_it (k_mp M k) (z - 1) 1 (k_cc M c)
theorem k_mp_ech (M : fp_M) (k t : Nat) (N : fp_M) : k_ech N (k_mp M k t N) := k_nar_ech _ _ _ _ _
theorem k_maps_ech (M : fp_M) (c k z : Nat) : k_ech M (k_maps M c k z) := (k_ch_ech M c _).tr (k_ech_it (k_mp_ech M k) _ _ _)
def sp_maps (M : fp_M) (c : Nat) (s : Int32) : Int32 × fp_M := if k_pt M s = -1 then ((if k_maps M c (k_v s) (k_v (M (k_so s) 1)) 34 0 = 0 then 0 else 1), k_maps M c (k_v s) (k_v (M (k_so s) 1))) else (k_lo (k_pt M s), k_fd M (k_v (k_pt M s)))
theorem lp_X5_maps {X : fp_X} {M : fp_M} {k z : Nat} {w2 : Int32} (hk : k < 4) (hz8 : z ≤ 8) : ∀ (n i : Nat), i + n = max z 1 → 1 ≤ i → ∀ (N : fp_M) (w4 : Option Value), (N (41 + 2 * k) 1 = nI z ∧ ∀ j, N (42 + 2 * k) j = M (42 + 2 * k) j) → fp_W X mX5_maps 34 [some (.ref 0), some (.int (nI k)), some (.int w2), some (.int (nI i)), w4] [] fp_sh N 0 0 (fun r s m => r = some (.int (if k_it (k_mp M k) n i N 34 0 = 0 then 0 else 1)) ∧ s = fp_sh ∧ m = k_it (k_mp M k) n i N) := by
  intro n
  induction n with
  | zero =>
    intro i hi h1 N w4 hQ
    have ti : (nI i).toInt = (i : Int) := nI_toInt (by omega)
    have tz : (N (41 + 2 * k) 1).toInt = (z : Int) := by rw [hQ.1]; exact nI_toInt (by omega)
    refine r_iloadn dX5_maps_34 rfl ?_
    refine r_aloadn dX5_maps_35 rfl (by decide) ?_
    refine r_getfr dX5_maps_36 kf_RX5_49 rfl rfl ?_
    refine r_iloadn dX5_maps_39 rfl ?_
    refine r_aaldL (j := k) dX5_maps_40 rfl rfl (sh_ss (by omega)) (by omega) (Nat.le_of_ble_eq_true rfl) ?_
    refine r_getfi dX5_maps_41 kf_RX5_243 (sh_s hk) rfl ?_
    refine r_icmp_ge 91 dX5_maps_44 (fun h44 => ?_) (fun h44 => ?_)
    · refine r_aloadn dX5_maps_91 rfl (by decide) ?_
      refine r_getfr dX5_maps_92 kf_RX5_29 rfl rfl ?_
      refine r_getfi dX5_maps_95 kf_RX5_205 rfl rfl ?_
      refine r_if_eq 105 dX5_maps_98 (fun h98 => ?_) (fun h98 => ?_)
      · refine r_ic (0) dX5_maps_105 ?_
        exact r_iret dX5_maps_106 ⟨by rw [if_pos (show k_it (k_mp M k) 0 i N 34 0 = 0 from h98)], rfl, rfl⟩
      · refine r_ic (1) dX5_maps_101 ?_
        refine r_goto 106 dX5_maps_102 ?_
        exact r_iret dX5_maps_106 ⟨by rw [if_neg (show ¬ k_it (k_mp M k) 0 i N 34 0 = 0 from h98)], rfl, rfl⟩
    · exfalso; simp only [Int32.le_iff_toInt_le, Int32.lt_iff_toInt_lt, Int32.reduceToInt] at h44; omega
  | succ n ih =>
    intro i hi h1 N w4 hQ
    have ti : (nI i).toInt = (i : Int) := nI_toInt (by omega)
    have tz : (N (41 + 2 * k) 1).toInt = (z : Int) := by rw [hQ.1]; exact nI_toInt (by omega)
    refine r_iloadn dX5_maps_34 rfl ?_
    refine r_aloadn dX5_maps_35 rfl (by decide) ?_
    refine r_getfr dX5_maps_36 kf_RX5_49 rfl rfl ?_
    refine r_iloadn dX5_maps_39 rfl ?_
    refine r_aaldL (j := k) dX5_maps_40 rfl rfl (sh_ss (by omega)) (by omega) (Nat.le_of_ble_eq_true rfl) ?_
    refine r_getfi dX5_maps_41 kf_RX5_243 (sh_s hk) rfl ?_
    refine r_icmp_ge 91 dX5_maps_44 (fun h44 => ?_) (fun h44 => ?_)
    · exfalso; simp only [Int32.le_iff_toInt_le, Int32.lt_iff_toInt_lt, Int32.reduceToInt] at h44; omega
    · refine r_aloadn dX5_maps_47 rfl (by decide) ?_
      refine r_getfr dX5_maps_48 kf_RX5_49 rfl rfl ?_
      refine r_iloadn dX5_maps_51 rfl ?_
      refine r_aaldL (j := k) dX5_maps_52 rfl rfl (sh_ss (by omega)) (by omega) (Nat.le_of_ble_eq_true rfl) ?_
      refine r_getfr dX5_maps_53 kf_RX5_259 (sh_s hk) rfl ?_ (by omega)
      refine r_iloadn dX5_maps_56 rfl ?_
      refine r_ialdL (j := i) dX5_maps_57 (sh_n hk) rfl ⟨by omega, by decide⟩ ?_
      refine r_aloadn dX5_maps_58 rfl (by decide) ?_
      refine r_getfr dX5_maps_59 kf_RX5_49 rfl rfl ?_
      refine r_iloadn dX5_maps_62 rfl ?_
      refine r_aaldL (j := k) dX5_maps_63 rfl rfl (sh_ss (by omega)) (by omega) (Nat.le_of_ble_eq_true rfl) ?_
      refine r_getfr dX5_maps_64 kf_RX5_259 (sh_s hk) rfl ?_ (by omega)
      refine r_ic (0) dX5_maps_67 ?_
      refine r_ialdL (j := 0) dX5_maps_68 (sh_n hk) rfl ⟨by omega, by decide⟩ ?_
      refine r_isub dX5_maps_69 ?_
      rw [hQ.2 i, hQ.2 0]
      refine r_istore4 dX5_maps_70 ?_
      refine r_aloadn dX5_maps_72 rfl (by decide) ?_
      refine r_getfr dX5_maps_73 kf_RX5_29 rfl rfl ?_
      refine r_ic (0) dX5_maps_76 ?_
      refine r_iloadn dX5_maps_77 rfl ?_
      refine r_iload dX5_maps_78 rfl ?_
      refine r_iload dX5_maps_80 rfl ?_
      refine c_V4v (μz := mX0_narrow) dX5_maps_82 kl_RX5_274 mv_X0_narrow rfl (ok_X0_narrow (a := 0) (b := i) (by decide) (by omega)) ?_
      refine r_iinc3 (1) dX5_maps_85 ?_
      refine r_goto 34 dX5_maps_88 ?_
      rw [nI_1]
      have hE := k_mp_ech M k i N
      exact ih (i + 1) (by omega) (by omega) _ _ ⟨by rw [show k_nar N 0 i _ _ = k_mp M k i N from rfl, hE _ _ (by omega) (by omega)]; exact hQ.1, fun j => by rw [show k_nar N 0 i _ _ = k_mp M k i N from rfl, hE _ _ (by omega) (by omega)]; exact hQ.2 j⟩
theorem ok_X5_maps {X : fp_X} {M : fp_M} {c : Nat} {s : Int32} (hw : k_wf M 1 c) (hz : ∀ k, k < 4 → ∃ z : Nat, z ≤ 40 ∧ M (41 + 2 * k) 1 = nI z): fp_Ev X mX5_maps [.ref 0, .int s] fp_sh M (some (.int (sp_maps M c s).1)) (sp_maps M c s).2 := by
  refine fp_ok [some (.ref 0), some (.int s), none, none, none] ?_
  refine r_aloadn dX5_maps_0 rfl (by decide) ?_
  refine r_iloadn dX5_maps_1 rfl ?_
  refine c_V1 (μz := mX5_placesTrouble) dX5_maps_2 kl_RX5_268 mv_X5_placesTrouble rfl (ok_X5_placesTrouble hz) ?_
  refine r_istore2 dX5_maps_5 ?_
  refine r_iloadn dX5_maps_6 rfl ?_
  refine r_ic (-1) dX5_maps_7 ?_
  refine r_icmp_eq 17 dX5_maps_8 (fun h8 => ?_) (fun h8 => ?_)
  · obtain ⟨k, hk, rfl⟩ := k_sh (k_st_s (k_pt_s h8).1).1
    have eo : k_so (nI k) = 41 + 2 * k := by show 41 + 2 * (nI k).toNatClampNeg = _; rw [nI_clamp (by omega)]
    have es : k_sn (nI k) = 42 + 2 * k := by show 42 + 2 * (nI k).toNatClampNeg = _; rw [nI_clamp (by omega)]
    obtain ⟨z, hz40, hz1⟩ := hz k hk
    have ez : k_v (M (k_so (nI k)) 1) = z := by show (M (k_so (nI k)) 1).toNatClampNeg = z; rw [eo, hz1]; exact nI_clamp (by omega)
    have ek : k_v (nI k) = k := nI_clamp (by omega)
    have hz8 : z ≤ 8 := by have q := (k_pt_s h8).2.1; rw [ez] at q; exact q
    refine r_aloadn dX5_maps_17 rfl (by decide) ?_
    refine r_aloadn dX5_maps_18 rfl (by decide) ?_
    refine c_V0 (μz := mX5_counting) dX5_maps_19 kl_RX5_126 mv_X5_counting rfl (ok_X5_counting hw) ?_
    refine r_aloadn dX5_maps_22 rfl (by decide) ?_
    refine r_getfr dX5_maps_23 kf_RX5_10 rfl rfl ?_
    refine r_getfi dX5_maps_26 kf_RX5_92 rfl rfl ?_
    refine c_V2v (μz := mX5_drawChart) dX5_maps_29 kl_RX5_202 mv_X5_drawChart rfl (ok_X5_drawChart hw) ?_
    refine r_ic (1) dX5_maps_32 ?_
    refine r_istore3 dX5_maps_33 ?_
    have hE := k_ch_ech M c (k_cn M c)
    have e := lp_X5_maps (X := X) (M := M) (w2 := k_pt M (nI k)) hk hz8 (z - 1) 1 (by omega) (by decide) (k_cc M c) none ⟨(hE (41 + 2 * k) 1 (by omega) (by omega)).trans hz1, fun j => hE (42 + 2 * k) j (by omega) (by omega)⟩
    have e2 : sp_maps M c (nI k) = ((if k_maps M c k z 34 0 = 0 then 0 else 1), k_maps M c k z) := by
      unfold sp_maps
      rw [if_pos h8, ez, ek]
    rw [e2]
    exact e
  · obtain ⟨w, hw7, hw8⟩ := k_pt_v h8
    have ew : k_v (k_pt M s) = w := by show (k_pt M s).toNatClampNeg = w; rw [hw8]; exact nI_clamp (by omega)
    refine r_aloadn dX5_maps_11 rfl (by decide) ?_
    refine r_iloadn dX5_maps_12 rfl ?_
    refine c_V1 (μz := mX5_finding) dX5_maps_13 kl_RX5_73 mv_X5_finding rfl (ok_X5_finding hw8 hw7) ?_
    exact r_iret dX5_maps_16 ⟨by unfold sp_maps; rw [if_neg h8, ew], rfl, by unfold sp_maps; rw [if_neg h8, ew]⟩
