/-! ===== String constants; the tape's reader: its tokens ===== -/
theorem k_slen : ∀ i, i < 12 → nI (fp_sl.getD i 0) >>> ((0 : Int32) &&& 31) = nI (fp_sl.getD i 0) := by decide +kernel
theorem k_sch : ∀ i, i < 12 → ∀ k, k < fp_sl.getD i 0 → ((((fp_sb.getD i []).getD k 0) &&& 255).toUInt32 % 65536).toInt32 = (fp_sb.getD i []).getD k 0 := by decide +kernel
theorem k_schn : ∀ i, i < 12 → ∀ k, k < fp_sl.getD i 0 → narrow .char (.int ((fp_sb.getD i []).getD k 0)) = .int ((fp_sb.getD i []).getD k 0) := by decide +kernel
theorem k_sl6 : ∀ i, i < 12 → fp_sl.getD i 0 ≤ 6 := by decide +kernel
theorem ok_J0_coder_7d493 {X : fp_X} {M : fp_M} {i : Nat} (hi : i < 12): fp_Ev X mJ0_coder_7d493 [.ref (100 + i)] fp_sh M (some (.int 0)) M := by
  refine fp_okF [some (.ref (100 + i))] ?_
  refine r_gcs dJ0_coder_7d493_0 kf_RJ0_38 ?_
  refine r_if_eq 13 dJ0_coder_7d493_3 (fun h3 => ?_) (fun h3 => ?_)
  · exact absurd h3 (by decide)
  · refine r_aloadn dJ0_coder_7d493_6 rfl (Or.inl ⟨by omega, by omega⟩) ?_
    refine r_scoder dJ0_coder_7d493_7 kf_RJ0_15 hi ?_
    refine r_goto 14 dJ0_coder_7d493_10 ?_
    exact r_iret dJ0_coder_7d493_14 ⟨rfl, rfl, rfl⟩
theorem ok_J0_isLatin1_aae02 {X : fp_X} {M : fp_M} {i : Nat} (hi : i < 12): fp_Ev X mJ0_isLatin1_aae02 [.ref (100 + i)] fp_sh M (some (.int 1)) M := by
  refine fp_okF [some (.ref (100 + i))] ?_
  refine r_gcs dJ0_isLatin1_aae02_0 kf_RJ0_38 ?_
  refine r_if_eq 17 dJ0_isLatin1_aae02_3 (fun h3 => ?_) (fun h3 => ?_)
  · exact absurd h3 (by decide)
  · refine r_aloadn dJ0_isLatin1_aae02_6 rfl (Or.inl ⟨by omega, by omega⟩) ?_
    refine r_scoder dJ0_isLatin1_aae02_7 kf_RJ0_15 hi ?_
    refine r_if_ne 17 dJ0_isLatin1_aae02_10 (fun h10 => ?_) (fun h10 => ?_)
    · exact absurd rfl h10
    · refine r_ic (1) dJ0_isLatin1_aae02_13 ?_
      refine r_goto 18 dJ0_isLatin1_aae02_14 ?_
      exact r_iret dJ0_isLatin1_aae02_18 ⟨rfl, rfl, rfl⟩
theorem ok_J0_length_8abf5 {X : fp_X} {M : fp_M} {i : Nat} (hi : i < 12): fp_Ev X mJ0_length_8abf5 [.ref (100 + i)] fp_sh M (some (.int (nI (fp_sl.getD i 0)))) M := by
  refine fp_okF [some (.ref (100 + i))] ?_
  refine r_aloadn dJ0_length_8abf5_0 rfl (Or.inl ⟨by omega, by omega⟩) ?_
  refine r_svalue dJ0_length_8abf5_1 kf_RJ0_9 hi ?_
  refine r_sblen (nI (fp_sl.getD i 0)) dJ0_length_8abf5_4 hi rfl ?_
  refine r_aloadn dJ0_length_8abf5_5 rfl (Or.inl ⟨by omega, by omega⟩) ?_
  refine c_T0 (μz := mJ0_coder_7d493) dJ0_length_8abf5_6 kl_RJ0_335 mv_J0_coder_7d493 hi (ok_J0_coder_7d493 hi) ?_
  refine r_ishr dJ0_length_8abf5_9 ?_
  exact r_iret dJ0_length_8abf5_10 ⟨by rw [k_slen i hi], rfl, rfl⟩
theorem ok_J3_checkIndex_8e157 {X : fp_X} {M : fp_M} {a b : Int32} (h0 : ¬ a < 0) (h1 : a < b): fp_Ev X mJ3_checkIndex_8e157 [.int a, .int b, .ref 140] fp_sh M (some (.int a)) M := by
  have hx := h1
  have hy := h0
  refine fp_okF [some (.int a), some (.int b), some (.ref 140)] ?_
  refine r_iloadn dJ3_checkIndex_8e157_0 rfl ?_
  refine r_if_lt 9 dJ3_checkIndex_8e157_1 (fun h1 => ?_) (fun h1 => ?_)
  · rename_i h; exact absurd ‹a < 0› h0
  · refine r_iloadn dJ3_checkIndex_8e157_4 rfl ?_
    refine r_iloadn dJ3_checkIndex_8e157_5 rfl ?_
    refine r_icmp_lt 16 dJ3_checkIndex_8e157_6 (fun h6 => ?_) (fun h6 => ?_)
    · refine r_iloadn dJ3_checkIndex_8e157_16 rfl ?_
      exact r_iret dJ3_checkIndex_8e157_17 ⟨rfl, rfl, rfl⟩
    · exact absurd hx h6
theorem ok_J0_checkIndex_df160 {X : fp_X} {M : fp_M} {a b : Int32} (h0 : ¬ a < 0) (h1 : a < b): fp_Ev X mJ0_checkIndex_df160 [.int a, .int b] fp_sh M none M := by
  refine fp_okF [some (.int a), some (.int b)] ?_
  refine r_iloadn dJ0_checkIndex_df160_0 rfl ?_
  refine r_iloadn dJ0_checkIndex_df160_1 rfl ?_
  refine r_gsio dJ0_checkIndex_df160_2 kf_RJ0_1053 ?_
  refine c_S3 (μz := mJ3_checkIndex_8e157) dJ0_checkIndex_df160_5 kl_RJ0_1059 ms_J3_checkIndex_8e157 (ok_J3_checkIndex_8e157 h0 h1) ?_
  refine r_pop dJ0_checkIndex_df160_8 ?_
  exact r_vret dJ0_checkIndex_df160_9 ⟨rfl, rfl, rfl⟩
theorem ok_J1_charAt_3b067 {X : fp_X} {M : fp_M} {i k : Nat} (hi : i < 12) (hk : k < fp_sl.getD i 0): fp_Ev X mJ1_charAt_3b067 [.ref (120 + i), .int (nI k)] fp_sh M (some (.int ((fp_sb.getD i []).getD k 0))) M := by
  have h6 := k_sl6 i hi
  have ek : (nI k).toNatClampNeg = k := nI_clamp (by omega)
  refine fp_okF [some (.ref (120 + i)), some (.int (nI k))] ?_
  refine r_iloadn dJ1_charAt_3b067_0 rfl ?_
  refine r_aloadn dJ1_charAt_3b067_1 rfl (Or.inl ⟨by omega, by omega⟩) ?_
  refine r_sblen (nI (fp_sl.getD i 0)) dJ1_charAt_3b067_2 hi rfl ?_
  refine c_S2v (μz := mJ0_checkIndex_df160) dJ1_charAt_3b067_3 kl_RJ1_9 ms_J0_checkIndex_df160 (ok_J0_checkIndex_df160 (nI_pos (by omega)) (nI_lt hk (by omega))) ?_
  refine r_aloadn dJ1_charAt_3b067_6 rfl (Or.inl ⟨by omega, by omega⟩) ?_
  refine r_iloadn dJ1_charAt_3b067_7 rfl ?_
  refine r_sbald dJ1_charAt_3b067_8 hi (vp_in_nI hk (by omega)) ?_
  rw [ek]
  refine r_sp (255) dJ1_charAt_3b067_9 ?_
  refine r_iand dJ1_charAt_3b067_12 ?_
  refine r_i2c dJ1_charAt_3b067_13 ?_
  rw [k_sch i hi k hk]
  exact r_iret dJ1_charAt_3b067_14 ⟨rfl, rfl, rfl⟩ rfl (k_schn i hi k hk)
theorem ok_J0_charAt_5068e {X : fp_X} {M : fp_M} {i k : Nat} (hi : i < 12) (hk : k < fp_sl.getD i 0): fp_Ev X mJ0_charAt_5068e [.ref (100 + i), .int (nI k)] fp_sh M (some (.int ((fp_sb.getD i []).getD k 0))) M := by
  refine fp_okF [some (.ref (100 + i)), some (.int (nI k))] ?_
  refine r_aloadn dJ0_charAt_5068e_0 rfl (Or.inl ⟨by omega, by omega⟩) ?_
  refine c_T0 (μz := mJ0_isLatin1_aae02) dJ0_charAt_5068e_1 kl_RJ0_492 mv_J0_isLatin1_aae02 hi (ok_J0_isLatin1_aae02 hi) ?_
  refine r_if_eq 16 dJ0_charAt_5068e_4 (fun h4 => ?_) (fun h4 => ?_)
  · exact absurd h4 (by decide)
  · refine r_aloadn dJ0_charAt_5068e_7 rfl (Or.inl ⟨by omega, by omega⟩) ?_
    refine r_svalue dJ0_charAt_5068e_8 kf_RJ0_9 hi ?_
    refine r_iloadn dJ0_charAt_5068e_11 rfl ?_
    refine c_S2 (μz := mJ1_charAt_3b067) dJ0_charAt_5068e_12 kl_RJ0_495 ms_J1_charAt_3b067 (ok_J1_charAt_3b067 hi hk) ?_
    exact r_iret dJ0_charAt_5068e_15 ⟨rfl, rfl, rfl⟩ rfl (k_schn i hi k hk)
/-- which token a byte begins -/
def t_cls (b : Int32) : Int32 := if 97 ≤ b ∧ b ≤ 122 then 1 else if 48 ≤ b ∧ b ≤ 57 then 2 else if b = 59 then 3 else if b = 45 then 4 else 5
/-- blanks passed over; the end of a token -/
def t_sp (B : Nat → Int32) : Nat → Nat → Nat
  | 0, i => i
  | n + 1, i => if B i = 32 then t_sp B n (i + 1) else i
def t_te (B : Nat → Int32) (t : Int32) : Nat → Nat → Nat
  | 0, i => i
  | n + 1, i => if t_cls (B i) = t then t_te B t n (i + 1) else i
theorem t_sp_le (B : Nat → Int32) : ∀ n i, i ≤ t_sp B n i ∧ t_sp B n i ≤ i + n
  | 0, i => ⟨Nat.le_refl i, Nat.le_refl i⟩
  | n + 1, i => by
    unfold t_sp
    split
    · have := t_sp_le B n (i + 1)
      omega
    · omega
theorem t_te_le (B : Nat → Int32) (t : Int32) : ∀ n i, i ≤ t_te B t n i ∧ t_te B t n i ≤ i + n
  | 0, i => ⟨Nat.le_refl i, Nat.le_refl i⟩
  | n + 1, i => by
    unfold t_te
    split
    · have := t_te_le B t n (i + 1)
      omega
    · omega
/-- the next token: which, its place, what is behind it -/
def t_nx (B : Nat → Int32) (z b : Nat) : Int32 × Nat × Nat := if t_sp B (z - b) b < z then (t_cls (B (t_sp B (z - b) b)), t_sp B (z - b) b, if t_cls (B (t_sp B (z - b) b)) = 1 ∨ t_cls (B (t_sp B (z - b) b)) = 2 then t_te B (t_cls (B (t_sp B (z - b) b))) (z - (t_sp B (z - b) b + 1)) (t_sp B (z - b) b + 1) else t_sp B (z - b) b + 1) else (0, t_sp B (z - b) b, t_sp B (z - b) b)
/-- the reader's three numbers -/
def k_tk (M : fp_M) (t p b : Int32) : fp_M := fp_wr (fp_wr (fp_wr M 37 2 t) 37 3 p) 37 4 b
theorem k_tk_r {M : fp_M} {t p b : Int32} : k_tk M t p b 37 2 = t ∧ k_tk M t p b 37 3 = p ∧ k_tk M t p b 37 4 = b ∧ k_tk M t p b 37 0 = M 37 0 := by
  refine ⟨?_, ?_, ?_, ?_⟩ <;> simp [k_tk, fp_wr]
theorem k_tk_o {M : fp_M} {t p b : Int32} {k j : Nat} (h : ¬ k = 37) : k_tk M t p b k j = M k j := by
  unfold k_tk
  rw [fp_wr_ne h, fp_wr_ne h, fp_wr_ne h]
theorem k_tk_eta (M : fp_M) : k_tk M (M 37 2) (M 37 3) (M 37 4) = M := by
  funext k j
  unfold k_tk fp_wr
  split
  · rename_i h; rw [h.1, h.2]
  · split
    · rename_i h; rw [h.1, h.2]
    · split
      · rename_i h; rw [h.1, h.2]
      · rfl
theorem k_tk_2 {M : fp_M} {t p b t' : Int32} : fp_wr (k_tk M t p b) 37 2 t' = k_tk M t' p b := by
  funext k j
  unfold k_tk fp_wr
  by_cases hk : k = 37
  · subst hk
    rcases (show j = 2 ∨ j = 3 ∨ j = 4 ∨ (j ≠ 2 ∧ j ≠ 3 ∧ j ≠ 4) by omega) with rfl | rfl | rfl | ⟨h2, h3, h4⟩ <;> simp [*]
  · simp [hk]
theorem k_tk_3 {M : fp_M} {t p b p' : Int32} : fp_wr (k_tk M t p b) 37 3 p' = k_tk M t p' b := by
  funext k j
  unfold k_tk fp_wr
  by_cases hk : k = 37
  · subst hk
    rcases (show j = 2 ∨ j = 3 ∨ j = 4 ∨ (j ≠ 2 ∧ j ≠ 3 ∧ j ≠ 4) by omega) with rfl | rfl | rfl | ⟨h2, h3, h4⟩ <;> simp [*]
  · simp [hk]
theorem k_tk_4 {M : fp_M} {t p b b' : Int32} : fp_wr (k_tk M t p b) 37 4 b' = k_tk M t p b' := fp_wr_wr _ _ _ _ _
theorem k_tk_k {M : fp_M} {t p b t' p' b' : Int32} : k_tk (k_tk M t p b) t' p' b' = k_tk M t' p' b' := by
  show fp_wr (fp_wr (fp_wr (k_tk M t p b) 37 2 t') 37 3 p') 37 4 b' = _
  rw [k_tk_2, k_tk_3, k_tk_4]
theorem ok_X4_tokenBegunBy {X : fp_X} {M : fp_M} {b : Int32} : fp_Ev X mX4_tokenBegunBy [.int b] fp_sh M (some (.int (t_cls b))) M := by
  refine fp_ok [some (.int b)] ?_
  refine r_iloadn dX4_tokenBegunBy_0 rfl ?_
  refine r_bp (97) dX4_tokenBegunBy_1 ?_
  refine r_icmp_lt 14 dX4_tokenBegunBy_3 (fun h3 => ?_) (fun h3 => ?_)
  · refine r_iloadn dX4_tokenBegunBy_14 rfl ?_
    refine r_bp (48) dX4_tokenBegunBy_15 ?_
    refine r_icmp_lt 28 dX4_tokenBegunBy_17 (fun h17 => ?_) (fun h17 => ?_)
    · refine r_iloadn dX4_tokenBegunBy_28 rfl ?_
      refine r_bp (59) dX4_tokenBegunBy_29 ?_
      refine r_icmp_ne 36 dX4_tokenBegunBy_31 (fun h31 => ?_) (fun h31 => ?_)
      · refine r_iloadn dX4_tokenBegunBy_36 rfl ?_
        refine r_bp (45) dX4_tokenBegunBy_37 ?_
        refine r_icmp_ne 46 dX4_tokenBegunBy_39 (fun h39 => ?_) (fun h39 => ?_)
        · refine r_ic (5) dX4_tokenBegunBy_46 ?_
          exact r_iret dX4_tokenBegunBy_47 ⟨by unfold t_cls; rw [if_neg (fun q => absurd q.1 (Int32.not_le.mpr h3)), if_neg (fun q => absurd q.1 (Int32.not_le.mpr h17)), if_neg h31, if_neg h39], rfl, rfl⟩
        · refine r_ic (4) dX4_tokenBegunBy_42 ?_
          refine r_goto 47 dX4_tokenBegunBy_43 ?_
          exact r_iret dX4_tokenBegunBy_47 ⟨by unfold t_cls; rw [if_neg (fun q => absurd q.1 (Int32.not_le.mpr h3)), if_neg (fun q => absurd q.1 (Int32.not_le.mpr h17)), if_neg h31, if_pos h39], rfl, rfl⟩
      · refine r_ic (3) dX4_tokenBegunBy_34 ?_
        exact r_iret dX4_tokenBegunBy_35 ⟨by unfold t_cls; rw [if_neg (fun q => absurd q.1 (Int32.not_le.mpr h3)), if_neg (fun q => absurd q.1 (Int32.not_le.mpr h17)), if_pos h31], rfl, rfl⟩
    · refine r_iloadn dX4_tokenBegunBy_20 rfl ?_
      refine r_bp (57) dX4_tokenBegunBy_21 ?_
      refine r_icmp_gt 28 dX4_tokenBegunBy_23 (fun h23 => ?_) (fun h23 => ?_)
      · refine r_iloadn dX4_tokenBegunBy_28 rfl ?_
        refine r_bp (59) dX4_tokenBegunBy_29 ?_
        refine r_icmp_ne 36 dX4_tokenBegunBy_31 (fun h31 => ?_) (fun h31 => ?_)
        · refine r_iloadn dX4_tokenBegunBy_36 rfl ?_
          refine r_bp (45) dX4_tokenBegunBy_37 ?_
          refine r_icmp_ne 46 dX4_tokenBegunBy_39 (fun h39 => ?_) (fun h39 => ?_)
          · refine r_ic (5) dX4_tokenBegunBy_46 ?_
            exact r_iret dX4_tokenBegunBy_47 ⟨by unfold t_cls; rw [if_neg (fun q => absurd q.1 (Int32.not_le.mpr h3)), if_neg (fun q => absurd q.2 (Int32.not_le.mpr h23)), if_neg h31, if_neg h39], rfl, rfl⟩
          · refine r_ic (4) dX4_tokenBegunBy_42 ?_
            refine r_goto 47 dX4_tokenBegunBy_43 ?_
            exact r_iret dX4_tokenBegunBy_47 ⟨by unfold t_cls; rw [if_neg (fun q => absurd q.1 (Int32.not_le.mpr h3)), if_neg (fun q => absurd q.2 (Int32.not_le.mpr h23)), if_neg h31, if_pos h39], rfl, rfl⟩
        · refine r_ic (3) dX4_tokenBegunBy_34 ?_
          exact r_iret dX4_tokenBegunBy_35 ⟨by unfold t_cls; rw [if_neg (fun q => absurd q.1 (Int32.not_le.mpr h3)), if_neg (fun q => absurd q.2 (Int32.not_le.mpr h23)), if_pos h31], rfl, rfl⟩
      · refine r_ic (2) dX4_tokenBegunBy_26 ?_
        exact r_iret dX4_tokenBegunBy_27 ⟨by unfold t_cls; rw [if_neg (fun q => absurd q.1 (Int32.not_le.mpr h3)), if_pos ⟨Int32.not_lt.mp h17, Int32.not_lt.mp h23⟩], rfl, rfl⟩
  · refine r_iloadn dX4_tokenBegunBy_6 rfl ?_
    refine r_bp (122) dX4_tokenBegunBy_7 ?_
    refine r_icmp_gt 14 dX4_tokenBegunBy_9 (fun h9 => ?_) (fun h9 => ?_)
    · refine r_iloadn dX4_tokenBegunBy_14 rfl ?_
      refine r_bp (48) dX4_tokenBegunBy_15 ?_
      refine r_icmp_lt 28 dX4_tokenBegunBy_17 (fun h17 => ?_) (fun h17 => ?_)
      · refine r_iloadn dX4_tokenBegunBy_28 rfl ?_
        refine r_bp (59) dX4_tokenBegunBy_29 ?_
        refine r_icmp_ne 36 dX4_tokenBegunBy_31 (fun h31 => ?_) (fun h31 => ?_)
        · refine r_iloadn dX4_tokenBegunBy_36 rfl ?_
          refine r_bp (45) dX4_tokenBegunBy_37 ?_
          refine r_icmp_ne 46 dX4_tokenBegunBy_39 (fun h39 => ?_) (fun h39 => ?_)
          · refine r_ic (5) dX4_tokenBegunBy_46 ?_
            exact r_iret dX4_tokenBegunBy_47 ⟨by unfold t_cls; rw [if_neg (fun q => absurd q.2 (Int32.not_le.mpr h9)), if_neg (fun q => absurd q.1 (Int32.not_le.mpr h17)), if_neg h31, if_neg h39], rfl, rfl⟩
          · refine r_ic (4) dX4_tokenBegunBy_42 ?_
            refine r_goto 47 dX4_tokenBegunBy_43 ?_
            exact r_iret dX4_tokenBegunBy_47 ⟨by unfold t_cls; rw [if_neg (fun q => absurd q.2 (Int32.not_le.mpr h9)), if_neg (fun q => absurd q.1 (Int32.not_le.mpr h17)), if_neg h31, if_pos h39], rfl, rfl⟩
        · refine r_ic (3) dX4_tokenBegunBy_34 ?_
          exact r_iret dX4_tokenBegunBy_35 ⟨by unfold t_cls; rw [if_neg (fun q => absurd q.2 (Int32.not_le.mpr h9)), if_neg (fun q => absurd q.1 (Int32.not_le.mpr h17)), if_pos h31], rfl, rfl⟩
      · refine r_iloadn dX4_tokenBegunBy_20 rfl ?_
        refine r_bp (57) dX4_tokenBegunBy_21 ?_
        refine r_icmp_gt 28 dX4_tokenBegunBy_23 (fun h23 => ?_) (fun h23 => ?_)
        · refine r_iloadn dX4_tokenBegunBy_28 rfl ?_
          refine r_bp (59) dX4_tokenBegunBy_29 ?_
          refine r_icmp_ne 36 dX4_tokenBegunBy_31 (fun h31 => ?_) (fun h31 => ?_)
          · refine r_iloadn dX4_tokenBegunBy_36 rfl ?_
            refine r_bp (45) dX4_tokenBegunBy_37 ?_
            refine r_icmp_ne 46 dX4_tokenBegunBy_39 (fun h39 => ?_) (fun h39 => ?_)
            · refine r_ic (5) dX4_tokenBegunBy_46 ?_
              exact r_iret dX4_tokenBegunBy_47 ⟨by unfold t_cls; rw [if_neg (fun q => absurd q.2 (Int32.not_le.mpr h9)), if_neg (fun q => absurd q.2 (Int32.not_le.mpr h23)), if_neg h31, if_neg h39], rfl, rfl⟩
            · refine r_ic (4) dX4_tokenBegunBy_42 ?_
              refine r_goto 47 dX4_tokenBegunBy_43 ?_
              exact r_iret dX4_tokenBegunBy_47 ⟨by unfold t_cls; rw [if_neg (fun q => absurd q.2 (Int32.not_le.mpr h9)), if_neg (fun q => absurd q.2 (Int32.not_le.mpr h23)), if_neg h31, if_pos h39], rfl, rfl⟩
          · refine r_ic (3) dX4_tokenBegunBy_34 ?_
            exact r_iret dX4_tokenBegunBy_35 ⟨by unfold t_cls; rw [if_neg (fun q => absurd q.2 (Int32.not_le.mpr h9)), if_neg (fun q => absurd q.2 (Int32.not_le.mpr h23)), if_pos h31], rfl, rfl⟩
        · refine r_ic (2) dX4_tokenBegunBy_26 ?_
          exact r_iret dX4_tokenBegunBy_27 ⟨by unfold t_cls; rw [if_neg (fun q => absurd q.2 (Int32.not_le.mpr h9)), if_pos ⟨Int32.not_lt.mp h17, Int32.not_lt.mp h23⟩], rfl, rfl⟩
    · refine r_ic (1) dX4_tokenBegunBy_12 ?_
      exact r_iret dX4_tokenBegunBy_13 ⟨by unfold t_cls; rw [if_pos ⟨Int32.not_lt.mp h3, Int32.not_lt.mp h9⟩], rfl, rfl⟩
theorem lp_X4_step2 {X : fp_X} {M : fp_M} {z : Nat} {t p : Int32} (hz : M 37 0 = nI z) (hz1 : z ≤ 120) : ∀ (n b : Nat), b + n = z → fp_W X mX4_step 106 [some (.ref 37)] [] fp_sh (k_tk M t p (nI b)) 0 0 (fun r s m => r = none ∧ s = fp_sh ∧ m = k_tk M t p (nI (t_te (M 38) t n b))) := by
  intro n
  induction n with
  | zero =>
    intro b hb
    have tb : (nI b).toInt = (b : Int) := nI_toInt (by omega)
    have tz : (nI z).toInt = (z : Int) := nI_toInt (by omega)
    refine r_aloadn dX4_step_106 rfl (by decide) ?_
    refine r_getfi dX4_step_107 kf_RX4_25 rfl rfl ?_
    refine r_aloadn dX4_step_110 rfl (by decide) ?_
    refine r_getfi dX4_step_111 kf_RX4_9 rfl rfl ?_
    rw [k_tk_r.2.2.1, k_tk_r.2.2.2, hz]
    refine r_icmp_ge 149 dX4_step_114 (fun h114 => ?_) (fun h114 => ?_)
    · exact r_vret dX4_step_149 ⟨rfl, rfl, rfl⟩
    · exfalso; simp only [Int32.le_iff_toInt_le, Int32.lt_iff_toInt_lt, Int32.reduceToInt] at h114; omega
  | succ n ih =>
    intro b hb
    have tb : (nI b).toInt = (b : Int) := nI_toInt (by omega)
    have tz : (nI z).toInt = (z : Int) := nI_toInt (by omega)
    refine r_aloadn dX4_step_106 rfl (by decide) ?_
    refine r_getfi dX4_step_107 kf_RX4_25 rfl rfl ?_
    refine r_aloadn dX4_step_110 rfl (by decide) ?_
    refine r_getfi dX4_step_111 kf_RX4_9 rfl rfl ?_
    rw [k_tk_r.2.2.1, k_tk_r.2.2.2, hz]
    refine r_icmp_ge 149 dX4_step_114 (fun h114 => ?_) (fun h114 => ?_)
    · exfalso; simp only [Int32.le_iff_toInt_le, Int32.lt_iff_toInt_lt, Int32.reduceToInt] at h114; omega
    · refine r_aloadn dX4_step_117 rfl (by decide) ?_
      refine r_getfr dX4_step_118 kf_RX4_15 rfl rfl ?_
      refine r_aloadn dX4_step_121 rfl (by decide) ?_
      refine r_getfi dX4_step_122 kf_RX4_25 rfl rfl ?_
      refine r_ialdL (j := b) dX4_step_125 rfl k_tk_r.2.2.1 ⟨by omega, by decide⟩ ?_
      rw [k_tk_o (by decide)]
      refine c_S1 (μz := mX4_tokenBegunBy) dX4_step_126 kl_RX4_99 ms_X4_tokenBegunBy ok_X4_tokenBegunBy ?_
      refine r_aloadn dX4_step_129 rfl (by decide) ?_
      refine r_getfi dX4_step_130 kf_RX4_19 rfl rfl ?_
      rw [k_tk_r.1]
      refine r_icmp_ne 149 dX4_step_133 (fun h133 => ?_) (fun h133 => ?_)
      · exact r_vret dX4_step_149 ⟨rfl, rfl, by unfold t_te; rw [if_neg h133]⟩
      · refine r_aloadn dX4_step_136 rfl (by decide) ?_
        refine r_dup dX4_step_137 ?_
        refine r_getfi dX4_step_138 kf_RX4_25 rfl rfl ?_
        refine r_ic (1) dX4_step_141 ?_
        refine r_iadd dX4_step_142 ?_
        refine r_putfi dX4_step_143 kf_RX4_25 rfl rfl ?_
        refine r_goto 106 dX4_step_146 ?_
        rw [k_tk_r.2.2.1, nI_1, k_tk_4]
        unfold t_te
        rw [if_pos h133]
        exact ih (b + 1) (by omega)
theorem lp_X4_step {X : fp_X} {M : fp_M} {z : Nat} {t p : Int32} (hz : M 37 0 = nI z) (hz1 : z ≤ 120) : ∀ (n b : Nat), b + n = z → fp_W X mX4_step 0 [some (.ref 37)] [] fp_sh (k_tk M t p (nI b)) 0 0 (fun r s m => r = none ∧ s = fp_sh ∧ m = k_tk M (t_nx (M 38) z b).1 (nI (t_nx (M 38) z b).2.1) (nI (t_nx (M 38) z b).2.2)) := by
  intro n
  induction n with
  | zero =>
    intro b hb
    have tb : (nI b).toInt = (b : Int) := nI_toInt (by omega)
    have tz : (nI z).toInt = (z : Int) := nI_toInt (by omega)
    have e0 : t_nx (M 38) z b = (0, b, b) := by
      unfold t_nx
      rw [show z - b = 0 by omega]
      unfold t_sp
      rw [if_neg (by omega)]
    refine r_aloadn dX4_step_0 rfl (by decide) ?_
    refine r_getfi dX4_step_1 kf_RX4_25 rfl rfl ?_
    refine r_aloadn dX4_step_4 rfl (by decide) ?_
    refine r_getfi dX4_step_5 kf_RX4_9 rfl rfl ?_
    rw [k_tk_r.2.2.1, k_tk_r.2.2.2, hz]
    refine r_icmp_ge 38 dX4_step_8 (fun h8 => ?_) (fun h8 => ?_)
    · refine r_aloadn dX4_step_38 rfl (by decide) ?_
      refine r_aloadn dX4_step_39 rfl (by decide) ?_
      refine r_getfi dX4_step_40 kf_RX4_25 rfl rfl ?_
      rw [k_tk_r.2.2.1]
      refine r_putfi dX4_step_43 kf_RX4_22 rfl rfl ?_
      rw [k_tk_3]
      refine r_aloadn dX4_step_46 rfl (by decide) ?_
      refine r_getfi dX4_step_47 kf_RX4_22 rfl rfl ?_
      refine r_aloadn dX4_step_50 rfl (by decide) ?_
      refine r_getfi dX4_step_51 kf_RX4_9 rfl rfl ?_
      rw [k_tk_r.2.1, k_tk_r.2.2.2, hz]
      refine r_icmp_lt 63 dX4_step_54 (fun h54 => ?_) (fun h54 => ?_)
      · exfalso; simp only [Int32.le_iff_toInt_le, Int32.lt_iff_toInt_lt, Int32.reduceToInt] at h54; omega
      · refine r_aloadn dX4_step_57 rfl (by decide) ?_
        refine r_ic (0) dX4_step_58 ?_
        refine r_putfi dX4_step_59 kf_RX4_19 rfl rfl ?_
        rw [k_tk_2]
        exact r_vret dX4_step_62 ⟨rfl, rfl, by rw [e0]⟩
    · exfalso; simp only [Int32.le_iff_toInt_le, Int32.lt_iff_toInt_lt, Int32.reduceToInt] at h8; omega
  | succ n ih =>
    intro b hb
    have tb : (nI b).toInt = (b : Int) := nI_toInt (by omega)
    have tz : (nI z).toInt = (z : Int) := nI_toInt (by omega)
    refine r_aloadn dX4_step_0 rfl (by decide) ?_
    refine r_getfi dX4_step_1 kf_RX4_25 rfl rfl ?_
    refine r_aloadn dX4_step_4 rfl (by decide) ?_
    refine r_getfi dX4_step_5 kf_RX4_9 rfl rfl ?_
    rw [k_tk_r.2.2.1, k_tk_r.2.2.2, hz]
    refine r_icmp_ge 38 dX4_step_8 (fun h8 => ?_) (fun h8 => ?_)
    · exfalso; simp only [Int32.le_iff_toInt_le, Int32.lt_iff_toInt_lt, Int32.reduceToInt] at h8; omega
    · refine r_aloadn dX4_step_11 rfl (by decide) ?_
      refine r_getfr dX4_step_12 kf_RX4_15 rfl rfl ?_
      refine r_aloadn dX4_step_15 rfl (by decide) ?_
      refine r_getfi dX4_step_16 kf_RX4_25 rfl rfl ?_
      refine r_ialdL (j := b) dX4_step_19 rfl k_tk_r.2.2.1 ⟨by omega, by decide⟩ ?_
      rw [k_tk_o (by decide)]
      refine r_bp (32) dX4_step_20 ?_
      refine r_icmp_ne 38 dX4_step_22 (fun h22 => ?_) (fun h22 => ?_)
      · refine r_aloadn dX4_step_38 rfl (by decide) ?_
        refine r_aloadn dX4_step_39 rfl (by decide) ?_
        refine r_getfi dX4_step_40 kf_RX4_25 rfl rfl ?_
        rw [k_tk_r.2.2.1]
        refine r_putfi dX4_step_43 kf_RX4_22 rfl rfl ?_
        rw [k_tk_3]
        refine r_aloadn dX4_step_46 rfl (by decide) ?_
        refine r_getfi dX4_step_47 kf_RX4_22 rfl rfl ?_
        refine r_aloadn dX4_step_50 rfl (by decide) ?_
        refine r_getfi dX4_step_51 kf_RX4_9 rfl rfl ?_
        rw [k_tk_r.2.1, k_tk_r.2.2.2, hz]
        refine r_icmp_lt 63 dX4_step_54 (fun h54 => ?_) (fun h54 => ?_)
        · refine r_aloadn dX4_step_63 rfl (by decide) ?_
          refine r_aloadn dX4_step_64 rfl (by decide) ?_
          refine r_getfr dX4_step_65 kf_RX4_15 rfl rfl ?_
          refine r_aloadn dX4_step_68 rfl (by decide) ?_
          refine r_getfi dX4_step_69 kf_RX4_22 rfl rfl ?_
          refine r_ialdL (j := b) dX4_step_72 rfl k_tk_r.2.1 ⟨by omega, by decide⟩ ?_
          rw [k_tk_o (by decide)]
          refine c_S1 (μz := mX4_tokenBegunBy) dX4_step_73 kl_RX4_99 ms_X4_tokenBegunBy ok_X4_tokenBegunBy ?_
          refine r_putfi dX4_step_76 kf_RX4_19 rfl rfl ?_
          rw [k_tk_2]
          refine r_aloadn dX4_step_79 rfl (by decide) ?_
          refine r_dup dX4_step_80 ?_
          refine r_getfi dX4_step_81 kf_RX4_25 rfl rfl ?_
          refine r_ic (1) dX4_step_84 ?_
          refine r_iadd dX4_step_85 ?_
          rw [k_tk_r.2.2.1, nI_1]
          refine r_putfi dX4_step_86 kf_RX4_25 rfl rfl ?_
          rw [k_tk_4]
          have es : t_sp (M 38) (z - b) b = b := by rw [show z - b = n + 1 by omega]; unfold t_sp; rw [if_neg h22]
          refine r_aloadn dX4_step_89 rfl (by decide) ?_
          refine r_getfi dX4_step_90 kf_RX4_19 rfl rfl ?_
          refine r_ic (1) dX4_step_93 ?_
          rw [k_tk_r.1]
          refine r_icmp_eq 106 dX4_step_94 (fun h94 => ?_) (fun h94 => ?_)
          · have e1 : t_nx (M 38) z b = (t_cls (M 38 b), b, t_te (M 38) (t_cls (M 38 b)) (z - (b + 1)) (b + 1)) := by
              unfold t_nx
              rw [es, if_pos (by omega), if_pos (Or.inl h94)]
            rw [e1]
            exact lp_X4_step2 hz hz1 (z - (b + 1)) (b + 1) (by omega)
          · refine r_aloadn dX4_step_97 rfl (by decide) ?_
            refine r_getfi dX4_step_98 kf_RX4_19 rfl rfl ?_
            refine r_ic (2) dX4_step_101 ?_
            rw [k_tk_r.1]
            refine r_icmp_eq 106 dX4_step_102 (fun h102 => ?_) (fun h102 => ?_)
            · have e1 : t_nx (M 38) z b = (t_cls (M 38 b), b, t_te (M 38) (t_cls (M 38 b)) (z - (b + 1)) (b + 1)) := by
                unfold t_nx
                rw [es, if_pos (by omega), if_pos (Or.inr h102)]
              rw [e1]
              exact lp_X4_step2 hz hz1 (z - (b + 1)) (b + 1) (by omega)
            · exact r_vret dX4_step_105 ⟨rfl, rfl, by unfold t_nx; rw [es, if_pos (by omega), if_neg (fun q => q.elim h94 h102)]⟩
        · exfalso; simp only [Int32.le_iff_toInt_le, Int32.lt_iff_toInt_lt, Int32.reduceToInt] at h54; omega
      · refine r_aloadn dX4_step_25 rfl (by decide) ?_
        refine r_dup dX4_step_26 ?_
        refine r_getfi dX4_step_27 kf_RX4_25 rfl rfl ?_
        refine r_ic (1) dX4_step_30 ?_
        refine r_iadd dX4_step_31 ?_
        refine r_putfi dX4_step_32 kf_RX4_25 rfl rfl ?_
        refine r_goto 0 dX4_step_35 ?_
        rw [k_tk_r.2.2.1, nI_1, k_tk_4]
        have e1 : t_nx (M 38) z b = t_nx (M 38) z (b + 1) := by
          unfold t_nx
          rw [show z - b = n + 1 by omega, show z - (b + 1) = n by omega, show t_sp (M 38) (n + 1) b = t_sp (M 38) n (b + 1) from by show (if M 38 b = 32 then _ else _) = _; rw [if_pos h22]]
        rw [e1]
        exact ih (b + 1) (by omega)
/-- a step of the reader -/
def k_step (M : fp_M) : fp_M := k_tk M (t_nx (M 38) (k_v (M 37 0)) (k_v (M 37 4))).1 (nI (t_nx (M 38) (k_v (M 37 0)) (k_v (M 37 4))).2.1) (nI (t_nx (M 38) (k_v (M 37 0)) (k_v (M 37 4))).2.2)
/-- the reader stands well -/
def k_tp (M : fp_M) (z : Nat) : Prop := z ≤ 120 ∧ M 37 0 = nI z ∧ ∃ p b : Nat, M 37 3 = nI p ∧ M 37 4 = nI b ∧ p ≤ b ∧ b ≤ z
theorem ok_X4_step {X : fp_X} {M : fp_M} {z : Nat} (ht : k_tp M z) : fp_Ev X mX4_step [.ref 37] fp_sh M none (k_step M) := by
  refine fp_ok [some (.ref 37)] ?_
  obtain ⟨hz1, hz, p, b, hp, hb, hpb, hbz⟩ := ht
  have ez : k_v (M 37 0) = z := by show (M 37 0).toNatClampNeg = z; rw [hz]; exact nI_clamp (by omega)
  have eb : k_v (M 37 4) = b := by show (M 37 4).toNatClampNeg = b; rw [hb]; exact nI_clamp (by omega)
  have e := lp_X4_step (X := X) (t := M 37 2) (p := M 37 3) hz hz1 (z - b) b (by omega)
  rw [← hb, k_tk_eta] at e
  unfold k_step
  rw [ez, eb]
  exact e
theorem k_step_tp {M : fp_M} {z : Nat} (ht : k_tp M z) : k_tp (k_step M) z := by
  obtain ⟨hz1, hz, p, b, hp, hb, hpb, hbz⟩ := ht
  have ez : k_v (M 37 0) = z := by show (M 37 0).toNatClampNeg = z; rw [hz]; exact nI_clamp (by omega)
  have eb : k_v (M 37 4) = b := by show (M 37 4).toNatClampNeg = b; rw [hb]; exact nI_clamp (by omega)
  have hs := t_sp_le (M 38) (z - b) b
  refine ⟨hz1, k_tk_r.2.2.2.trans hz, _, _, k_tk_r.2.1, k_tk_r.2.2.1, ?_, ?_⟩
  · rw [ez, eb]
    unfold t_nx
    split
    · show t_sp (M 38) (z - b) b ≤ ite _ _ _
      split
      · have := t_te_le (M 38) (t_cls (M 38 (t_sp (M 38) (z - b) b))) (z - (t_sp (M 38) (z - b) b + 1)) (t_sp (M 38) (z - b) b + 1)
        omega
      · omega
    · exact Nat.le_refl _
  · rw [ez, eb]
    unfold t_nx
    split
    · show ite _ _ _ ≤ z
      split
      · have := t_te_le (M 38) (t_cls (M 38 (t_sp (M 38) (z - b) b))) (z - (t_sp (M 38) (z - b) b + 1)) (t_sp (M 38) (z - b) b + 1)
        omega
      · omega
    · show t_sp (M 38) (z - b) b ≤ z
      omega
