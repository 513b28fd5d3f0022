/-! ===== the tape's reader: items ===== -/
theorem k_tp.wr {M : fp_M} {z k j : Nat} {v : Int32} (h : k_tp M z) (hk : ¬ k = 37) : k_tp (fp_wr M k j v) z := by
  obtain ⟨h1, h2, p, b, h3, h4, h5⟩ := h
  have e : ∀ i, fp_wr M k j v 37 i = M 37 i := fun i => fp_wr_ne (fun q => hk q.symm)
  exact ⟨h1, (e 0).trans h2, p, b, (e 3).trans h3, (e 4).trans h4, h5⟩
abbrev k_word (M : fp_M) (i : Nat) : Prop := M 37 2 = 1 ∧ M 37 4 - M 37 3 = nI (fp_sl.getD i 0) ∧ ∀ j, j < fp_sl.getD i 0 → (fp_sb.getD i []).getD j 0 = M 38 (k_v (M 37 3) + j)
def k_numl (B : Nat → Int32) (most : Int32) : Nat → Nat → Int32 → Int32
  | 0, _, acc => acc
  | n + 1, i, acc => if acc * 10 + B i - 48 ≤ most then k_numl B most n (i + 1) (acc * 10 + B i - 48) else -1
def k_num (M : fp_M) (most : Int32) : Int32 := if M 37 2 = 2 then k_numl (M 38) most (k_v (M 37 4) - k_v (M 37 3)) (k_v (M 37 3)) 0 else -1
def k_kt (M : fp_M) : Int32 := match k_first (fun k => decide (k_word M k)) 7 0 with
  | some k => nI k
  | none => -1
def ps_struck (M : fp_M) (L : Nat) : fp_M := if k_word M 11 then k_step (fp_wr M L 5 1) else M
def ps_mark (M : fp_M) (L : Nat) : Int32 × fp_M := if k_word M 10 then (if k_num (k_step M) 999 = -1 then (0, k_step M) else (1, k_step (fp_wr (k_step M) L 4 (k_num (k_step M) 999)))) else (1, M)
def ps_dm (M : fp_M) : fp_M := if k_step M 37 2 = 4 then k_step (k_step M) else k_step M
def ps_days (M : fp_M) (L : Nat) : Int32 × fp_M := if k_word M 9 then (if k_num (ps_dm M) 99 = -1 then (0, ps_dm M) else (1, k_step (fp_wr (ps_dm M) L 3 (if k_step M 37 2 = 4 then -(k_num (ps_dm M) 99) else k_num (ps_dm M) 99)))) else (0, M)
def ps_tail (M : fp_M) (L : Nat) : Int32 × fp_M := if (ps_days M L).1 = 0 then (0, (ps_days M L).2) else if (ps_mark (ps_days M L).2 L).1 = 0 then (0, (ps_mark (ps_days M L).2 L).2) else (1, ps_struck (ps_mark (ps_days M L).2 L).2 L)
def ps_letter (M : fp_M) (c : Nat) (kind : Int32) : Int32 × fp_M := if k_num (k_step M) 7 = -1 then (0, k_step M) else if k_num (k_step (k_step M)) 7 = -1 ∨ k_num (k_step (k_step M)) 7 = k_num (k_step M) 7 then (0, k_step (k_step M)) else ps_tail (k_recv (k_step (k_step (k_step M))) 12 c kind (k_num (k_step M) 7) (k_num (k_step (k_step M)) 7) 0 0) (14 + c)
def ps_law (M : fp_M) : Int32 × fp_M := if k_num (k_step M) 9 = -1 then (0, k_step M) else (1, k_step (fp_wr (k_step M) 12 (if k_word M 7 then 2 else 3) (k_num (k_step M) 9)))
def ps_item (M : fp_M) (c : Nat) : Int32 × fp_M := if k_word M 7 ∨ k_word M 8 then ps_law M else if k_kt M = -1 then (0, M) else if M 12 1 < 8 then ps_letter M c (k_kt M) else (0, M)
theorem lp_X4_isWord {X : fp_X} {M : fp_M} {i p : Nat} (hi : i < 12) (hp : M 37 3 = nI p) (h0 : M 37 2 = 1) (hl : M 37 4 - M 37 3 = nI (fp_sl.getD i 0)) (hpl : p + fp_sl.getD i 0 ≤ 120) : ∀ (n j : Nat), j + n = fp_sl.getD i 0 → (∀ q, q < j → (fp_sb.getD i []).getD q 0 = M 38 (p + q)) → fp_W X mX4_isWord 28 [some (.ref 37), some (.ref (100 + i)), some (.int (nI j))] [] fp_sh M 0 0 (fun r s m => r = some (.int (bi (k_word M i))) ∧ s = fp_sh ∧ m = M) := by
  have h6 := k_sl6 i hi
  have ep : k_v (M 37 3) = p := by show (M 37 3).toNatClampNeg = p; rw [hp]; exact nI_clamp (by omega)
  have tl : (nI (fp_sl.getD i 0)).toInt = (fp_sl.getD i 0 : Int) := nI_toInt (by omega)
  intro n
  induction n with
  | zero =>
    intro j hj hq
    have tj : (nI j).toInt = (j : Int) := nI_toInt (by omega)
    refine r_iloadn dX4_isWord_28 rfl ?_
    refine r_aloadn dX4_isWord_29 rfl (Or.inl ⟨by omega, by omega⟩) ?_
    refine c_T0 (μz := mJ0_length_8abf5) dX4_isWord_30 kl_RX4_102 mv_J0_length_8abf5 hi (ok_J0_length_8abf5 hi) ?_
    refine r_icmp_ge 63 dX4_isWord_33 (fun h33 => ?_) (fun h33 => ?_)
    · refine r_ic (1) dX4_isWord_63 ?_
      exact r_iret dX4_isWord_64 ⟨by rw [bi_t ⟨h0, hl, fun q h => by rw [ep]; exact hq q (by omega)⟩], rfl, rfl⟩
    · exfalso; simp only [Int32.le_iff_toInt_le, Int32.lt_iff_toInt_lt, Int32.reduceToInt] at h33; omega
  | succ n ih =>
    intro j hj hq
    have tj : (nI j).toInt = (j : Int) := nI_toInt (by omega)
    refine r_iloadn dX4_isWord_28 rfl ?_
    refine r_aloadn dX4_isWord_29 rfl (Or.inl ⟨by omega, by omega⟩) ?_
    refine c_T0 (μz := mJ0_length_8abf5) dX4_isWord_30 kl_RX4_102 mv_J0_length_8abf5 hi (ok_J0_length_8abf5 hi) ?_
    refine r_icmp_ge 63 dX4_isWord_33 (fun h33 => ?_) (fun h33 => ?_)
    · exfalso; simp only [Int32.le_iff_toInt_le, Int32.lt_iff_toInt_lt, Int32.reduceToInt] at h33; omega
    · refine r_aloadn dX4_isWord_36 rfl (Or.inl ⟨by omega, by omega⟩) ?_
      refine r_iloadn dX4_isWord_37 rfl ?_
      refine c_T1 (μz := mJ0_charAt_5068e) dX4_isWord_38 kl_RX4_107 mv_J0_charAt_5068e hi (ok_J0_charAt_5068e hi (by omega)) ?_
      refine r_aloadn dX4_isWord_41 rfl (by decide) ?_
      refine r_getfr dX4_isWord_42 kf_RX4_15 rfl rfl ?_
      refine r_aloadn dX4_isWord_45 rfl (by decide) ?_
      refine r_getfi dX4_isWord_46 kf_RX4_22 rfl rfl ?_
      refine r_iloadn dX4_isWord_49 rfl ?_
      refine r_iadd dX4_isWord_50 ?_
      refine r_ialdL (j := p + j) dX4_isWord_51 rfl (by rw [hp, nI_add]) ⟨by omega, by decide⟩ ?_
      refine r_icmp_eq 57 dX4_isWord_52 (fun h52 => ?_) (fun h52 => ?_)
      · refine r_iinc2 (1) dX4_isWord_57 ?_
        refine r_goto 28 dX4_isWord_60 ?_
        rw [nI_1]
        refine ih (j + 1) (by omega) (fun q h => ?_)
        rcases Nat.lt_or_ge q j with h2 | h2
        · exact hq q h2
        · rw [show q = j by omega]; exact h52
      · refine r_ic (0) dX4_isWord_55 ?_
        exact r_iret dX4_isWord_56 ⟨by rw [bi_f (fun q => h52 (by have := q.2.2 j (by omega); rw [ep] at this; exact this))], rfl, rfl⟩
theorem ok_X4_isWord {X : fp_X} {M : fp_M} {z i : Nat} (ht : k_tp M z) (hi : i < 12): fp_Ev X mX4_isWord [.ref 37, .ref (100 + i)] fp_sh M (some (.int (bi (k_word M i)))) M := by
  obtain ⟨hz1, hz, p, b, hp, hb, hpb, hbz⟩ := ht
  have h6 := k_sl6 i hi
  refine fp_ok [some (.ref 37), some (.ref (100 + i)), none] ?_
  refine r_aloadn dX4_isWord_0 rfl (by decide) ?_
  refine r_getfi dX4_isWord_1 kf_RX4_19 rfl rfl ?_
  refine r_ic (1) dX4_isWord_4 ?_
  refine r_icmp_ne 24 dX4_isWord_5 (fun h5 => ?_) (fun h5 => ?_)
  · refine r_ic (0) dX4_isWord_24 ?_
    exact r_iret dX4_isWord_25 ⟨by rw [bi_f (fun q => h5 q.1)], rfl, rfl⟩
  · refine r_aloadn dX4_isWord_8 rfl (by decide) ?_
    refine r_getfi dX4_isWord_9 kf_RX4_25 rfl rfl ?_
    refine r_aloadn dX4_isWord_12 rfl (by decide) ?_
    refine r_getfi dX4_isWord_13 kf_RX4_22 rfl rfl ?_
    refine r_isub dX4_isWord_16 ?_
    refine r_aloadn dX4_isWord_17 rfl (Or.inl ⟨by omega, by omega⟩) ?_
    refine c_T0 (μz := mJ0_length_8abf5) dX4_isWord_18 kl_RX4_102 mv_J0_length_8abf5 hi (ok_J0_length_8abf5 hi) ?_
    refine r_icmp_eq 26 dX4_isWord_21 (fun h21 => ?_) (fun h21 => ?_)
    · have hl : p + fp_sl.getD i 0 ≤ 120 := by
        have q := h21
        rw [hb, hp, pk_sub hpb] at q
        have := (nI_eq (by omega) (by omega)).mp q
        omega
      refine r_ic (0) dX4_isWord_26 ?_
      refine r_istore2 dX4_isWord_27 ?_
      exact lp_X4_isWord hi hp h5 h21 hl (fp_sl.getD i 0) 0 (by omega) (fun q h => absurd h (by omega))
    · refine r_ic (0) dX4_isWord_24 ?_
      exact r_iret dX4_isWord_25 ⟨by rw [bi_f (fun q => h21 q.2.1)], rfl, rfl⟩
theorem k_kn : ∀ k, k < 7 → k_kname (nI k) = 100 + k := by decide +kernel
theorem lp_X4_kindTold {X : fp_X} {M : fp_M} {z : Nat} (ht : k_tp M z) : ∀ (n i : Nat), i + n = 7 → fp_W X mX4_kindTold 2 [some (.ref 37), some (.int (nI i))] [] fp_sh M 0 0 (fun r s m => r = some (.int (match k_first (fun k => decide (k_word M k)) n i with | some k => nI k | none => -1)) ∧ s = fp_sh ∧ m = M) := by
  intro n
  induction n with
  | zero =>
    intro i hi 
    have ti : (nI i).toInt = (i : Int) := nI_toInt (by omega)
    refine r_iloadn dX4_kindTold_2 rfl ?_
    refine r_bp (7) dX4_kindTold_3 ?_
    refine r_icmp_ge 27 dX4_kindTold_5 (fun h5 => ?_) (fun h5 => ?_)
    · refine r_ic (-1) dX4_kindTold_27 ?_
      exact r_iret dX4_kindTold_28 ⟨rfl, rfl, rfl⟩
    · exfalso; simp only [Int32.le_iff_toInt_le, Int32.lt_iff_toInt_lt, Int32.reduceToInt] at h5; omega
  | succ n ih =>
    intro i hi 
    have ti : (nI i).toInt = (i : Int) := nI_toInt (by omega)
    refine r_iloadn dX4_kindTold_2 rfl ?_
    refine r_bp (7) dX4_kindTold_3 ?_
    refine r_icmp_ge 27 dX4_kindTold_5 (fun h5 => ?_) (fun h5 => ?_)
    · exfalso; simp only [Int32.le_iff_toInt_le, Int32.lt_iff_toInt_lt, Int32.reduceToInt] at h5; omega
    · refine r_aloadn dX4_kindTold_8 rfl (by decide) ?_
      refine r_iloadn dX4_kindTold_9 rfl ?_
      refine c_S1 (μz := mX1_kindName) dX4_kindTold_10 kl_RX4_111 ms_X1_kindName ok_X1_kindName ?_
      rw [k_kn i (by omega)]
      refine c_V1 (μz := mX4_isWord) dX4_kindTold_13 kl_RX4_37 mv_X4_isWord rfl (ok_X4_isWord ht (by omega)) ?_
      refine r_if_eq 21 dX4_kindTold_16 (fun h16 => ?_) (fun h16 => ?_)
      · refine r_iinc1 (1) dX4_kindTold_21 ?_
        refine r_goto 2 dX4_kindTold_24 ?_
        rw [nI_1]
        unfold k_first
        rw [if_neg (by rw [decide_eq_true_eq]; exact bi_0.mp h16)]
        exact ih (i + 1) (by omega)
      · refine r_iloadn dX4_kindTold_19 rfl ?_
        exact r_iret dX4_kindTold_20 ⟨by unfold k_first; rw [if_pos (decide_eq_true (bi_1.mp h16))], rfl, rfl⟩

theorem ok_X4_kindTold {X : fp_X} {M : fp_M} {z : Nat} (ht : k_tp M z): fp_Ev X mX4_kindTold [.ref 37] fp_sh M (some (.int (k_kt M))) M := by
  refine fp_ok [some (.ref 37), none] ?_
  refine r_ic (0) dX4_kindTold_0 ?_
  refine r_istore1 dX4_kindTold_1 ?_
  exact lp_X4_kindTold ht 7 0 (by omega)
theorem lp_X4_numberTold {X : fp_X} {M : fp_M} {b : Nat} {most : Int32} (hb : M 37 4 = nI b) (hb1 : b ≤ 120) : ∀ (n i : Nat), i + n = b → ∀ (acc : Int32), fp_W X mX4_numberTold 17 [some (.ref 37), some (.int most), some (.int acc), some (.int (nI i))] [] fp_sh M 0 0 (fun r s m => r = some (.int (k_numl (M 38) most n i acc)) ∧ s = fp_sh ∧ m = M) := by
  have tb : (M 37 4).toInt = (b : Int) := by rw [hb]; exact nI_toInt (by omega)
  intro n
  induction n with
  | zero =>
    intro i hi acc
    have ti : (nI i).toInt = (i : Int) := nI_toInt (by omega)
    refine r_iloadn dX4_numberTold_17 rfl ?_
    refine r_aloadn dX4_numberTold_18 rfl (by decide) ?_
    refine r_getfi dX4_numberTold_19 kf_RX4_25 rfl rfl ?_
    refine r_icmp_ge 53 dX4_numberTold_22 (fun h22 => ?_) (fun h22 => ?_)
    · refine r_iloadn dX4_numberTold_53 rfl ?_
      exact r_iret dX4_numberTold_54 ⟨rfl, rfl, rfl⟩
    · exfalso; simp only [Int32.le_iff_toInt_le, Int32.lt_iff_toInt_lt, Int32.reduceToInt] at h22; omega
  | succ n ih =>
    intro i hi acc
    have ti : (nI i).toInt = (i : Int) := nI_toInt (by omega)
    refine r_iloadn dX4_numberTold_17 rfl ?_
    refine r_aloadn dX4_numberTold_18 rfl (by decide) ?_
    refine r_getfi dX4_numberTold_19 kf_RX4_25 rfl rfl ?_
    refine r_icmp_ge 53 dX4_numberTold_22 (fun h22 => ?_) (fun h22 => ?_)
    · exfalso; simp only [Int32.le_iff_toInt_le, Int32.lt_iff_toInt_lt, Int32.reduceToInt] at h22; omega
    · refine r_iloadn dX4_numberTold_25 rfl ?_
      refine r_bp (10) dX4_numberTold_26 ?_
      refine r_imul dX4_numberTold_28 ?_
      refine r_aloadn dX4_numberTold_29 rfl (by decide) ?_
      refine r_getfr dX4_numberTold_30 kf_RX4_15 rfl rfl ?_
      refine r_iloadn dX4_numberTold_33 rfl ?_
      refine r_ialdL (j := i) dX4_numberTold_34 rfl rfl ⟨by omega, by decide⟩ ?_
      refine r_iadd dX4_numberTold_35 ?_
      refine r_bp (48) dX4_numberTold_36 ?_
      refine r_isub dX4_numberTold_38 ?_
      refine r_istore2 dX4_numberTold_39 ?_
      refine r_iloadn dX4_numberTold_40 rfl ?_
      refine r_iloadn dX4_numberTold_41 rfl ?_
      refine r_icmp_le 47 dX4_numberTold_42 (fun h42 => ?_) (fun h42 => ?_)
      · refine r_iinc3 (1) dX4_numberTold_47 ?_
        refine r_goto 17 dX4_numberTold_50 ?_
        rw [nI_1]
        unfold k_numl
        rw [if_pos h42]
        exact ih (i + 1) (by omega) _
      · refine r_ic (-1) dX4_numberTold_45 ?_
        exact r_iret dX4_numberTold_46 ⟨by unfold k_numl; rw [if_neg h42], rfl, rfl⟩
theorem ok_X4_numberTold {X : fp_X} {M : fp_M} {z : Nat} {most : Int32} (ht : k_tp M z): fp_Ev X mX4_numberTold [.ref 37, .int most] fp_sh M (some (.int (k_num M most))) M := by
  obtain ⟨hz1, hz, p, b, hp, hb, hpb, hbz⟩ := ht
  have ep : k_v (M 37 3) = p := by show (M 37 3).toNatClampNeg = p; rw [hp]; exact nI_clamp (by omega)
  have eb : k_v (M 37 4) = b := by show (M 37 4).toNatClampNeg = b; rw [hb]; exact nI_clamp (by omega)
  refine fp_ok [some (.ref 37), some (.int most), none, none] ?_
  refine r_aloadn dX4_numberTold_0 rfl (by decide) ?_
  refine r_getfi dX4_numberTold_1 kf_RX4_19 rfl rfl ?_
  refine r_ic (2) dX4_numberTold_4 ?_
  refine r_icmp_eq 10 dX4_numberTold_5 (fun h5 => ?_) (fun h5 => ?_)
  · refine r_ic (0) dX4_numberTold_10 ?_
    refine r_istore2 dX4_numberTold_11 ?_
    refine r_aloadn dX4_numberTold_12 rfl (by decide) ?_
    refine r_getfi dX4_numberTold_13 kf_RX4_22 rfl rfl ?_
    refine r_istore3 dX4_numberTold_16 ?_
    unfold k_num
    rw [if_pos h5, ep, eb, hp]
    exact lp_X4_numberTold hb (by omega) (b - p) p (by omega) 0
  · refine r_ic (-1) dX4_numberTold_8 ?_
    exact r_iret dX4_numberTold_9 ⟨by unfold k_num; rw [if_neg h5], rfl, rfl⟩
theorem ok_X4_readStruck {X : fp_X} {M : fp_M} {z L : Nat} (ht : k_tp M z) (hL : fp_isL L) (hL37 : ¬ L = 37): fp_Ev X mX4_readStruck [.ref 37, .ref L] fp_sh M (some (.int 1)) (ps_struck M L) := by
  refine fp_ok [some (.ref 37), some (.ref L)] ?_
  refine r_aloadn dX4_readStruck_0 rfl (by decide) ?_
  refine r_ldcS (i := 11) dX4_readStruck_1 (by decide) rfl rfl ?_
  refine c_V1 (μz := mX4_isWord) dX4_readStruck_3 kl_RX4_37 mv_X4_isWord rfl (ok_X4_isWord (i := 11) ht (by decide)) ?_
  refine r_if_eq 18 dX4_readStruck_6 (fun h6 => ?_) (fun h6 => ?_)
  · refine r_ic (1) dX4_readStruck_18 ?_
    exact r_iret dX4_readStruck_19 ⟨rfl, rfl, by unfold ps_struck; rw [if_neg (bi_0.mp h6)]⟩
  · refine r_aloadn dX4_readStruck_9 rfl (Or.inl ⟨Nat.lt_of_lt_of_le hL.lt (by decide), by have := hL.lt; omega⟩) ?_
    refine r_ic (1) dX4_readStruck_10 ?_
    refine r_putfi dX4_readStruck_11 kf_RX4_97 hL rfl ?_
    refine r_aloadn dX4_readStruck_14 rfl (by decide) ?_
    refine c_V0v (μz := mX4_step) dX4_readStruck_15 kl_RX4_28 mv_X4_step rfl (ok_X4_step (ht.wr hL37)) ?_
    refine r_ic (1) dX4_readStruck_18 ?_
    exact r_iret dX4_readStruck_19 ⟨rfl, rfl, by unfold ps_struck; rw [if_pos (bi_1.mp h6)]⟩
theorem ok_X4_readMark {X : fp_X} {M : fp_M} {z L : Nat} (ht : k_tp M z) (hL : fp_isL L) (hL37 : ¬ L = 37): fp_Ev X mX4_readMark [.ref 37, .ref L] fp_sh M (some (.int (ps_mark M L).1)) (ps_mark M L).2 := by
  refine fp_ok [some (.ref 37), some (.ref L), none] ?_
  refine r_aloadn dX4_readMark_0 rfl (by decide) ?_
  refine r_ldcS (i := 10) dX4_readMark_1 (by decide) rfl rfl ?_
  refine c_V1 (μz := mX4_isWord) dX4_readMark_3 kl_RX4_37 mv_X4_isWord rfl (ok_X4_isWord (i := 10) ht (by decide)) ?_
  refine r_if_ne 11 dX4_readMark_6 (fun h6 => ?_) (fun h6 => ?_)
  · refine r_aloadn dX4_readMark_11 rfl (by decide) ?_
    refine c_V0v (μz := mX4_step) dX4_readMark_12 kl_RX4_28 mv_X4_step rfl (ok_X4_step ht) ?_
    refine r_aloadn dX4_readMark_15 rfl (by decide) ?_
    refine r_sp (999) dX4_readMark_16 ?_
    refine c_V1 (μz := mX4_numberTold) dX4_readMark_19 kl_RX4_59 mv_X4_numberTold rfl (ok_X4_numberTold (k_step_tp ht)) ?_
    refine r_istore2 dX4_readMark_22 ?_
    refine r_iloadn dX4_readMark_23 rfl ?_
    refine r_ic (-1) dX4_readMark_24 ?_
    refine r_icmp_ne 30 dX4_readMark_25 (fun h25 => ?_) (fun h25 => ?_)
    · refine r_aloadn dX4_readMark_30 rfl (Or.inl ⟨Nat.lt_of_lt_of_le hL.lt (by decide), by have := hL.lt; omega⟩) ?_
      refine r_iloadn dX4_readMark_31 rfl ?_
      refine r_putfi dX4_readMark_32 kf_RX4_93 hL rfl ?_
      refine r_aloadn dX4_readMark_35 rfl (by decide) ?_
      refine c_V0v (μz := mX4_step) dX4_readMark_36 kl_RX4_28 mv_X4_step rfl (ok_X4_step ((k_step_tp ht).wr hL37)) ?_
      refine r_ic (1) dX4_readMark_39 ?_
      exact r_iret dX4_readMark_40 ⟨by unfold ps_mark; rw [if_pos (bi_1.mp h6), if_neg h25], rfl, by unfold ps_mark; rw [if_pos (bi_1.mp h6), if_neg h25]⟩
    · refine r_ic (0) dX4_readMark_28 ?_
      exact r_iret dX4_readMark_29 ⟨by unfold ps_mark; rw [if_pos (bi_1.mp h6), if_pos h25], rfl, by unfold ps_mark; rw [if_pos (bi_1.mp h6), if_pos h25]⟩
  · refine r_ic (1) dX4_readMark_9 ?_
    exact r_iret dX4_readMark_10 ⟨by unfold ps_mark; rw [if_neg (bi_0.mp h6)], rfl, by unfold ps_mark; rw [if_neg (bi_0.mp h6)]⟩
theorem ps_dm_tp {M : fp_M} {z : Nat} (ht : k_tp M z) : k_tp (ps_dm M) z := by
  unfold ps_dm
  split
  · exact k_step_tp (k_step_tp ht)
  · exact k_step_tp ht
theorem ok_X4_readDays {X : fp_X} {M : fp_M} {z L : Nat} (ht : k_tp M z) (hL : fp_isL L) (hL37 : ¬ L = 37): fp_Ev X mX4_readDays [.ref 37, .ref L] fp_sh M (some (.int (ps_days M L).1)) (ps_days M L).2 := by
  refine fp_ok [some (.ref 37), some (.ref L), none, none] ?_
  refine r_aloadn dX4_readDays_0 rfl (by decide) ?_
  refine r_ldcS (i := 9) dX4_readDays_1 (by decide) rfl rfl ?_
  refine c_V1 (μz := mX4_isWord) dX4_readDays_3 kl_RX4_37 mv_X4_isWord rfl (ok_X4_isWord (i := 9) ht (by decide)) ?_
  refine r_if_ne 11 dX4_readDays_6 (fun h6 => ?_) (fun h6 => ?_)
  · refine r_aloadn dX4_readDays_11 rfl (by decide) ?_
    refine c_V0v (μz := mX4_step) dX4_readDays_12 kl_RX4_28 mv_X4_step rfl (ok_X4_step ht) ?_
    refine r_aloadn dX4_readDays_15 rfl (by decide) ?_
    refine r_getfi dX4_readDays_16 kf_RX4_19 rfl rfl ?_
    refine r_ic (4) dX4_readDays_19 ?_
    refine r_icmp_ne 27 dX4_readDays_20 (fun h20 => ?_) (fun h20 => ?_)
    · refine r_ic (0) dX4_readDays_27 ?_
      refine r_istore2 dX4_readDays_28 ?_
      refine r_iloadn dX4_readDays_29 rfl ?_
      refine r_if_eq 37 dX4_readDays_30 (fun h30 => ?_) (fun h30 => ?_)
      · refine r_aloadn dX4_readDays_37 rfl (by decide) ?_
        refine r_bp (99) dX4_readDays_38 ?_
        refine c_V1 (μz := mX4_numberTold) dX4_readDays_40 kl_RX4_59 mv_X4_numberTold rfl (ok_X4_numberTold (by first | exact k_step_tp ht | exact k_step_tp (k_step_tp ht))) ?_
        refine r_istore3 dX4_readDays_43 ?_
        refine r_iloadn dX4_readDays_44 rfl ?_
        refine r_ic (-1) dX4_readDays_45 ?_
        refine r_icmp_ne 51 dX4_readDays_46 (fun h46 => ?_) (fun h46 => ?_)
        · refine r_aloadn dX4_readDays_51 rfl (Or.inl ⟨Nat.lt_of_lt_of_le hL.lt (by decide), by have := hL.lt; omega⟩) ?_
          refine r_iloadn dX4_readDays_52 rfl ?_
          refine r_if_eq 61 dX4_readDays_53 (fun h53 => ?_) (fun h53 => ?_)
          · refine r_iloadn dX4_readDays_61 rfl ?_
            refine r_putfi dX4_readDays_62 kf_RX4_87 hL rfl ?_
            refine r_aloadn dX4_readDays_65 rfl (by decide) ?_
            refine c_V0v (μz := mX4_step) dX4_readDays_66 kl_RX4_28 mv_X4_step rfl (ok_X4_step (by first | exact (k_step_tp ht).wr hL37 | exact (k_step_tp (k_step_tp ht)).wr hL37)) ?_
            refine r_ic (1) dX4_readDays_69 ?_
            have ed : ps_dm M = k_step M := by unfold ps_dm; rw [if_neg h20]
            refine r_iret dX4_readDays_70 ⟨?_, rfl, ?_⟩
            · unfold ps_days; rw [if_pos (bi_1.mp h6), ed, if_neg h46]
            · unfold ps_days; rw [if_pos (bi_1.mp h6), ed, if_neg h46, if_neg h20]
          · exact absurd rfl h53
        · refine r_ic (0) dX4_readDays_49 ?_
          have ed : ps_dm M = k_step M := by unfold ps_dm; rw [if_neg h20]
          refine r_iret dX4_readDays_50 ⟨?_, rfl, ?_⟩
          · unfold ps_days; rw [if_pos (bi_1.mp h6), ed, if_pos h46]
          · unfold ps_days; rw [if_pos (bi_1.mp h6), ed, if_pos h46]
      · exact absurd rfl h30
    · refine r_ic (1) dX4_readDays_23 ?_
      refine r_goto 28 dX4_readDays_24 ?_
      refine r_istore2 dX4_readDays_28 ?_
      refine r_iloadn dX4_readDays_29 rfl ?_
      refine r_if_eq 37 dX4_readDays_30 (fun h30 => ?_) (fun h30 => ?_)
      · exact absurd h30 (by decide)
      · refine r_aloadn dX4_readDays_33 rfl (by decide) ?_
        refine c_V0v (μz := mX4_step) dX4_readDays_34 kl_RX4_28 mv_X4_step rfl (ok_X4_step (k_step_tp ht)) ?_
        refine r_aloadn dX4_readDays_37 rfl (by decide) ?_
        refine r_bp (99) dX4_readDays_38 ?_
        refine c_V1 (μz := mX4_numberTold) dX4_readDays_40 kl_RX4_59 mv_X4_numberTold rfl (ok_X4_numberTold (by first | exact k_step_tp ht | exact k_step_tp (k_step_tp ht))) ?_
        refine r_istore3 dX4_readDays_43 ?_
        refine r_iloadn dX4_readDays_44 rfl ?_
        refine r_ic (-1) dX4_readDays_45 ?_
        refine r_icmp_ne 51 dX4_readDays_46 (fun h46 => ?_) (fun h46 => ?_)
        · refine r_aloadn dX4_readDays_51 rfl (Or.inl ⟨Nat.lt_of_lt_of_le hL.lt (by decide), by have := hL.lt; omega⟩) ?_
          refine r_iloadn dX4_readDays_52 rfl ?_
          refine r_if_eq 61 dX4_readDays_53 (fun h53 => ?_) (fun h53 => ?_)
          · exact absurd h53 (by decide)
          · refine r_iloadn dX4_readDays_56 rfl ?_
            refine r_ineg dX4_readDays_57 ?_
            refine r_goto 62 dX4_readDays_58 ?_
            refine r_putfi dX4_readDays_62 kf_RX4_87 hL rfl ?_
            refine r_aloadn dX4_readDays_65 rfl (by decide) ?_
            refine c_V0v (μz := mX4_step) dX4_readDays_66 kl_RX4_28 mv_X4_step rfl (ok_X4_step (by first | exact (k_step_tp ht).wr hL37 | exact (k_step_tp (k_step_tp ht)).wr hL37)) ?_
            refine r_ic (1) dX4_readDays_69 ?_
            have ed : ps_dm M = k_step (k_step M) := by unfold ps_dm; rw [if_pos h20]
            refine r_iret dX4_readDays_70 ⟨?_, rfl, ?_⟩
            · unfold ps_days; rw [if_pos (bi_1.mp h6), ed, if_neg h46]
            · unfold ps_days; rw [if_pos (bi_1.mp h6), ed, if_neg h46, if_pos h20]
        · refine r_ic (0) dX4_readDays_49 ?_
          have ed : ps_dm M = k_step (k_step M) := by unfold ps_dm; rw [if_pos h20]
          refine r_iret dX4_readDays_50 ⟨?_, rfl, ?_⟩
          · unfold ps_days; rw [if_pos (bi_1.mp h6), ed, if_pos h46]
          · unfold ps_days; rw [if_pos (bi_1.mp h6), ed, if_pos h46]
  · refine r_ic (0) dX4_readDays_9 ?_
    exact r_iret dX4_readDays_10 ⟨by unfold ps_days; rw [if_neg (bi_0.mp h6)], rfl, by unfold ps_days; rw [if_neg (bi_0.mp h6)]⟩
