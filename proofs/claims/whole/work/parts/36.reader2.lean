/-! ===== the tape's reader: items, the whole tape ===== -/
theorem k_step_o {M : fp_M} {k j : Nat} (h : ¬ k = 37) : k_step M k j = M k j := k_tk_o h
theorem fp_wr_eq {M : fp_M} {k j : Nat} {v : Int32} : fp_wr M k j v k j = v := by
  unfold fp_wr
  rw [if_pos ⟨rfl, rfl⟩]
theorem fp_wr_ne2 {M : fp_M} {k j k' j' : Nat} {v : Int32} (h : ¬ j' = j) : fp_wr M k j v k' j' = M k' j' := by
  unfold fp_wr
  rw [if_neg (fun q => h q.2)]
theorem ok_X4_stepB {X : fp_X} {M : fp_M} {z b : Nat} (hz1 : z ≤ 120) (hz : M 37 0 = nI z) (hb : M 37 4 = nI b) (hbz : b ≤ z) : fp_Ev X mX4_step [.ref 37] fp_sh M none (k_step M) := by
  refine fp_ok [some (.ref 37)] ?_
  have ez : k_v (M 37 0) = z := by show (M 37 0).toNatClampNeg = z; rw [hz]; exact nI_clamp (by omega)
  have eb : k_v (M 37 4) = b := by show (M 37 4).toNatClampNeg = b; rw [hb]; exact nI_clamp (by omega)
  have e := lp_X4_step (X := X) (t := M 37 2) (p := M 37 3) hz hz1 (z - b) b (by omega)
  rw [← hb, k_tk_eta] at e
  unfold k_step
  rw [ez, eb]
  exact e
theorem k_tk_w3 {M : fp_M} {t p b q : Int32} : k_tk (fp_wr M 37 3 q) t p b = k_tk M t p b := by
  have e : fp_wr M 37 3 q = k_tk M (M 37 2) q (M 37 4) := by
    funext k j
    unfold k_tk fp_wr
    by_cases hk : k = 37
    · subst hk
      by_cases h2 : j = 2
      · subst h2; simp
      · by_cases h3 : j = 3
        · subst h3; simp
        · by_cases h4 : j = 4
          · subst h4; simp
          · simp [h2, h3, h4]
    · simp [hk]
  rw [e, k_tk_k]
theorem k_step_3 {M : fp_M} {q : Int32} : k_step (fp_wr M 37 3 q) = k_step M := by
  have e0 : fp_wr M 37 3 q 37 0 = M 37 0 := fp_wr_ne2 (by decide)
  have e4 : fp_wr M 37 3 q 37 4 = M 37 4 := fp_wr_ne2 (by decide)
  have e8 : fp_wr M 37 3 q 38 = M 38 := fp_wr_row (by decide)
  unfold k_step
  rw [e0, e4, e8, k_tk_w3]
theorem k_step_tp0 {M : fp_M} {z : Nat} (hz : z ≤ 120) (h0 : M 37 0 = nI z) : k_tp (k_step (fp_wr M 37 4 0)) z := by
  rw [← k_step_3 (q := 0)]
  refine k_step_tp ⟨hz, ?_, 0, 0, fp_wr_eq, ?_, Nat.le_refl _, Nat.zero_le _⟩
  · rw [fp_wr_ne2 (by decide), fp_wr_ne2 (by decide)]
    exact h0
  · rw [fp_wr_ne2 (by decide)]
    exact fp_wr_eq
theorem ps_struck_tp {M : fp_M} {z L : Nat} (ht : k_tp M z) (hL : ¬ L = 37) : k_tp (ps_struck M L) z := by
  unfold ps_struck
  split
  · exact k_step_tp (ht.wr hL)
  · exact ht
theorem ps_mark_tp {M : fp_M} {z L : Nat} (ht : k_tp M z) (hL : ¬ L = 37) : k_tp (ps_mark M L).2 z := by
  unfold ps_mark
  split
  · split
    · exact k_step_tp ht
    · exact k_step_tp ((k_step_tp ht).wr hL)
  · exact ht
theorem ps_days_tp {M : fp_M} {z L : Nat} (ht : k_tp M z) (hL : ¬ L = 37) : k_tp (ps_days M L).2 z := by
  unfold ps_days
  split
  · split
    · exact ps_dm_tp ht
    · exact k_step_tp ((ps_dm_tp ht).wr hL)
  · exact ht
theorem ps_tail_tp {M : fp_M} {z L : Nat} (ht : k_tp M z) (hL : ¬ L = 37) : k_tp (ps_tail M L).2 z := by
  unfold ps_tail
  split
  · exact ps_days_tp ht hL
  · split
    · exact ps_mark_tp (ps_days_tp ht hL) hL
    · exact ps_struck_tp (ps_mark_tp (ps_days_tp ht hL) hL) hL
/-- what is neither the tape's nor the letter's stays -/
theorem ps_struck_o {M : fp_M} {L k j : Nat} (h : ¬ k = 37) (h2 : ¬ k = L) : ps_struck M L k j = M k j := by
  unfold ps_struck
  split
  · rw [k_step_o h, fp_wr_ne h2]
  · rfl
theorem ps_mark_o {M : fp_M} {L k j : Nat} (h : ¬ k = 37) (h2 : ¬ k = L) : (ps_mark M L).2 k j = M k j := by
  unfold ps_mark
  split
  · split
    · exact k_step_o h
    · show k_step (fp_wr (k_step M) L 4 _) k j = M k j
      rw [k_step_o h, fp_wr_ne h2, k_step_o h]
  · rfl
theorem ps_dm_o {M : fp_M} {k j : Nat} (h : ¬ k = 37) : ps_dm M k j = M k j := by
  unfold ps_dm
  split
  · rw [k_step_o h, k_step_o h]
  · exact k_step_o h
theorem ps_days_o {M : fp_M} {L k j : Nat} (h : ¬ k = 37) (h2 : ¬ k = L) : (ps_days M L).2 k j = M k j := by
  unfold ps_days
  split
  · split
    · exact ps_dm_o h
    · show k_step (fp_wr (ps_dm M) L 3 _) k j = M k j
      rw [k_step_o h, fp_wr_ne h2, ps_dm_o h]
  · rfl
theorem ps_tail_o {M : fp_M} {L k j : Nat} (h : ¬ k = 37) (h2 : ¬ k = L) : (ps_tail M L).2 k j = M k j := by
  unfold ps_tail
  split
  · exact ps_days_o h h2
  · split
    · exact (ps_mark_o h h2).trans (ps_days_o h h2)
    · exact (ps_struck_o h h2).trans ((ps_mark_o h h2).trans (ps_days_o h h2))
theorem k_recv_tp {M : fp_M} {z c : Nat} {v0 v1 v2 v3 v4 : Int32} (ht : k_tp M z) (hc : c < 8) : k_tp (k_recv M 12 c v0 v1 v2 v3 v4) z := by
  have h : ¬ 12 + 2 + c = 37 := by omega
  unfold k_recv
  exact (((((((ht.wr h).wr h).wr h).wr h).wr h).wr h).wr (by decide))
theorem ps_tail_01 (M : fp_M) (L : Nat) : (ps_tail M L).1 = 0 ∨ (ps_tail M L).1 = 1 := by
  unfold ps_tail
  split
  · exact Or.inl rfl
  · split
    · exact Or.inl rfl
    · exact Or.inr rfl
theorem ps_law_01 (M : fp_M) : (ps_law M).1 = 0 ∨ (ps_law M).1 = 1 := by
  unfold ps_law
  split
  · exact Or.inl rfl
  · exact Or.inr rfl
theorem ps_letter_01 (M : fp_M) (c : Nat) (v : Int32) : (ps_letter M c v).1 = 0 ∨ (ps_letter M c v).1 = 1 := by
  unfold ps_letter
  split
  · exact Or.inl rfl
  · split
    · exact Or.inl rfl
    · exact ps_tail_01 _ _
theorem ps_item_01 (M : fp_M) (c : Nat) : (ps_item M c).1 = 0 ∨ (ps_item M c).1 = 1 := by
  unfold ps_item
  split
  · exact ps_law_01 M
  · split
    · exact Or.inl rfl
    · split
      · exact ps_letter_01 _ _ _
      · exact Or.inl rfl
/-- what reading keeps -/
def ps_inv (M : fp_M) (z : Nat) : Prop := k_tp M z ∧ ∃ c : Nat, c ≤ 8 ∧ M 12 1 = nI c
theorem ps_inv.step {M : fp_M} {z : Nat} (h : ps_inv M z) : ps_inv (k_step M) z := by
  obtain ⟨ht, c, hc, e⟩ := h
  exact ⟨k_step_tp ht, c, hc, (k_step_o (by decide)).trans e⟩
theorem ps_law_inv {M : fp_M} {z : Nat} (h : ps_inv M z) : ps_inv (ps_law M).2 z := by
  have h2 := h.step
  unfold ps_law
  split
  · exact h2
  · obtain ⟨ht, c, hc, e⟩ := h2
    refine ps_inv.step (M := fp_wr (k_step M) 12 (if k_word M 7 then 2 else 3) (k_num (k_step M) 9)) ⟨ht.wr (by decide), c, hc, ?_⟩
    rw [fp_wr_ne2 (by split <;> decide)]
    exact e
theorem ps_letter_inv {M : fp_M} {z c : Nat} {v : Int32} (h : k_tp M z) (hc : c < 8) (e : M 12 1 = nI c) : ps_inv (ps_letter M c v).2 z := by
  have hi : ps_inv M z := ⟨h, c, by omega, e⟩
  unfold ps_letter
  split
  · exact hi.step
  · split
    · exact hi.step.step
    · refine ⟨ps_tail_tp (k_recv_tp (k_step_tp (k_step_tp (k_step_tp h))) hc) (by omega), c + 1, by omega, ?_⟩
      rw [ps_tail_o (by decide) (by omega)]
      unfold k_recv
      exact fp_wr_eq
theorem ps_item_inv {M : fp_M} {z c : Nat} (h : k_tp M z) (hc : c ≤ 8) (e : M 12 1 = nI c) : ps_inv (ps_item M c).2 z := by
  have hi : ps_inv M z := ⟨h, c, hc, e⟩
  unfold ps_item
  split
  · exact ps_law_inv hi
  · split
    · exact hi
    · split
      · rename_i h1
        refine ps_letter_inv h ?_ e
        rw [e] at h1
        have tc : (nI c).toInt = (c : Int) := nI_toInt (by omega)
        simp only [Int32.lt_iff_toInt_lt, Int32.reduceToInt] at h1
        omega
      · exact hi
def ps_onto : Nat → Nat → fp_M → Int32 × fp_M
  | 0, _, M => (-1 - M 37 3, M)
  | n + 1, i, M => if (ps_item M (k_v (M 12 1))).1 = 0 then (-1 - (ps_item M (k_v (M 12 1))).2 37 3, (ps_item M (k_v (M 12 1))).2) else if (ps_item M (k_v (M 12 1))).2 37 2 = 0 then (nI i, (ps_item M (k_v (M 12 1))).2) else if (ps_item M (k_v (M 12 1))).2 37 2 = 3 then ps_onto n (i + 1) (k_step (ps_item M (k_v (M 12 1))).2) else (-1 - (ps_item M (k_v (M 12 1))).2 37 3, (ps_item M (k_v (M 12 1))).2)
def ps_read (M : fp_M) : Int32 × fp_M := ps_onto 120 1 (k_step (fp_wr M 37 4 0))
theorem ok_X4_readLetter {X : fp_X} {M : fp_M} {z c : Nat} {v : Int32} (ht : k_tp M z) (hc : M 12 1 = nI c) (hc8 : c < 8): fp_Ev X mX4_readLetter [.ref 37, .ref 12, .int v] fp_sh M (some (.int (ps_letter M c v).1)) (ps_letter M c v).2 := by
  have t3 := k_step_tp (k_step_tp (k_step_tp ht))
  have e3 : k_step (k_step (k_step M)) 12 1 = nI c := by rw [k_step_o (by decide), k_step_o (by decide), k_step_o (by decide)]; exact hc
  have hL : fp_isL (14 + c) := sh_l fp_of_12 hc8
  have hL37 : ¬ 14 + c = 37 := by omega
  have tr : k_tp (k_recv (k_step (k_step (k_step M))) 12 c v (k_num (k_step M) 7) (k_num (k_step (k_step M)) 7) 0 0) z := k_recv_tp t3 hc8
  refine fp_ok [some (.ref 37), some (.ref 12), some (.int v), none, none, none] ?_
  refine r_aloadn dX4_readLetter_0 rfl (by decide) ?_
  refine c_V0v (μz := mX4_step) dX4_readLetter_1 kl_RX4_28 mv_X4_step rfl (ok_X4_step ht) ?_
  refine r_aloadn dX4_readLetter_4 rfl (by decide) ?_
  refine r_bp (7) dX4_readLetter_5 ?_
  refine c_V1 (μz := mX4_numberTold) dX4_readLetter_7 kl_RX4_59 mv_X4_numberTold rfl (ok_X4_numberTold (k_step_tp ht)) ?_
  refine r_istore3 dX4_readLetter_10 ?_
  refine r_iloadn dX4_readLetter_11 rfl ?_
  refine r_ic (-1) dX4_readLetter_12 ?_
  refine r_icmp_ne 18 dX4_readLetter_13 (fun h13 => ?_) (fun h13 => ?_)
  · refine r_aloadn dX4_readLetter_18 rfl (by decide) ?_
    refine c_V0v (μz := mX4_step) dX4_readLetter_19 kl_RX4_28 mv_X4_step rfl (ok_X4_step (k_step_tp ht)) ?_
    refine r_aloadn dX4_readLetter_22 rfl (by decide) ?_
    refine r_bp (7) dX4_readLetter_23 ?_
    refine c_V1 (μz := mX4_numberTold) dX4_readLetter_25 kl_RX4_59 mv_X4_numberTold rfl (ok_X4_numberTold (k_step_tp (k_step_tp ht))) ?_
    refine r_istore4 dX4_readLetter_28 ?_
    refine r_iload dX4_readLetter_30 rfl ?_
    refine r_ic (-1) dX4_readLetter_32 ?_
    refine r_icmp_eq 42 dX4_readLetter_33 (fun h33 => ?_) (fun h33 => ?_)
    · refine r_ic (0) dX4_readLetter_42 ?_
      exact r_iret dX4_readLetter_43 ⟨by unfold ps_letter; rw [if_neg h13, if_pos (Or.inl h33)], rfl, by unfold ps_letter; rw [if_neg h13, if_pos (Or.inl h33)]⟩
    · refine r_iload dX4_readLetter_36 rfl ?_
      refine r_iloadn dX4_readLetter_38 rfl ?_
      refine r_icmp_ne 44 dX4_readLetter_39 (fun h39 => ?_) (fun h39 => ?_)
      · have hn : ¬ (k_num (k_step (k_step M)) 7 = -1 ∨ k_num (k_step (k_step M)) 7 = k_num (k_step M) 7) := fun q => q.elim h33 h39
        refine r_aloadn dX4_readLetter_44 rfl (by decide) ?_
        refine c_V0v (μz := mX4_step) dX4_readLetter_45 kl_RX4_28 mv_X4_step rfl (ok_X4_step (k_step_tp (k_step_tp ht))) ?_
        refine r_aloadn dX4_readLetter_48 rfl (by decide) ?_
        refine r_getfr dX4_readLetter_49 kf_RX4_67 rfl rfl ?_
        refine r_aloadn dX4_readLetter_52 rfl (by decide) ?_
        refine r_iloadn dX4_readLetter_53 rfl ?_
        refine r_iloadn dX4_readLetter_54 rfl ?_
        refine r_iload dX4_readLetter_55 rfl ?_
        refine r_ic (0) dX4_readLetter_57 ?_
        refine r_ic (0) dX4_readLetter_58 ?_
        refine c_V5 (μz := mX2_receive) dX4_readLetter_59 kl_RX4_71 mv_X2_receive rfl (ok_X2_receive (c := c) fp_of_12 e3 hc8) ?_
        refine r_aaldL (j := c) (r := 14 + c) dX4_readLetter_62 (sh_r fp_of_12) rfl (sh_rr (o := 12) hc8) (by omega) (Nat.le_of_ble_eq_true rfl) ?_
        refine r_astore5 dX4_readLetter_63 (Or.inl ⟨by omega, by omega⟩) ?_
        refine r_aloadn dX4_readLetter_65 rfl (by decide) ?_
        refine r_aload dX4_readLetter_66 rfl (Or.inl ⟨by omega, by omega⟩) ?_
        refine c_V1 (μz := mX4_readDays) dX4_readLetter_68 kl_RX4_75 mv_X4_readDays rfl (ok_X4_readDays tr hL hL37) ?_
        refine r_if_eq 96 dX4_readLetter_71 (fun h71 => ?_) (fun h71 => ?_)
        · refine r_ic (0) dX4_readLetter_96 ?_
          exact r_iret dX4_readLetter_97 ⟨by unfold ps_letter; rw [if_neg h13, if_neg hn]; unfold ps_tail; rw [if_pos h71], rfl, by unfold ps_letter; rw [if_neg h13, if_neg hn]; unfold ps_tail; rw [if_pos h71]⟩
        · refine r_aloadn dX4_readLetter_74 rfl (by decide) ?_
          refine r_aload dX4_readLetter_75 rfl (Or.inl ⟨by omega, by omega⟩) ?_
          refine c_V1 (μz := mX4_readMark) dX4_readLetter_77 kl_RX4_79 mv_X4_readMark rfl (ok_X4_readMark (ps_days_tp tr hL37) hL hL37) ?_
          refine r_if_eq 96 dX4_readLetter_80 (fun h80 => ?_) (fun h80 => ?_)
          · refine r_ic (0) dX4_readLetter_96 ?_
            exact r_iret dX4_readLetter_97 ⟨by unfold ps_letter; rw [if_neg h13, if_neg hn]; unfold ps_tail; rw [if_neg h71, if_pos h80], rfl, by unfold ps_letter; rw [if_neg h13, if_neg hn]; unfold ps_tail; rw [if_neg h71, if_pos h80]⟩
          · refine r_aloadn dX4_readLetter_83 rfl (by decide) ?_
            refine r_aload dX4_readLetter_84 rfl (Or.inl ⟨by omega, by omega⟩) ?_
            refine c_V1 (μz := mX4_readStruck) dX4_readLetter_86 kl_RX4_82 mv_X4_readStruck rfl (ok_X4_readStruck (ps_mark_tp (ps_days_tp tr hL37) hL37) hL hL37) ?_
            refine r_if_eq 96 dX4_readLetter_89 (fun h89 => ?_) (fun h89 => ?_)
            · exact absurd h89 (by decide)
            · refine r_ic (1) dX4_readLetter_92 ?_
              refine r_goto 97 dX4_readLetter_93 ?_
              exact r_iret dX4_readLetter_97 ⟨by unfold ps_letter; rw [if_neg h13, if_neg hn]; unfold ps_tail; rw [if_neg h71, if_neg h80], rfl, by unfold ps_letter; rw [if_neg h13, if_neg hn]; unfold ps_tail; rw [if_neg h71, if_neg h80]⟩
      · refine r_ic (0) dX4_readLetter_42 ?_
        exact r_iret dX4_readLetter_43 ⟨by unfold ps_letter; rw [if_neg h13, if_pos (Or.inr h39)], rfl, by unfold ps_letter; rw [if_neg h13, if_pos (Or.inr h39)]⟩
  · refine r_ic (0) dX4_readLetter_16 ?_
    exact r_iret dX4_readLetter_17 ⟨by unfold ps_letter; rw [if_pos h13], rfl, by unfold ps_letter; rw [if_pos h13]⟩
theorem ok_X4_readLaw {X : fp_X} {M : fp_M} {z : Nat} (ht : k_tp M z): fp_Ev X mX4_readLaw [.ref 37, .ref 12] fp_sh M (some (.int (ps_law M).1)) (ps_law M).2 := by
  refine fp_ok [some (.ref 37), some (.ref 12), none, none] ?_
  refine r_aloadn dX4_readLaw_0 rfl (by decide) ?_
  refine r_ldcS (i := 7) dX4_readLaw_1 (by decide) rfl rfl ?_
  refine c_V1 (μz := mX4_isWord) dX4_readLaw_3 kl_RX4_37 mv_X4_isWord rfl (ok_X4_isWord (i := 7) ht (by decide)) ?_
  refine r_istore2 dX4_readLaw_6 ?_
  refine r_aloadn dX4_readLaw_7 rfl (by decide) ?_
  refine c_V0v (μz := mX4_step) dX4_readLaw_8 kl_RX4_28 mv_X4_step rfl (ok_X4_step ht) ?_
  refine r_aloadn dX4_readLaw_11 rfl (by decide) ?_
  refine r_bp (9) dX4_readLaw_12 ?_
  refine c_V1 (μz := mX4_numberTold) dX4_readLaw_14 kl_RX4_59 mv_X4_numberTold rfl (ok_X4_numberTold (k_step_tp ht)) ?_
  refine r_istore3 dX4_readLaw_17 ?_
  refine r_iloadn dX4_readLaw_18 rfl ?_
  refine r_ic (-1) dX4_readLaw_19 ?_
  refine r_icmp_ne 25 dX4_readLaw_20 (fun h20 => ?_) (fun h20 => ?_)
  · refine r_iloadn dX4_readLaw_25 rfl ?_
    refine r_if_eq 37 dX4_readLaw_26 (fun h26 => ?_) (fun h26 => ?_)
    · refine r_aloadn dX4_readLaw_37 rfl (by decide) ?_
      refine r_iloadn dX4_readLaw_38 rfl ?_
      refine r_putfi dX4_readLaw_39 kf_RX4_65 rfl rfl ?_
      refine r_aloadn dX4_readLaw_42 rfl (by decide) ?_
      refine c_V0v (μz := mX4_step) dX4_readLaw_43 kl_RX4_28 mv_X4_step rfl (ok_X4_step ((k_step_tp ht).wr (by decide))) ?_
      refine r_ic (1) dX4_readLaw_46 ?_
      exact r_iret dX4_readLaw_47 ⟨by unfold ps_law; rw [if_neg h20], rfl, by unfold ps_law; rw [if_neg h20, if_neg (bi_0.mp h26)]⟩
    · refine r_aloadn dX4_readLaw_29 rfl (by decide) ?_
      refine r_iloadn dX4_readLaw_30 rfl ?_
      refine r_putfi dX4_readLaw_31 kf_RX4_63 rfl rfl ?_
      refine r_goto 42 dX4_readLaw_34 ?_
      refine r_aloadn dX4_readLaw_42 rfl (by decide) ?_
      refine c_V0v (μz := mX4_step) dX4_readLaw_43 kl_RX4_28 mv_X4_step rfl (ok_X4_step ((k_step_tp ht).wr (by decide))) ?_
      refine r_ic (1) dX4_readLaw_46 ?_
      exact r_iret dX4_readLaw_47 ⟨by unfold ps_law; rw [if_neg h20], rfl, by unfold ps_law; rw [if_neg h20, if_pos (bi_1.mp h26)]⟩
  · refine r_ic (0) dX4_readLaw_23 ?_
    exact r_iret dX4_readLaw_24 ⟨by unfold ps_law; rw [if_pos h20], rfl, by unfold ps_law; rw [if_pos h20]⟩
theorem ok_X4_readItem {X : fp_X} {M : fp_M} {z c : Nat} (ht : k_tp M z) (hc : M 12 1 = nI c) (hc8 : c ≤ 8): fp_Ev X mX4_readItem [.ref 37, .ref 12] fp_sh M (some (.int (ps_item M c).1)) (ps_item M c).2 := by
  refine fp_ok [some (.ref 37), some (.ref 12), none] ?_
  refine r_aloadn dX4_readItem_0 rfl (by decide) ?_
  refine r_ldcS (i := 7) dX4_readItem_1 (by decide) rfl rfl ?_
  refine c_V1 (μz := mX4_isWord) dX4_readItem_3 kl_RX4_37 mv_X4_isWord rfl (ok_X4_isWord (i := 7) ht (by decide)) ?_
  refine r_if_ne 18 dX4_readItem_6 (fun h6 => ?_) (fun h6 => ?_)
  · refine r_aloadn dX4_readItem_18 rfl (by decide) ?_
    refine r_aloadn dX4_readItem_19 rfl (by decide) ?_
    refine c_V1 (μz := mX4_readLaw) dX4_readItem_20 kl_RX4_43 mv_X4_readLaw rfl (ok_X4_readLaw ht) ?_
    exact r_iret dX4_readItem_23 ⟨by unfold ps_item; rw [if_pos (Or.inl (bi_1.mp h6))], rfl, by unfold ps_item; rw [if_pos (Or.inl (bi_1.mp h6))]⟩ rfl (k_nar01 (ps_law_01 M))
  · refine r_aloadn dX4_readItem_9 rfl (by decide) ?_
    refine r_ldcS (i := 8) dX4_readItem_10 (by decide) rfl rfl ?_
    refine c_V1 (μz := mX4_isWord) dX4_readItem_12 kl_RX4_37 mv_X4_isWord rfl (ok_X4_isWord (i := 8) ht (by decide)) ?_
    refine r_if_eq 24 dX4_readItem_15 (fun h15 => ?_) (fun h15 => ?_)
    · have hn : ¬ (k_word M 7 ∨ k_word M 8) := fun q => q.elim (bi_0.mp h6) (bi_0.mp h15)
      refine r_aloadn dX4_readItem_24 rfl (by decide) ?_
      refine c_V0 (μz := mX4_kindTold) dX4_readItem_25 kl_RX4_46 mv_X4_kindTold rfl (ok_X4_kindTold ht) ?_
      refine r_istore2 dX4_readItem_28 ?_
      refine r_iloadn dX4_readItem_29 rfl ?_
      refine r_ic (-1) dX4_readItem_30 ?_
      refine r_icmp_eq 56 dX4_readItem_31 (fun h31 => ?_) (fun h31 => ?_)
      · refine r_ic (0) dX4_readItem_56 ?_
        exact r_iret dX4_readItem_57 ⟨by unfold ps_item; rw [if_neg hn, if_pos h31], rfl, by unfold ps_item; rw [if_neg hn, if_pos h31]⟩
      · refine r_aloadn dX4_readItem_34 rfl (by decide) ?_
        refine r_getfi dX4_readItem_35 kf_RX4_50 rfl rfl ?_
        refine r_bp (8) dX4_readItem_38 ?_
        refine r_icmp_ge 56 dX4_readItem_40 (fun h40 => ?_) (fun h40 => ?_)
        · refine r_ic (0) dX4_readItem_56 ?_
          exact r_iret dX4_readItem_57 ⟨by unfold ps_item; rw [if_neg hn, if_neg h31, if_neg (by simp only [Int32.le_iff_toInt_le, Int32.lt_iff_toInt_lt, Int32.reduceToInt] at *; omega)], rfl, by unfold ps_item; rw [if_neg hn, if_neg h31, if_neg (by simp only [Int32.le_iff_toInt_le, Int32.lt_iff_toInt_lt, Int32.reduceToInt] at *; omega)]⟩
        · refine r_aloadn dX4_readItem_43 rfl (by decide) ?_
          refine r_aloadn dX4_readItem_44 rfl (by decide) ?_
          refine r_iloadn dX4_readItem_45 rfl ?_
          refine c_V2 (μz := mX4_readLetter) dX4_readItem_46 kl_RX4_55 mv_X4_readLetter rfl (ok_X4_readLetter (c := c) ht hc (by rw [hc] at h40; have tc : (nI c).toInt = (c : Int) := nI_toInt (by omega); simp only [Int32.le_iff_toInt_le, Int32.lt_iff_toInt_lt, Int32.reduceToInt] at h40; omega)) ?_
          refine r_if_eq 56 dX4_readItem_49 (fun h49 => ?_) (fun h49 => ?_)
          · refine r_ic (0) dX4_readItem_56 ?_
            exact r_iret dX4_readItem_57 ⟨by unfold ps_item; rw [if_neg hn, if_neg h31, if_pos (by simp only [Int32.le_iff_toInt_le, Int32.lt_iff_toInt_lt, Int32.reduceToInt] at *; omega)]; exact congrArg (fun x => some (Value.int x)) h49.symm, rfl, by unfold ps_item; rw [if_neg hn, if_neg h31, if_pos (by simp only [Int32.le_iff_toInt_le, Int32.lt_iff_toInt_lt, Int32.reduceToInt] at *; omega)]⟩
          · refine r_ic (1) dX4_readItem_52 ?_
            refine r_goto 57 dX4_readItem_53 ?_
            exact r_iret dX4_readItem_57 ⟨by unfold ps_item; rw [if_neg hn, if_neg h31, if_pos (by simp only [Int32.le_iff_toInt_le, Int32.lt_iff_toInt_lt, Int32.reduceToInt] at *; omega)]; exact congrArg (fun x => some (Value.int x)) ((ps_letter_01 _ _ _).resolve_left h49).symm, rfl, by unfold ps_item; rw [if_neg hn, if_neg h31, if_pos (by simp only [Int32.le_iff_toInt_le, Int32.lt_iff_toInt_lt, Int32.reduceToInt] at *; omega)]⟩
    · refine r_aloadn dX4_readItem_18 rfl (by decide) ?_
      refine r_aloadn dX4_readItem_19 rfl (by decide) ?_
      refine c_V1 (μz := mX4_readLaw) dX4_readItem_20 kl_RX4_43 mv_X4_readLaw rfl (ok_X4_readLaw ht) ?_
      exact r_iret dX4_readItem_23 ⟨by unfold ps_item; rw [if_pos (Or.inr (bi_1.mp h15))], rfl, by unfold ps_item; rw [if_pos (Or.inr (bi_1.mp h15))]⟩ rfl (k_nar01 (ps_law_01 M))
theorem lp_X4_readOnto {X : fp_X} {z : Nat} : ∀ (n i : Nat), i + n = 121 → ∀ (M : fp_M), (ps_inv M z) → fp_W X mX4_readOnto 11 [some (.ref 37), some (.ref 12), some (.int (nI i))] [] fp_sh M 0 0 (fun r s m => r = some (.int (ps_onto n i M).1) ∧ s = fp_sh ∧ m = (ps_onto n i M).2) := by
  intro n
  induction n with
  | zero =>
    intro i hi M  hinv
    have ti : (nI i).toInt = (i : Int) := nI_toInt (by omega)
    obtain ⟨ht, c, hc8, hc⟩ := hinv
    have ev : k_v (M 12 1) = c := by show (M 12 1).toNatClampNeg = c; rw [hc]; exact nI_clamp (by omega)
    have hj := ps_item_inv ht hc8 hc
    refine r_iloadn dX4_readOnto_11 rfl ?_
    refine r_bp (120) dX4_readOnto_12 ?_
    refine r_icmp_gt 58 dX4_readOnto_14 (fun h14 => ?_) (fun h14 => ?_)
    · refine r_ic (-1) dX4_readOnto_58 ?_
      refine r_aloadn dX4_readOnto_59 rfl (by decide) ?_
      refine r_getfi dX4_readOnto_60 kf_RX4_22 rfl rfl ?_
      refine r_isub dX4_readOnto_63 ?_
      exact r_iret dX4_readOnto_64 ⟨rfl, rfl, rfl⟩
    · exfalso; simp only [Int32.le_iff_toInt_le, Int32.lt_iff_toInt_lt, Int32.reduceToInt] at h14; omega
  | succ n ih =>
    intro i hi M  hinv
    have ti : (nI i).toInt = (i : Int) := nI_toInt (by omega)
    obtain ⟨ht, c, hc8, hc⟩ := hinv
    have ev : k_v (M 12 1) = c := by show (M 12 1).toNatClampNeg = c; rw [hc]; exact nI_clamp (by omega)
    have hj := ps_item_inv ht hc8 hc
    refine r_iloadn dX4_readOnto_11 rfl ?_
    refine r_bp (120) dX4_readOnto_12 ?_
    refine r_icmp_gt 58 dX4_readOnto_14 (fun h14 => ?_) (fun h14 => ?_)
    · exfalso; simp only [Int32.le_iff_toInt_le, Int32.lt_iff_toInt_lt, Int32.reduceToInt] at h14; omega
    · refine r_aloadn dX4_readOnto_17 rfl (by decide) ?_
      refine r_aloadn dX4_readOnto_18 rfl (by decide) ?_
      refine c_V1 (μz := mX4_readItem) dX4_readOnto_19 kl_RX4_31 mv_X4_readItem rfl (ok_X4_readItem ht hc hc8) ?_
      refine r_if_ne 28 dX4_readOnto_22 (fun h22 => ?_) (fun h22 => ?_)
      · refine r_aloadn dX4_readOnto_28 rfl (by decide) ?_
        refine r_getfi dX4_readOnto_29 kf_RX4_19 rfl rfl ?_
        refine r_if_ne 37 dX4_readOnto_32 (fun h32 => ?_) (fun h32 => ?_)
        · refine r_aloadn dX4_readOnto_37 rfl (by decide) ?_
          refine r_getfi dX4_readOnto_38 kf_RX4_19 rfl rfl ?_
          refine r_ic (3) dX4_readOnto_41 ?_
          refine r_icmp_eq 48 dX4_readOnto_42 (fun h42 => ?_) (fun h42 => ?_)
          · refine r_aloadn dX4_readOnto_48 rfl (by decide) ?_
            refine c_V0v (μz := mX4_step) dX4_readOnto_49 kl_RX4_28 mv_X4_step rfl (ok_X4_step hj.1) ?_
            refine r_iinc2 (1) dX4_readOnto_52 ?_
            refine r_goto 11 dX4_readOnto_55 ?_
            rw [nI_1]
            unfold ps_onto
            rw [ev, if_neg h22, if_neg h32, if_pos h42]
            exact ih (i + 1) (by omega) _ hj.step
          · refine r_goto 58 dX4_readOnto_45 ?_
            refine r_ic (-1) dX4_readOnto_58 ?_
            refine r_aloadn dX4_readOnto_59 rfl (by decide) ?_
            refine r_getfi dX4_readOnto_60 kf_RX4_22 rfl rfl ?_
            refine r_isub dX4_readOnto_63 ?_
            exact r_iret dX4_readOnto_64 ⟨by unfold ps_onto; rw [ev, if_neg h22, if_neg h32, if_neg h42], rfl, by unfold ps_onto; rw [ev, if_neg h22, if_neg h32, if_neg h42]⟩
        · refine r_iloadn dX4_readOnto_35 rfl ?_
          exact r_iret dX4_readOnto_36 ⟨by unfold ps_onto; rw [ev, if_neg h22, if_pos h32], rfl, by unfold ps_onto; rw [ev, if_neg h22, if_pos h32]⟩
      · refine r_goto 58 dX4_readOnto_25 ?_
        refine r_ic (-1) dX4_readOnto_58 ?_
        refine r_aloadn dX4_readOnto_59 rfl (by decide) ?_
        refine r_getfi dX4_readOnto_60 kf_RX4_22 rfl rfl ?_
        refine r_isub dX4_readOnto_63 ?_
        exact r_iret dX4_readOnto_64 ⟨by unfold ps_onto; rw [ev, if_pos h22], rfl, by unfold ps_onto; rw [ev, if_pos h22]⟩

theorem ok_X4_readOnto {X : fp_X} {M : fp_M} {z : Nat} (hz : z ≤ 120) (hz0 : M 37 0 = nI z) (hc : ∃ c : Nat, c ≤ 8 ∧ M 12 1 = nI c): fp_Ev X mX4_readOnto [.ref 37, .ref 12] fp_sh M (some (.int (ps_read M).1)) (ps_read M).2 := by
  obtain ⟨c, hc8, hc⟩ := hc
  refine fp_ok [some (.ref 37), some (.ref 12), none] ?_
  refine r_aloadn dX4_readOnto_0 rfl (by decide) ?_
  refine r_ic (0) dX4_readOnto_1 ?_
  refine r_putfi dX4_readOnto_2 kf_RX4_25 rfl rfl ?_
  refine r_aloadn dX4_readOnto_5 rfl (by decide) ?_
  refine c_V0v (μz := mX4_step) dX4_readOnto_6 kl_RX4_28 mv_X4_step rfl (ok_X4_stepB (b := 0) hz ((fp_wr_ne2 (by decide)).trans hz0) fp_wr_eq (Nat.zero_le _)) ?_
  refine r_ic (1) dX4_readOnto_9 ?_
  refine r_istore2 dX4_readOnto_10 ?_
  exact lp_X4_readOnto 120 1 (by omega) _ ⟨k_step_tp0 hz hz0, c, hc8, (k_step_o (by decide)).trans ((fp_wr_ne (by decide)).trans hc)⟩
def sp_text (M : fp_M) : Int32 × fp_M := ((ps_read (k_off M 12 1)).1, fp_wr (if (ps_read (k_off M 12 1)).1 < 0 then (ps_read (k_off M 12 1)).2 else k_off (ps_read (k_off M 12 1)).2 1 12) 37 0 0)
theorem k_off_37 {M : fp_M} {j : Nat} : k_off M 12 1 37 j = M 37 j := by
  unfold k_off
  rw [if_neg (by omega), if_neg (by omega), if_neg (by omega)]
theorem k_off_121 {M : fp_M} : k_off M 12 1 12 1 = M 1 1 := by
  unfold k_off
  rw [if_neg (by omega), if_pos ⟨rfl, by decide, by decide⟩]
theorem ok_X5_text {X : fp_X} {M : fp_M} {z : Nat} (hz : z ≤ 120) (hz0 : M 37 0 = nI z) (hc : ∃ c : Nat, c ≤ 8 ∧ M 1 1 = nI c): fp_Ev X mX5_text [.ref 0] fp_sh M (some (.int (sp_text M).1)) (sp_text M).2 := by
  refine fp_ok [some (.ref 0), none] ?_
  refine r_aloadn dX5_text_0 rfl (by decide) ?_
  refine r_getfr dX5_text_1 kf_RX5_16 rfl rfl ?_
  refine r_aloadn dX5_text_4 rfl (by decide) ?_
  refine r_getfr dX5_text_5 kf_RX5_10 rfl rfl ?_
  refine c_V1v (μz := mX2_become) dX5_text_8 kl_RX5_223 mv_X2_become rfl (ok_X2_become fp_of_12 fp_of_1 (by decide)) ?_
  refine r_aloadn dX5_text_11 rfl (by decide) ?_
  refine r_getfr dX5_text_12 kf_RX5_43 rfl rfl ?_
  refine r_aloadn dX5_text_15 rfl (by decide) ?_
  refine r_getfr dX5_text_16 kf_RX5_16 rfl rfl ?_
  refine c_V1 (μz := mX4_readOnto) dX5_text_19 kl_RX5_227 mv_X4_readOnto rfl (ok_X4_readOnto hz (k_off_37.trans hz0) (by rw [k_off_121]; exact hc)) ?_
  refine r_istore1 dX5_text_22 ?_
  refine r_iloadn dX5_text_23 rfl ?_
  refine r_if_lt 38 dX5_text_24 (fun h24 => ?_) (fun h24 => ?_)
  · refine r_aloadn dX5_text_38 rfl (by decide) ?_
    refine r_getfr dX5_text_39 kf_RX5_43 rfl rfl ?_
    refine r_ic (0) dX5_text_42 ?_
    refine r_putfi dX5_text_43 kf_RX5_217 rfl rfl ?_
    refine r_iloadn dX5_text_46 rfl ?_
    exact r_iret dX5_text_47 ⟨rfl, rfl, by unfold sp_text; rw [if_pos h24]⟩
  · refine r_aloadn dX5_text_27 rfl (by decide) ?_
    refine r_getfr dX5_text_28 kf_RX5_10 rfl rfl ?_
    refine r_aloadn dX5_text_31 rfl (by decide) ?_
    refine r_getfr dX5_text_32 kf_RX5_16 rfl rfl ?_
    refine c_V1v (μz := mX2_become) dX5_text_35 kl_RX5_223 mv_X2_become rfl (ok_X2_become fp_of_1 fp_of_12 (by decide)) ?_
    refine r_aloadn dX5_text_38 rfl (by decide) ?_
    refine r_getfr dX5_text_39 kf_RX5_43 rfl rfl ?_
    refine r_ic (0) dX5_text_42 ?_
    refine r_putfi dX5_text_43 kf_RX5_217 rfl rfl ?_
    refine r_iloadn dX5_text_46 rfl ?_
    exact r_iret dX5_text_47 ⟨rfl, rfl, by unfold sp_text; rw [if_neg h24]⟩
