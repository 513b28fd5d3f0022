/-! ===== FarPost's calls: slips, guesses, sheets as maps, draws ===== -/
/-- a weaker end -/
theorem fp_W_mono {X : fp_X} {μ : fp_Y} {pc : Nat} {ls : List (Option Value)} {st : List Value} {sh : List fp_C} {M : fp_M} {nc ns : Nat} {P Q : fp_Q} (h : ∀ r s m, P r s m → Q r s m) (k : fp_W X μ pc ls st sh M nc ns P) : fp_W X μ pc ls st sh M nc ns Q := by
  intro p l e s m args below meth c D cs cv base A Q' H locs lsA hF hH hL hN hret
  exact k p l e s m args below meth c D cs cv base A Q' H locs lsA hF hH hL hN (fun ins r pc' lsA' sh' M' H' locs' nc' ns' h1 h2 h3 h4 h5 => hret ins r pc' lsA' sh' M' H' locs' nc' ns' h1 h2 h3 (h _ _ _ h4) h5)
def k_tight (M : fp_M) (c : Nat) (set : Int32) (n i : Nat) : Option Nat := k_first (fun n => decide (k_draw M c set (9 - nI n) 34 0 = 0)) n i
theorem k_9s : ∀ i, i < 11 → (9 : Int32) - nI i + -1 = 9 - nI (i + 1) := by decide +kernel
theorem k_9n : ∀ i, i < 10 → ¬ (9 : Int32) - nI i < 0 := by decide +kernel
theorem lp_X5_tight {X : fp_X} {M : fp_M} {c : Nat} {set : Int32} (hw : k_wf M 1 c) : ∀ (n i : Nat), i + n = 10 → ∀ (N : fp_M), (k_ech M N) → fp_W X mX5_tight 8 [some (.ref 0), some (.int set), some (.int (9 - nI i))] [] fp_sh N 0 0 (fun r s m => r = some (.int (k_wv (k_tight M c set n i) (fun n => 9 - nI n) 3)) ∧ s = fp_sh ∧ k_ech (k_wb M (k_tight M c set n i) 3) m) := by
  intro n
  induction n with
  | zero =>
    intro i hi N  hinv
    have ti : (nI i).toInt = (i : Int) := nI_toInt (by omega)
    have hN := hinv
    have wN := hN.wf hw
    refine r_iloadn dX5_tight_8 rfl ?_
    refine r_if_lt 36 dX5_tight_9 (fun h9 => ?_) (fun h9 => ?_)
    · refine r_aloadn dX5_tight_36 rfl (by decide) ?_
      refine r_ic (3) dX5_tight_37 ?_
      refine c_V1 (μz := mX5_finding) dX5_tight_38 kl_RX5_73 mv_X5_finding rfl (ok_X5_finding (w := 3) rfl (by decide)) ?_
      exact r_iret dX5_tight_41 ⟨rfl, rfl, hN.fd⟩
    · exact absurd (by rw [show i = 10 by omega]; decide) h9
  | succ n ih =>
    intro i hi N  hinv
    have ti : (nI i).toInt = (i : Int) := nI_toInt (by omega)
    have hN := hinv
    have wN := hN.wf hw
    refine r_iloadn dX5_tight_8 rfl ?_
    refine r_if_lt 36 dX5_tight_9 (fun h9 => ?_) (fun h9 => ?_)
    · exact absurd h9 (k_9n i (by omega))
    · refine r_aloadn dX5_tight_12 rfl (by decide) ?_
      refine r_iloadn dX5_tight_13 rfl ?_
      refine r_iloadn dX5_tight_14 rfl ?_
      refine c_V2v (μz := mX5_drawChart) dX5_tight_15 kl_RX5_202 mv_X5_drawChart rfl (ok_X5_drawChart wN) ?_
      refine r_aloadn dX5_tight_18 rfl (by decide) ?_
      refine r_getfr dX5_tight_19 kf_RX5_29 rfl rfl ?_
      refine r_getfi dX5_tight_22 kf_RX5_205 rfl rfl ?_
      refine r_if_ne 30 dX5_tight_25 (fun h25 => ?_) (fun h25 => ?_)
      · refine r_iinc2 (-1) dX5_tight_30 ?_
        refine r_goto 8 dX5_tight_33 ?_
        rw [k_9s i (by omega)]
        unfold k_tight k_first
        rw [if_neg (by rw [decide_eq_true_eq]; exact fun q => h25 ((k_draw_R hN hw).2.1.symm.trans q))]
        exact ih (i + 1) (by omega) _ (hN.tr (k_draw_ech _ _ _ _))
      · refine r_iloadn dX5_tight_28 rfl ?_
        exact r_iret dX5_tight_29 ⟨by unfold k_tight k_first; rw [if_pos (decide_eq_true ((k_draw_R hN hw).2.1.trans h25))]; rfl, rfl, by unfold k_tight k_first; rw [if_pos (decide_eq_true ((k_draw_R hN hw).2.1.trans h25))]; exact hN.tr (k_draw_ech _ _ _ _)⟩

theorem ok_X5_tight {X : fp_X} {M : fp_M} {c : Nat} (hw : k_wf M 1 c) : fp_Ok X mX5_tight [.ref 0] fp_sh M (fun r s m => r = some (.int (k_wv (k_tight M c (k_cn M c) 10 0) (fun n => 9 - nI n) 3)) ∧ s = fp_sh ∧ k_ech (k_wb M (k_tight M c (k_cn M c) 10 0) 3) m) := by
  refine fp_ok [some (.ref 0), none, none] ?_
  refine r_aloadn dX5_tight_0 rfl (by decide) ?_
  refine c_V0 (μz := mX5_counting) dX5_tight_1 kl_RX5_126 mv_X5_counting rfl (ok_X5_counting hw) ?_
  refine r_istore1 dX5_tight_4 ?_
  refine r_bp (9) dX5_tight_5 ?_
  refine r_istore2 dX5_tight_7 ?_
  exact lp_X5_tight hw 10 0 (by omega) M (k_ech.rf M)
/-- beside the chart and the guess all stays -/
def k_eg (M M' : fp_M) : Prop := ∀ k j, ¬ k = 34 → ¬ k = 35 → ¬ k = 36 → M' k j = M k j
theorem k_ech.eg {M M' : fp_M} (h : k_ech M M') : k_eg M M' := fun k j a b _ => h k j a b
theorem k_eg.tr {A B C : fp_M} (h1 : k_eg A B) (h2 : k_eg B C) : k_eg A C := fun k j a b d => (h2 k j a b d).trans (h1 k j a b d)
theorem k_eg.rf (M : fp_M) : k_eg M M := fun _ _ _ _ _ => rfl
theorem k_eg.wr6 {M : fp_M} {j : Nat} {v : Int32} : k_eg M (fp_wr M 36 j v) := fun k' j' _ _ d => fp_wr_ne d
theorem k_eg.fd {M N : fp_M} {w : Nat} (h : k_eg M N) : k_eg (k_fd M w) (k_fd N w) := by
  intro k j a b d
  show (if k = 40 ∧ j = w then N 40 w + 1 else N k j) = (if k = 40 ∧ j = w then M 40 w + 1 else M k j)
  rw [h 40 w (by decide) (by decide) (by decide), h k j a b d]
theorem k_let_eg (M : fp_M) (K : Nat) : k_eg M (k_let M 36 K) := fun k j _ _ d => by
  unfold k_let
  rw [if_neg (fun q => d q.1)]
theorem k_eg.e34 {M M' : fp_M} (h : k_eg M M') : k_e34 M M' := fun k j hk => h k j (by omega) (by omega) (by omega)
/-- the guess begins as letter n is; the chart of the others -/
def k_gs (M : fp_M) (c n : Nat) : fp_M := k_draw (k_let M 36 (3 + n)) c (k_wo (k_cn M c) n) (M 1 2)
theorem k_gs_eg (M : fp_M) (c n : Nat) : k_eg M (k_gs M c n) := (k_let_eg M (3 + n)).tr (k_draw_ech _ _ _ _).eg
def k_gf (N : fp_M) : Int32 := if N 34 0 = 0 ∨ ¬ k_cnt N 36 (N 1 3) (N 1 4) then N 34 0 else bi (k_least (N 36 0) (N 36 3) (N 1 2) ≤ k_T N (k_v (N 36 1)) (k_v (N 36 2)) ∧ -(k_T N (k_v (N 36 2)) (k_v (N 36 1))) ≤ k_most (N 36 0) (N 36 3) (N 1 2))
theorem ok_X5_startGuess {X : fp_X} {M : fp_M} {c n : Nat} (hw : k_wf M 1 c) (hn : n < c): fp_Ev X mX5_startGuess [.ref 0, .int (nI n)] fp_sh M none (k_gs M c n) := by
  have h8 := hw.1
  have w2 := (k_let_eg M (3 + n)).e34.wf fp_of_1 hw
  have e1 : 1 + 2 + n = 3 + n := by omega
  refine fp_ok [some (.ref 0), some (.int (nI n))] ?_
  refine r_aloadn dX5_startGuess_0 rfl (by decide) ?_
  refine r_getfr dX5_startGuess_1 kf_RX5_36 rfl rfl ?_
  refine r_aloadn dX5_startGuess_4 rfl (by decide) ?_
  refine r_getfr dX5_startGuess_5 kf_RX5_10 rfl rfl ?_
  refine r_getfr dX5_startGuess_8 kf_RX5_88 rfl rfl ?_
  refine r_iloadn dX5_startGuess_11 rfl ?_
  refine r_aaldL (j := n) dX5_startGuess_12 (sh_r fp_of_1) rfl (sh_rr (by omega)) (by omega) (Nat.le_of_ble_eq_true rfl) ?_
  rw [e1]
  refine c_V1v (μz := mX1_become) dX5_startGuess_13 kl_RX5_294 mv_X1_become rfl (ok_X1_become sh_g (by rw [← e1]; exact sh_l fp_of_1 (by omega)) (by omega)) ?_
  refine r_aloadn dX5_startGuess_16 rfl (by decide) ?_
  refine r_iloadn dX5_startGuess_17 rfl ?_
  refine r_aloadn dX5_startGuess_18 rfl (by decide) ?_
  refine c_V0 (μz := mX5_counting) dX5_startGuess_19 kl_RX5_126 mv_X5_counting rfl (ok_X5_counting w2) ?_
  rw [show k_cn (k_let M 36 (3 + n)) c = k_cn M c from by show nI (k_con (k_let M 36 (3 + n)) 1 c (k_let M 36 (3 + n) 1 4)) = nI (k_con M 1 c (M 1 4)); rw [show k_let M 36 (3 + n) 1 4 = M 1 4 from k_let_eg M (3 + n) 1 4 (by decide) (by decide) (by decide), (k_let_eg M (3 + n)).e34.con fp_of_1 hw.1]]
  refine c_S2 (μz := mX5_without) dX5_startGuess_22 kl_RX5_182 ms_X5_without ok_X5_without ?_
  refine r_aloadn dX5_startGuess_25 rfl (by decide) ?_
  refine r_getfr dX5_startGuess_26 kf_RX5_10 rfl rfl ?_
  refine r_getfi dX5_startGuess_29 kf_RX5_92 rfl rfl ?_
  rw [show k_let M 36 (3 + n) 1 2 = M 1 2 from k_let_eg M (3 + n) 1 2 (by decide) (by decide) (by decide)]
  refine c_V2v (μz := mX5_drawChart) dX5_startGuess_32 kl_RX5_202 mv_X5_drawChart rfl (ok_X5_drawChart w2) ?_
  exact r_vret dX5_startGuess_35 ⟨rfl, rfl, rfl⟩
theorem ok_X5_guessFits {X : fp_X} {M : fp_M} {f t : Nat} (hp : k_p01 M) (hf : M 36 1 = nI f) (ht : M 36 2 = nI t) (hf8 : f < 8) (ht8 : t < 8): fp_Ev X mX5_guessFits [.ref 0] fp_sh M (some (.int (k_gf M))) M := by
  refine fp_ok [some (.ref 0), none] ?_
  refine r_aloadn dX5_guessFits_0 rfl (by decide) ?_
  refine r_getfr dX5_guessFits_1 kf_RX5_29 rfl rfl ?_
  refine r_getfi dX5_guessFits_4 kf_RX5_205 rfl rfl ?_
  refine r_if_eq 31 dX5_guessFits_7 (fun h7 => ?_) (fun h7 => ?_)
  · refine r_aloadn dX5_guessFits_31 rfl (by decide) ?_
    refine r_getfr dX5_guessFits_32 kf_RX5_29 rfl rfl ?_
    refine r_getfi dX5_guessFits_35 kf_RX5_205 rfl rfl ?_
    exact r_iret dX5_guessFits_38 ⟨by unfold k_gf; rw [if_pos (Or.inl h7)], rfl, rfl⟩ rfl (k_nar01 hp)
  · refine r_aloadn dX5_guessFits_10 rfl (by decide) ?_
    refine r_getfr dX5_guessFits_11 kf_RX5_10 rfl rfl ?_
    refine r_aloadn dX5_guessFits_14 rfl (by decide) ?_
    refine r_getfr dX5_guessFits_15 kf_RX5_36 rfl rfl ?_
    refine r_aloadn dX5_guessFits_18 rfl (by decide) ?_
    refine r_getfr dX5_guessFits_19 kf_RX5_10 rfl rfl ?_
    refine r_getfi dX5_guessFits_22 kf_RX5_107 rfl rfl ?_
    refine c_V2 (μz := mX2_counts) dX5_guessFits_25 kl_RX5_110 mv_X2_counts rfl (ok_X2_counts fp_of_1 sh_g) ?_
    refine r_if_ne 39 dX5_guessFits_28 (fun h28 => ?_) (fun h28 => ?_)
    · refine r_aloadn dX5_guessFits_39 rfl (by decide) ?_
      refine r_getfr dX5_guessFits_40 kf_RX5_36 rfl rfl ?_
      refine r_aloadn dX5_guessFits_43 rfl (by decide) ?_
      refine r_getfr dX5_guessFits_44 kf_RX5_10 rfl rfl ?_
      refine r_getfi dX5_guessFits_47 kf_RX5_92 rfl rfl ?_
      refine c_V1 (μz := mX1_least) dX5_guessFits_50 kl_RX5_95 mv_X1_least rfl (ok_X1_least sh_g) ?_
      refine r_istore1 dX5_guessFits_53 ?_
      refine r_aloadn dX5_guessFits_54 rfl (by decide) ?_
      refine r_getfr dX5_guessFits_55 kf_RX5_29 rfl rfl ?_
      refine r_aloadn dX5_guessFits_58 rfl (by decide) ?_
      refine r_getfr dX5_guessFits_59 kf_RX5_36 rfl rfl ?_
      refine r_getfi dX5_guessFits_62 kf_RX5_288 rfl rfl ?_
      refine r_aloadn dX5_guessFits_65 rfl (by decide) ?_
      refine r_getfr dX5_guessFits_66 kf_RX5_36 rfl rfl ?_
      refine r_getfi dX5_guessFits_69 kf_RX5_291 rfl rfl ?_
      refine r_iloadn dX5_guessFits_72 rfl ?_
      refine r_aloadn dX5_guessFits_73 rfl (by decide) ?_
      refine r_getfr dX5_guessFits_74 kf_RX5_36 rfl rfl ?_
      refine r_aloadn dX5_guessFits_77 rfl (by decide) ?_
      refine r_getfr dX5_guessFits_78 kf_RX5_10 rfl rfl ?_
      refine r_getfi dX5_guessFits_81 kf_RX5_92 rfl rfl ?_
      refine c_V1 (μz := mX1_most) dX5_guessFits_84 kl_RX5_98 mv_X1_most rfl (ok_X1_most sh_g) ?_
      have ef : k_v (M 36 1) = f := by show (M 36 1).toNatClampNeg = f; rw [hf]; exact nI_clamp (by omega)
      have et : k_v (M 36 2) = t := by show (M 36 2).toNatClampNeg = t; rw [ht]; exact nI_clamp (by omega)
      rw [hf, ht]
      refine c_V4 (μz := mX0_allows) dX5_guessFits_87 kl_RX5_158 mv_X0_allows rfl (ok_X0_allows hf8 ht8) ?_
      refine r_iret dX5_guessFits_90 ⟨?_, rfl, rfl⟩ rfl nar_bi
      unfold k_gf
      rw [if_neg (fun q => q.elim h7 (fun q => q (bi_1.mp h28))), ef, et]
    · refine r_aloadn dX5_guessFits_31 rfl (by decide) ?_
      refine r_getfr dX5_guessFits_32 kf_RX5_29 rfl rfl ?_
      refine r_getfi dX5_guessFits_35 kf_RX5_205 rfl rfl ?_
      exact r_iret dX5_guessFits_38 ⟨by unfold k_gf; rw [if_pos (Or.inr (bi_0.mp h28))], rfl, rfl⟩ rfl (k_nar01 hp)
theorem fp_wr_wr (M : fp_M) (k j : Nat) (a b : Int32) : fp_wr (fp_wr M k j a) k j b = fp_wr M k j b := by
  funext k' j'
  unfold fp_wr
  by_cases h : k' = k ∧ j' = j
  · rw [if_pos h, if_pos h]
  · rw [if_neg h, if_neg h, if_neg h]
def k_kinds (G : fp_M) (n : Nat) : Nat := k_bn (fun i => decide (¬ k_gf (fp_wr G 36 0 (nI i)) = 0)) n
def k_dayn (G : fp_M) (i : Nat) (z : Int32) : Int32 := if k_gf (fp_wr G 36 3 (nI i - 99)) = 0 then z else z + 1
def k_dayf (G : fp_M) (n i : Nat) : Option Nat := k_first (fun i => decide (¬ k_gf (fp_wr G 36 3 (nI i - 99)) = 0)) n i
theorem k_99s : ∀ i, i < 200 → nI i - 99 + 1 = nI (i + 1) - 99 := by decide +kernel
theorem k_99n : ∀ i, i < 199 → ¬ (99 : Int32) < nI i - 99 := by decide +kernel
theorem k_gp {G : fp_M} {j : Nat} {v : Int32} (h : k_p01 G) : k_p01 (fp_wr G 36 j v) := by
  unfold k_p01
  rw [fp_wr_ne (by decide)]
  exact h
theorem k_gr {G : fp_M} {j i : Nat} {v : Int32} (h : ¬ i = j) : fp_wr G 36 j v 36 i = G 36 i := by
  show (if 36 = 36 ∧ i = j then v else G 36 i) = G 36 i
  rw [if_neg (fun q => h q.2)]
theorem lp_X5_kinds {X : fp_X} {G : fp_M} {f t : Nat} {v1 : Int32} (hp : k_p01 G) (hf : G 36 1 = nI f) (ht : G 36 2 = nI t) (hf8 : f < 8) (ht8 : t < 8) : ∀ (n i : Nat), i + n = 7 → ∀ (N : fp_M), (k_eg G N ∧ ∀ v, fp_wr N 36 0 v = fp_wr G 36 0 v) → fp_W X mX5_kinds 26 [some (.ref 0), some (.int v1), some (.int (nI (k_kinds G i))), some (.int (nI i))] [] fp_sh N 0 0 (fun r s m => r = some (.int (nI (k_kinds G 7))) ∧ s = fp_sh ∧ k_eg G m) := by
  intro n
  induction n with
  | zero =>
    intro i hi N  hinv
    have ti : (nI i).toInt = (i : Int) := nI_toInt (by omega)
    obtain ⟨hE, hV⟩ := hinv
    refine r_iloadn dX5_kinds_26 rfl ?_
    refine r_bp (7) dX5_kinds_27 ?_
    refine r_icmp_ge 59 dX5_kinds_29 (fun h29 => ?_) (fun h29 => ?_)
    · refine r_iloadn dX5_kinds_59 rfl ?_
      exact r_iret dX5_kinds_60 ⟨by rw [show i = 7 by omega], rfl, hE⟩
    · exfalso; simp only [Int32.le_iff_toInt_le, Int32.lt_iff_toInt_lt, Int32.reduceToInt] at h29; omega
  | succ n ih =>
    intro i hi N  hinv
    have ti : (nI i).toInt = (i : Int) := nI_toInt (by omega)
    obtain ⟨hE, hV⟩ := hinv
    refine r_iloadn dX5_kinds_26 rfl ?_
    refine r_bp (7) dX5_kinds_27 ?_
    refine r_icmp_ge 59 dX5_kinds_29 (fun h29 => ?_) (fun h29 => ?_)
    · exfalso; simp only [Int32.le_iff_toInt_le, Int32.lt_iff_toInt_lt, Int32.reduceToInt] at h29; omega
    · refine r_aloadn dX5_kinds_32 rfl (by decide) ?_
      refine r_getfr dX5_kinds_33 kf_RX5_36 rfl rfl ?_
      refine r_iloadn dX5_kinds_36 rfl ?_
      refine r_putfi dX5_kinds_37 kf_RX5_192 rfl rfl ?_
      rw [hV]
      refine r_aloadn dX5_kinds_40 rfl (by decide) ?_
      refine c_V0 (μz := mX5_guessFits) dX5_kinds_41 kl_RX5_195 mv_X5_guessFits rfl (ok_X5_guessFits (f := f) (t := t) (k_gp hp) ((k_gr (by decide)).trans hf) ((k_gr (by decide)).trans ht) hf8 ht8) ?_
      refine r_if_eq 53 dX5_kinds_44 (fun h44 => ?_) (fun h44 => ?_)
      · refine r_iinc3 (1) dX5_kinds_53 ?_
        refine r_goto 26 dX5_kinds_56 ?_
        rw [nI_1]
        have e := ih (i + 1) (by omega) _ ⟨k_eg.wr6 (j := 0) (v := nI i), fun v => fp_wr_wr G 36 0 (nI i) v⟩
        rw [show k_kinds G (i + 1) = k_kinds G i from k_bn_no (decide_eq_false (fun q => q h44))] at e
        exact e
      · refine r_iloadn dX5_kinds_47 rfl ?_
        refine r_ic (1) dX5_kinds_48 ?_
        refine r_iloadn dX5_kinds_49 rfl ?_
        refine r_ishl dX5_kinds_50 ?_
        refine r_ior dX5_kinds_51 ?_
        refine r_istore2 dX5_kinds_52 ?_
        refine r_iinc3 (1) dX5_kinds_53 ?_
        refine r_goto 26 dX5_kinds_56 ?_
        rw [nI_1]
        rw [show nI (k_kinds G i) ||| _ = nI (k_kinds G (i + 1)) from k_bn_or (by omega) (decide_eq_true h44)]
        exact ih (i + 1) (by omega) _ ⟨k_eg.wr6, fun v => fp_wr_wr G 36 0 _ v⟩

theorem lp_X5_days {X : fp_X} {G : fp_M} {f t : Nat} {v1 : Int32} (hp : k_p01 G) (hf : G 36 1 = nI f) (ht : G 36 2 = nI t) (hf8 : f < 8) (ht8 : t < 8) : ∀ (n i : Nat), i + n = 199 → ∀ (N : fp_M) (z : Int32), (k_eg G N ∧ ∀ v, fp_wr N 36 3 v = fp_wr G 36 3 v) → fp_W X mX5_days 27 [some (.ref 0), some (.int v1), some (.int z), some (.int (nI i - 99))] [] fp_sh N 0 0 (fun r s m => r = some (.int (k_it (k_dayn G) n i z)) ∧ s = fp_sh ∧ k_eg G m) := by
  intro n
  induction n with
  | zero =>
    intro i hi N  z  hinv
    have ti : (nI i).toInt = (i : Int) := nI_toInt (by omega)
    obtain ⟨hE, hV⟩ := hinv
    refine r_iloadn dX5_days_27 rfl ?_
    refine r_bp (99) dX5_days_28 ?_
    refine r_icmp_gt 57 dX5_days_30 (fun h30 => ?_) (fun h30 => ?_)
    · refine r_iloadn dX5_days_57 rfl ?_
      exact r_iret dX5_days_58 ⟨rfl, rfl, hE⟩
    · exact absurd (by rw [show i = 199 by omega]; decide) h30
  | succ n ih =>
    intro i hi N  z  hinv
    have ti : (nI i).toInt = (i : Int) := nI_toInt (by omega)
    obtain ⟨hE, hV⟩ := hinv
    refine r_iloadn dX5_days_27 rfl ?_
    refine r_bp (99) dX5_days_28 ?_
    refine r_icmp_gt 57 dX5_days_30 (fun h30 => ?_) (fun h30 => ?_)
    · exact absurd h30 (k_99n i (by omega))
    · refine r_aloadn dX5_days_33 rfl (by decide) ?_
      refine r_getfr dX5_days_34 kf_RX5_36 rfl rfl ?_
      refine r_iloadn dX5_days_37 rfl ?_
      refine r_putfi dX5_days_38 kf_RX5_199 rfl rfl ?_
      rw [hV]
      refine r_aloadn dX5_days_41 rfl (by decide) ?_
      refine c_V0 (μz := mX5_guessFits) dX5_days_42 kl_RX5_195 mv_X5_guessFits rfl (ok_X5_guessFits (f := f) (t := t) (k_gp hp) ((k_gr (by decide)).trans hf) ((k_gr (by decide)).trans ht) hf8 ht8) ?_
      refine r_if_eq 51 dX5_days_45 (fun h45 => ?_) (fun h45 => ?_)
      · refine r_iinc3 (1) dX5_days_51 ?_
        refine r_goto 27 dX5_days_54 ?_
        rw [k_99s i (by omega), k_it_s]
        rw [show k_dayn G i z = z from by unfold k_dayn; rw [if_pos h45]]
        exact ih (i + 1) (by omega) _ _ ⟨k_eg.wr6, fun v => fp_wr_wr G 36 3 _ v⟩
      · refine r_iinc2 (1) dX5_days_48 ?_
        refine r_iinc3 (1) dX5_days_51 ?_
        refine r_goto 27 dX5_days_54 ?_
        rw [k_99s i (by omega), k_it_s]
        rw [show k_dayn G i z = z + 1 from by unfold k_dayn; rw [if_neg h45]]
        exact ih (i + 1) (by omega) _ _ ⟨k_eg.wr6, fun v => fp_wr_wr G 36 3 _ v⟩

theorem lp_X5_fewest {X : fp_X} {G : fp_M} {f t : Nat} {v1 : Int32} (hp : k_p01 G) (hf : G 36 1 = nI f) (ht : G 36 2 = nI t) (hf8 : f < 8) (ht8 : t < 8) : ∀ (n i : Nat), i + n = 199 → ∀ (N : fp_M), (k_eg G N ∧ ∀ v, fp_wr N 36 3 v = fp_wr G 36 3 v) → fp_W X mX5_fewest 25 [some (.ref 0), some (.int v1), some (.int (nI i - 99))] [] fp_sh N 0 0 (fun r s m => r = some (.int (k_wv (k_dayf G n i) (fun i => nI i - 99) 3)) ∧ s = fp_sh ∧ k_eg (k_wb G (k_dayf G n i) 3) m) := by
  intro n
  induction n with
  | zero =>
    intro i hi N  hinv
    have ti : (nI i).toInt = (i : Int) := nI_toInt (by omega)
    obtain ⟨hE, hV⟩ := hinv
    refine r_iloadn dX5_fewest_25 rfl ?_
    refine r_bp (99) dX5_fewest_26 ?_
    refine r_icmp_gt 54 dX5_fewest_28 (fun h28 => ?_) (fun h28 => ?_)
    · refine r_aloadn dX5_fewest_54 rfl (by decide) ?_
      refine r_ic (3) dX5_fewest_55 ?_
      refine c_V1 (μz := mX5_finding) dX5_fewest_56 kl_RX5_73 mv_X5_finding rfl (ok_X5_finding (w := 3) rfl (by decide)) ?_
      exact r_iret dX5_fewest_59 ⟨rfl, rfl, hE.fd⟩
    · exact absurd (by rw [show i = 199 by omega]; decide) h28
  | succ n ih =>
    intro i hi N  hinv
    have ti : (nI i).toInt = (i : Int) := nI_toInt (by omega)
    obtain ⟨hE, hV⟩ := hinv
    refine r_iloadn dX5_fewest_25 rfl ?_
    refine r_bp (99) dX5_fewest_26 ?_
    refine r_icmp_gt 54 dX5_fewest_28 (fun h28 => ?_) (fun h28 => ?_)
    · exact absurd h28 (k_99n i (by omega))
    · refine r_aloadn dX5_fewest_31 rfl (by decide) ?_
      refine r_getfr dX5_fewest_32 kf_RX5_36 rfl rfl ?_
      refine r_iloadn dX5_fewest_35 rfl ?_
      refine r_putfi dX5_fewest_36 kf_RX5_199 rfl rfl ?_
      rw [hV]
      refine r_aloadn dX5_fewest_39 rfl (by decide) ?_
      refine c_V0 (μz := mX5_guessFits) dX5_fewest_40 kl_RX5_195 mv_X5_guessFits rfl (ok_X5_guessFits (f := f) (t := t) (k_gp hp) ((k_gr (by decide)).trans hf) ((k_gr (by decide)).trans ht) hf8 ht8) ?_
      refine r_if_eq 48 dX5_fewest_43 (fun h43 => ?_) (fun h43 => ?_)
      · refine r_iinc2 (1) dX5_fewest_48 ?_
        refine r_goto 25 dX5_fewest_51 ?_
        rw [k_99s i (by omega)]
        unfold k_dayf k_first
        rw [if_neg (by rw [decide_eq_true_eq]; exact fun q => q h43)]
        exact ih (i + 1) (by omega) _ ⟨k_eg.wr6, fun v => fp_wr_wr G 36 3 _ v⟩
      · refine r_iloadn dX5_fewest_46 rfl ?_
        exact r_iret dX5_fewest_47 ⟨by unfold k_dayf k_first; rw [if_pos (decide_eq_true h43)]; rfl, rfl, by unfold k_dayf k_first; rw [if_pos (decide_eq_true h43)]; exact k_eg.wr6⟩

def sp_kinds (M : fp_M) (c : Nat) (l : Int32) : Int32 × fp_M := if v_let M l then (nI (k_kinds (k_gs M c (k_v l)) 7), M) else (k_lo 0, k_fd M 0)
def sp_days (M : fp_M) (c : Nat) (l : Int32) : Int32 × fp_M := if v_let M l then (k_it (k_dayn (k_gs M c (k_v l))) 199 0 0, M) else (k_lo 0, k_fd M 0)
def sp_fewest (M : fp_M) (c : Nat) (l : Int32) : Int32 × fp_M := if v_let M l then (k_wv (k_dayf (k_gs M c (k_v l)) 199 0) (fun i => nI i - 99) 3, k_wb M (k_dayf (k_gs M c (k_v l)) 199 0) 3) else (k_lo 0, k_fd M 0)
theorem k_gs_p (M : fp_M) (c n : Nat) : k_p01 (k_gs M c n) := k_draw_p01 _ _ _ _
theorem k_gs_36 (M : fp_M) (c n j : Nat) (hj : j < 6) : k_gs M c n 36 j = M (3 + n) j := by
  unfold k_gs
  rw [k_draw_ech (k_let M 36 (3 + n)) c _ _ 36 j (by decide) (by decide)]
  unfold k_let
  rw [if_pos ⟨rfl, hj⟩]
theorem k_wb_eg {M N : fp_M} (h : k_eg M N) (o : Option Nat) (w : Nat) : k_eg (k_wb M o w) (k_wb N o w) := by
  cases o
  · exact h.fd
  · exact h
theorem ok_X5_kinds {X : fp_X} {M : fp_M} {c : Nat} {l : Int32} (hw : k_wf M 1 c) : fp_Ok X mX5_kinds [.ref 0, .int l] fp_sh M (fun r s m => r = some (.int (sp_kinds M c l).1) ∧ s = fp_sh ∧ k_eg (sp_kinds M c l).2 m) := by
  refine fp_ok [some (.ref 0), some (.int l), none, none] ?_
  refine r_aloadn dX5_kinds_0 rfl (by decide) ?_
  refine r_getfr dX5_kinds_1 kf_RX5_10 rfl rfl ?_
  refine r_iloadn dX5_kinds_4 rfl ?_
  refine c_V1 (μz := mX2_has) dX5_kinds_5 kl_RX5_85 mv_X2_has rfl (ok_X2_has fp_of_1) ?_
  refine r_if_ne 17 dX5_kinds_8 (fun h8 => ?_) (fun h8 => ?_)
  · obtain ⟨n, hn, rfl⟩ := k_idx hw (bi_1.mp h8)
    have hc8 := hw.1
    have en : k_v (nI n) = n := nI_clamp (by omega)
    obtain ⟨f, t, hf8, ht8, hf, ht, -⟩ := hw.2.2 n hn
    have ef : k_gs M c n 36 1 = nI f := (k_gs_36 M c n 1 (by decide)).trans (by rw [show 3 + n = 1 + 2 + n by omega]; exact hf)
    have et : k_gs M c n 36 2 = nI t := (k_gs_36 M c n 2 (by decide)).trans (by rw [show 3 + n = 1 + 2 + n by omega]; exact ht)
    refine r_aloadn dX5_kinds_17 rfl (by decide) ?_
    refine r_iloadn dX5_kinds_18 rfl ?_
    refine c_V1v (μz := mX5_startGuess) dX5_kinds_19 kl_RX5_188 mv_X5_startGuess rfl (ok_X5_startGuess hw hn) ?_
    refine r_ic (0) dX5_kinds_22 ?_
    refine r_istore2 dX5_kinds_23 ?_
    refine r_ic (0) dX5_kinds_24 ?_
    refine r_istore3 dX5_kinds_25 ?_
    have e := lp_X5_kinds (X := X) (v1 := nI n) (k_gs_p M c n) ef et hf8 ht8 7 0 (by omega) _ ⟨k_eg.rf _, fun _ => rfl⟩
    unfold sp_kinds
    rw [if_pos (bi_1.mp h8), en]
    exact fp_W_mono (fun r s m h => ⟨h.1, h.2.1, by have h3 := h.2.2; exact (k_gs_eg M c n).tr h3⟩) e
  · refine r_aloadn dX5_kinds_11 rfl (by decide) ?_
    refine r_ic (0) dX5_kinds_12 ?_
    refine c_V1 (μz := mX5_finding) dX5_kinds_13 kl_RX5_73 mv_X5_finding rfl (ok_X5_finding (w := 0) rfl (by decide)) ?_
    exact r_iret dX5_kinds_16 ⟨by unfold sp_kinds; rw [if_neg (bi_0.mp h8)], rfl, by unfold sp_kinds; rw [if_neg (bi_0.mp h8)]; exact k_eg.rf _⟩
theorem ok_X5_days {X : fp_X} {M : fp_M} {c : Nat} {l : Int32} (hw : k_wf M 1 c) : fp_Ok X mX5_days [.ref 0, .int l] fp_sh M (fun r s m => r = some (.int (sp_days M c l).1) ∧ s = fp_sh ∧ k_eg (sp_days M c l).2 m) := by
  refine fp_ok [some (.ref 0), some (.int l), none, none] ?_
  refine r_aloadn dX5_days_0 rfl (by decide) ?_
  refine r_getfr dX5_days_1 kf_RX5_10 rfl rfl ?_
  refine r_iloadn dX5_days_4 rfl ?_
  refine c_V1 (μz := mX2_has) dX5_days_5 kl_RX5_85 mv_X2_has rfl (ok_X2_has fp_of_1) ?_
  refine r_if_ne 17 dX5_days_8 (fun h8 => ?_) (fun h8 => ?_)
  · obtain ⟨n, hn, rfl⟩ := k_idx hw (bi_1.mp h8)
    have hc8 := hw.1
    have en : k_v (nI n) = n := nI_clamp (by omega)
    obtain ⟨f, t, hf8, ht8, hf, ht, -⟩ := hw.2.2 n hn
    have ef : k_gs M c n 36 1 = nI f := (k_gs_36 M c n 1 (by decide)).trans (by rw [show 3 + n = 1 + 2 + n by omega]; exact hf)
    have et : k_gs M c n 36 2 = nI t := (k_gs_36 M c n 2 (by decide)).trans (by rw [show 3 + n = 1 + 2 + n by omega]; exact ht)
    refine r_aloadn dX5_days_17 rfl (by decide) ?_
    refine r_iloadn dX5_days_18 rfl ?_
    refine c_V1v (μz := mX5_startGuess) dX5_days_19 kl_RX5_188 mv_X5_startGuess rfl (ok_X5_startGuess hw hn) ?_
    refine r_ic (0) dX5_days_22 ?_
    refine r_istore2 dX5_days_23 ?_
    refine r_bp (-99) dX5_days_24 ?_
    refine r_istore3 dX5_days_26 ?_
    have e := lp_X5_days (X := X) (v1 := nI n) (k_gs_p M c n) ef et hf8 ht8 199 0 (by omega) _ 0 ⟨k_eg.rf _, fun _ => rfl⟩
    unfold sp_days
    rw [if_pos (bi_1.mp h8), en]
    exact fp_W_mono (fun r s m h => ⟨h.1, h.2.1, by have h3 := h.2.2; exact (k_gs_eg M c n).tr h3⟩) e
  · refine r_aloadn dX5_days_11 rfl (by decide) ?_
    refine r_ic (0) dX5_days_12 ?_
    refine c_V1 (μz := mX5_finding) dX5_days_13 kl_RX5_73 mv_X5_finding rfl (ok_X5_finding (w := 0) rfl (by decide)) ?_
    exact r_iret dX5_days_16 ⟨by unfold sp_days; rw [if_neg (bi_0.mp h8)], rfl, by unfold sp_days; rw [if_neg (bi_0.mp h8)]; exact k_eg.rf _⟩
theorem ok_X5_fewest {X : fp_X} {M : fp_M} {c : Nat} {l : Int32} (hw : k_wf M 1 c) : fp_Ok X mX5_fewest [.ref 0, .int l] fp_sh M (fun r s m => r = some (.int (sp_fewest M c l).1) ∧ s = fp_sh ∧ k_eg (sp_fewest M c l).2 m) := by
  refine fp_ok [some (.ref 0), some (.int l), none] ?_
  refine r_aloadn dX5_fewest_0 rfl (by decide) ?_
  refine r_getfr dX5_fewest_1 kf_RX5_10 rfl rfl ?_
  refine r_iloadn dX5_fewest_4 rfl ?_
  refine c_V1 (μz := mX2_has) dX5_fewest_5 kl_RX5_85 mv_X2_has rfl (ok_X2_has fp_of_1) ?_
  refine r_if_ne 17 dX5_fewest_8 (fun h8 => ?_) (fun h8 => ?_)
  · obtain ⟨n, hn, rfl⟩ := k_idx hw (bi_1.mp h8)
    have hc8 := hw.1
    have en : k_v (nI n) = n := nI_clamp (by omega)
    obtain ⟨f, t, hf8, ht8, hf, ht, -⟩ := hw.2.2 n hn
    have ef : k_gs M c n 36 1 = nI f := (k_gs_36 M c n 1 (by decide)).trans (by rw [show 3 + n = 1 + 2 + n by omega]; exact hf)
    have et : k_gs M c n 36 2 = nI t := (k_gs_36 M c n 2 (by decide)).trans (by rw [show 3 + n = 1 + 2 + n by omega]; exact ht)
    refine r_aloadn dX5_fewest_17 rfl (by decide) ?_
    refine r_iloadn dX5_fewest_18 rfl ?_
    refine c_V1v (μz := mX5_startGuess) dX5_fewest_19 kl_RX5_188 mv_X5_startGuess rfl (ok_X5_startGuess hw hn) ?_
    refine r_bp (-99) dX5_fewest_22 ?_
    refine r_istore2 dX5_fewest_24 ?_
    have e := lp_X5_fewest (X := X) (v1 := nI n) (k_gs_p M c n) ef et hf8 ht8 199 0 (by omega) _ ⟨k_eg.rf _, fun _ => rfl⟩
    unfold sp_fewest
    rw [if_pos (bi_1.mp h8), en]
    exact fp_W_mono (fun r s m h => ⟨h.1, h.2.1, by have h3 := h.2.2; exact (k_wb_eg (k_gs_eg M c n) _ 3).tr h3⟩) e
  · refine r_aloadn dX5_fewest_11 rfl (by decide) ?_
    refine r_ic (0) dX5_fewest_12 ?_
    refine c_V1 (μz := mX5_finding) dX5_fewest_13 kl_RX5_73 mv_X5_finding rfl (ok_X5_finding (w := 0) rfl (by decide)) ?_
    exact r_iret dX5_fewest_16 ⟨by unfold sp_fewest; rw [if_neg (bi_0.mp h8)], rfl, by unfold sp_fewest; rw [if_neg (bi_0.mp h8)]; exact k_eg.rf _⟩
