/-! ===== the other one's reader: words, numbers, items ===== -/
def g_tp (M : fp_M) (z : Nat) : Prop := g_by M z ∧ ∃ p b : Nat, M 49 13 = nI p ∧ M 49 14 = nI b ∧ p ≤ b ∧ b ≤ z
theorem g_by.wr {M : fp_M} {z k j : Nat} {v : Int32} (h : g_by M z) (h1 : ¬ k = 54) (h2 : ¬ (k = 49 ∧ j = 6)) : g_by (fp_wr M k j v) z := by
  refine ⟨h.1, ?_, fun i hi => ?_⟩
  · have e : fp_wr M k j v 49 6 = M 49 6 := by
      unfold fp_wr
      rw [if_neg (fun q => h2 ⟨q.1.symm, q.2.symm⟩)]
    rw [e]; exact h.2.1
  · rw [fp_wr_ne (fun q => h1 q.symm)]; exact h.2.2 i hi
theorem g_tp.wr {M : fp_M} {z k j : Nat} {v : Int32} (h : g_tp M z) (h1 : ¬ k = 54) (h2 : ¬ (k = 49 ∧ (j = 6 ∨ j = 13 ∨ j = 14))) : g_tp (fp_wr M k j v) z := by
  obtain ⟨hg, p, b, hp, hb, q1, q2⟩ := h
  refine ⟨hg.wr h1 (fun q => h2 ⟨q.1, Or.inl q.2⟩), p, b, ?_, ?_, q1, q2⟩
  · unfold fp_wr
    rw [if_neg (fun q => h2 ⟨q.1.symm, Or.inr (Or.inl q.2.symm)⟩)]; exact hp
  · unfold fp_wr
    rw [if_neg (fun q => h2 ⟨q.1.symm, Or.inr (Or.inr q.2.symm)⟩)]; exact hb
theorem g_nx_o {M : fp_M} {k j : Nat} (h : ¬ k = 49) : g_nx M k j = M k j := g_tk_o h
theorem g_nx_oj {M : fp_M} {k j : Nat} (h : ¬ (12 ≤ j ∧ j ≤ 15)) : g_nx M k j = M k j := g_tk_oj h
theorem t_nx_le (B : Nat → Int32) {z b : Nat} (hb : b ≤ z) : b ≤ (t_nx B z b).2.1 ∧ (t_nx B z b).2.1 ≤ (t_nx B z b).2.2 ∧ (t_nx B z b).2.2 ≤ z ∧ (¬ (t_nx B z b).1 = 0 → (t_nx B z b).2.1 < (t_nx B z b).2.2) := by
  have hs := t_sp_le B (z - b) b
  unfold t_nx
  split
  · have ht := t_te_le B (t_cls (B (t_sp B (z - b) b))) (z - (t_sp B (z - b) b + 1)) (t_sp B (z - b) b + 1)
    refine ⟨hs.1, ?_, ?_, fun _ => ?_⟩
    · show t_sp B (z - b) b ≤ ite _ _ _
      split <;> omega
    · show ite _ _ _ ≤ z
      split <;> omega
    · show t_sp B (z - b) b < ite _ _ _
      split <;> omega
  · refine ⟨hs.1, Nat.le_refl _, ?_, fun q => absurd rfl q⟩
    show t_sp B (z - b) b ≤ z
    omega
theorem g_nx_tp0 {M : fp_M} {z b : Nat} (hg : g_by M z) (hb : M 49 14 = nI b) (hbz : b ≤ z) : g_tp (g_nx M) z := by
  have hz1 := hg.1
  have ez : k_v (M 49 6) = z := by show (M 49 6).toNatClampNeg = z; rw [hg.2.1]; exact nI_clamp (by omega)
  have eb : k_v (M 49 14) = b := by show (M 49 14).toNatClampNeg = b; rw [hb]; exact nI_clamp (by omega)
  have ht := t_nx_le (M 54) hbz
  refine ⟨⟨hg.1, (g_nx_oj (by decide)).trans hg.2.1, fun i hi => by rw [g_nx_o (by decide)]; exact hg.2.2 i hi⟩, _, _, g_tk_13, g_tk_14, ?_, ?_⟩
  · rw [ez, eb]; exact ht.2.1
  · rw [ez, eb]; exact ht.2.2.1
theorem g_nx_tp {M : fp_M} {z : Nat} (h : g_tp M z) : g_tp (g_nx M) z := by
  obtain ⟨hg, p, b, hp, hb, q1, q2⟩ := h
  exact g_nx_tp0 hg hb q2
theorem ok_X6_next {X : fp_X} {M : fp_M} {z : Nat} (h : g_tp M z) : fp_Ev X mX6_nextToken [.ref 49] fp_sh M none (g_nx M) := by
  obtain ⟨hg, p, b, hp, hb, q1, q2⟩ := h
  exact ok_X6_nextToken hg hb q2
abbrev g_bt (M : fp_M) (z k : Nat) : Int32 := if k < z then M 54 k else -1
abbrev g_word (M : fp_M) (i : Nat) : Prop := M 49 12 = 1 ∧ M 49 14 - M 49 13 = nI (fp_sl.getD i 0) ∧ ∀ j, j < fp_sl.getD i 0 → (fp_sb.getD i []).getD j 0 = M 54 (k_v (M 49 13) + j)
theorem g_wd {M : fp_M} {z p b i n : Nat} (hz1 : z ≤ 120) (hp : M 49 13 = nI p) (hb : M 49 14 = nI b) (hpb : p ≤ b) (hbz : b ≤ z) (hn : fp_sl.getD i 0 = n) (hn6 : n ≤ 6) : g_word M i ↔ (M 49 12 = 1 ∧ M 49 14 - M 49 13 = nI n) ∧ ∀ j, j < n → g_bt M z (p + j) = (fp_sb.getD i []).getD j 0 := by
  have ep : k_v (M 49 13) = p := by show (M 49 13).toNatClampNeg = p; rw [hp]; exact nI_clamp (by omega)
  unfold g_word
  rw [hn, ep]
  have key : M 49 14 - M 49 13 = nI n → p + n = b := by
    intro q
    rw [hb, hp, pk_sub hpb] at q
    have := (nI_eq (by omega) (by omega)).mp q
    omega
  constructor
  · rintro ⟨h1, h2, h3⟩
    refine ⟨⟨h1, h2⟩, fun j hj => ?_⟩
    have := key h2
    rw [show g_bt M z (p + j) = M 54 (p + j) from if_pos (by omega)]
    exact (h3 j hj).symm
  · rintro ⟨⟨h1, h2⟩, h3⟩
    refine ⟨h1, h2, fun j hj => ?_⟩
    have := key h2
    rw [← h3 j hj]
    exact if_pos (by omega)
theorem ok_X6_has3 {X : fp_X} {M : fp_M} {z p j : Nat} {a b c : Int32} (hz : M 49 6 = nI z) (hz1 : z ≤ 120) (hp : M 49 13 = nI p) (hp1 : p ≤ 120) (hj : j < 10): fp_Ev X mX6_has3 [.ref 49, .int (nI j), .int a, .int b, .int c] fp_sh M (some (.int (bi (g_bt M z (p + j) = a ∧ g_bt M z (p + j + 1) = b ∧ g_bt M z (p + j + 2) = c)))) M := by
  refine fp_ok [some (.ref 49), some (.int (nI j)), some (.int a), some (.int b), some (.int c)] ?_
  refine r_aloadn dX6_has3_0 rfl (by decide) ?_
  refine r_aloadn dX6_has3_1 rfl (by decide) ?_
  refine r_getfi dX6_has3_2 kf_RX6_171 rfl rfl ?_
  refine r_iloadn dX6_has3_5 rfl ?_
  refine r_iadd dX6_has3_6 ?_
  rw [hp, nI_add]
  refine c_V1 (μz := mX6_byteAt) dX6_has3_7 kl_RX6_174 mv_X6_byteAt rfl (ok_X6_byteAt (z := z) (k := p + j) hz hz1 (by omega)) ?_
  refine r_iloadn dX6_has3_10 rfl ?_
  refine r_icmp_ne 51 dX6_has3_11 (fun h11 => ?_) (fun h11 => ?_)
  · refine r_ic (0) dX6_has3_51 ?_
    exact r_iret dX6_has3_52 ⟨by rw [bi_f (fun q => h11 q.1)], rfl, rfl⟩
  · refine r_aloadn dX6_has3_14 rfl (by decide) ?_
    refine r_aloadn dX6_has3_15 rfl (by decide) ?_
    refine r_getfi dX6_has3_16 kf_RX6_171 rfl rfl ?_
    refine r_iloadn dX6_has3_19 rfl ?_
    refine r_iadd dX6_has3_20 ?_
    refine r_ic (1) dX6_has3_21 ?_
    refine r_iadd dX6_has3_22 ?_
    rw [hp, nI_add, nI_1]
    refine c_V1 (μz := mX6_byteAt) dX6_has3_23 kl_RX6_174 mv_X6_byteAt rfl (ok_X6_byteAt (z := z) (k := p + j + 1) hz hz1 (by omega)) ?_
    refine r_iloadn dX6_has3_26 rfl ?_
    refine r_icmp_ne 51 dX6_has3_27 (fun h27 => ?_) (fun h27 => ?_)
    · refine r_ic (0) dX6_has3_51 ?_
      exact r_iret dX6_has3_52 ⟨by rw [bi_f (fun q => h27 q.2.1)], rfl, rfl⟩
    · refine r_aloadn dX6_has3_30 rfl (by decide) ?_
      refine r_aloadn dX6_has3_31 rfl (by decide) ?_
      refine r_getfi dX6_has3_32 kf_RX6_171 rfl rfl ?_
      refine r_iloadn dX6_has3_35 rfl ?_
      refine r_iadd dX6_has3_36 ?_
      refine r_ic (2) dX6_has3_37 ?_
      refine r_iadd dX6_has3_38 ?_
      rw [hp, nI_add, show nI (p + j) + 2 = nI (p + j + 2) from nI_add (p + j) 2]
      refine c_V1 (μz := mX6_byteAt) dX6_has3_39 kl_RX6_174 mv_X6_byteAt rfl (ok_X6_byteAt (z := z) (k := p + j + 2) hz hz1 (by omega)) ?_
      refine r_iload dX6_has3_42 rfl ?_
      refine r_icmp_ne 51 dX6_has3_44 (fun h44 => ?_) (fun h44 => ?_)
      · refine r_ic (0) dX6_has3_51 ?_
        exact r_iret dX6_has3_52 ⟨by rw [bi_f (fun q => h44 q.2.2)], rfl, rfl⟩
      · refine r_ic (1) dX6_has3_47 ?_
        refine r_goto 52 dX6_has3_48 ?_
        exact r_iret dX6_has3_52 ⟨by rw [bi_t ⟨h11, h27, h44⟩], rfl, rfl⟩
theorem ok_X6_isFour {X : fp_X} {M : fp_M} {z i : Nat} (ht : g_tp M z) (hn : fp_sl.getD i 0 = 4): fp_Ev X mX6_isFour [.ref 49, .int ((fp_sb.getD i []).getD 0 0), .int ((fp_sb.getD i []).getD 1 0), .int ((fp_sb.getD i []).getD 2 0), .int ((fp_sb.getD i []).getD 3 0)] fp_sh M (some (.int (bi (g_word M i)))) M := by
  obtain ⟨hg, p, b, hp, hb, hpb, hbz⟩ := ht
  have hz1 := hg.1
  refine fp_ok [some (.ref 49), some (.int ((fp_sb.getD i []).getD 0 0)), some (.int ((fp_sb.getD i []).getD 1 0)), some (.int ((fp_sb.getD i []).getD 2 0)), some (.int ((fp_sb.getD i []).getD 3 0))] ?_
  refine r_aloadn dX6_isFour_0 rfl (by decide) ?_
  refine r_ic (4) dX6_isFour_1 ?_
  refine c_V1 (μz := mX6_isWord) dX6_isFour_2 kl_RX6_192 mv_X6_isWord rfl ok_X6_isWord ?_
  refine r_if_eq 35 dX6_isFour_5 (fun h5 => ?_) (fun h5 => ?_)
  · refine r_ic (0) dX6_isFour_35 ?_
    exact r_iret dX6_isFour_36 ⟨by rw [bi_f (fun q => bi_0.mp h5 ((g_wd hz1 hp hb hpb hbz hn (by decide)).mp q).1)], rfl, rfl⟩
  · refine r_aloadn dX6_isFour_8 rfl (by decide) ?_
    refine r_ic (0) dX6_isFour_9 ?_
    refine r_iloadn dX6_isFour_10 rfl ?_
    refine r_iloadn dX6_isFour_11 rfl ?_
    refine r_iloadn dX6_isFour_12 rfl ?_
    refine c_V4 (μz := mX6_has3) dX6_isFour_13 kl_RX6_195 mv_X6_has3 rfl (ok_X6_has3 (j := 0) hg.2.1 hz1 hp (by omega) (by decide)) ?_
    refine r_if_eq 35 dX6_isFour_16 (fun h16 => ?_) (fun h16 => ?_)
    · refine r_ic (0) dX6_isFour_35 ?_
      exact r_iret dX6_isFour_36 ⟨by rw [bi_f (fun q => bi_0.mp h16 ⟨((g_wd hz1 hp hb hpb hbz hn (by decide)).mp q).2 0 (by decide), ((g_wd hz1 hp hb hpb hbz hn (by decide)).mp q).2 1 (by decide), ((g_wd hz1 hp hb hpb hbz hn (by decide)).mp q).2 2 (by decide)⟩)], rfl, rfl⟩
    · refine r_aloadn dX6_isFour_19 rfl (by decide) ?_
      refine r_ic (1) dX6_isFour_20 ?_
      refine r_iloadn dX6_isFour_21 rfl ?_
      refine r_iloadn dX6_isFour_22 rfl ?_
      refine r_iload dX6_isFour_23 rfl ?_
      refine c_V4 (μz := mX6_has3) dX6_isFour_25 kl_RX6_195 mv_X6_has3 rfl (ok_X6_has3 (j := 1) hg.2.1 hz1 hp (by omega) (by decide)) ?_
      refine r_if_eq 35 dX6_isFour_28 (fun h28 => ?_) (fun h28 => ?_)
      · refine r_ic (0) dX6_isFour_35 ?_
        exact r_iret dX6_isFour_36 ⟨by rw [bi_f (fun q => bi_0.mp h28 ⟨((g_wd hz1 hp hb hpb hbz hn (by decide)).mp q).2 1 (by decide), ((g_wd hz1 hp hb hpb hbz hn (by decide)).mp q).2 2 (by decide), ((g_wd hz1 hp hb hpb hbz hn (by decide)).mp q).2 3 (by decide)⟩)], rfl, rfl⟩
      · refine r_ic (1) dX6_isFour_31 ?_
        refine r_goto 36 dX6_isFour_32 ?_
        exact r_iret dX6_isFour_36 ⟨by rw [bi_t ((g_wd hz1 hp hb hpb hbz hn (by decide)).mpr ⟨bi_1.mp h5, fun j hj => match j, hj with | 0, _ => (bi_1.mp h16).1 | 1, _ => (bi_1.mp h16).2.1 | 2, _ => (bi_1.mp h16).2.2 | 3, _ => (bi_1.mp h28).2.2 | q + 4, hq => absurd hq (by omega)⟩)], rfl, rfl⟩
theorem ok_X6_isFive {X : fp_X} {M : fp_M} {z i : Nat} (ht : g_tp M z) (hn : fp_sl.getD i 0 = 5): fp_Ev X mX6_isFive [.ref 49, .int ((fp_sb.getD i []).getD 0 0), .int ((fp_sb.getD i []).getD 1 0), .int ((fp_sb.getD i []).getD 2 0), .int ((fp_sb.getD i []).getD 3 0), .int ((fp_sb.getD i []).getD 4 0)] fp_sh M (some (.int (bi (g_word M i)))) M := by
  obtain ⟨hg, p, b, hp, hb, hpb, hbz⟩ := ht
  have hz1 := hg.1
  refine fp_ok [some (.ref 49), some (.int ((fp_sb.getD i []).getD 0 0)), some (.int ((fp_sb.getD i []).getD 1 0)), some (.int ((fp_sb.getD i []).getD 2 0)), some (.int ((fp_sb.getD i []).getD 3 0)), some (.int ((fp_sb.getD i []).getD 4 0))] ?_
  refine r_aloadn dX6_isFive_0 rfl (by decide) ?_
  refine r_ic (5) dX6_isFive_1 ?_
  refine c_V1 (μz := mX6_isWord) dX6_isFive_2 kl_RX6_192 mv_X6_isWord rfl ok_X6_isWord ?_
  refine r_if_eq 36 dX6_isFive_5 (fun h5 => ?_) (fun h5 => ?_)
  · refine r_ic (0) dX6_isFive_36 ?_
    exact r_iret dX6_isFive_37 ⟨by rw [bi_f (fun q => bi_0.mp h5 ((g_wd hz1 hp hb hpb hbz hn (by decide)).mp q).1)], rfl, rfl⟩
  · refine r_aloadn dX6_isFive_8 rfl (by decide) ?_
    refine r_ic (0) dX6_isFive_9 ?_
    refine r_iloadn dX6_isFive_10 rfl ?_
    refine r_iloadn dX6_isFive_11 rfl ?_
    refine r_iloadn dX6_isFive_12 rfl ?_
    refine c_V4 (μz := mX6_has3) dX6_isFive_13 kl_RX6_195 mv_X6_has3 rfl (ok_X6_has3 (j := 0) hg.2.1 hz1 hp (by omega) (by decide)) ?_
    refine r_if_eq 36 dX6_isFive_16 (fun h16 => ?_) (fun h16 => ?_)
    · refine r_ic (0) dX6_isFive_36 ?_
      exact r_iret dX6_isFive_37 ⟨by rw [bi_f (fun q => bi_0.mp h16 ⟨((g_wd hz1 hp hb hpb hbz hn (by decide)).mp q).2 0 (by decide), ((g_wd hz1 hp hb hpb hbz hn (by decide)).mp q).2 1 (by decide), ((g_wd hz1 hp hb hpb hbz hn (by decide)).mp q).2 2 (by decide)⟩)], rfl, rfl⟩
    · refine r_aloadn dX6_isFive_19 rfl (by decide) ?_
      refine r_ic (2) dX6_isFive_20 ?_
      refine r_iloadn dX6_isFive_21 rfl ?_
      refine r_iload dX6_isFive_22 rfl ?_
      refine r_iload dX6_isFive_24 rfl ?_
      refine c_V4 (μz := mX6_has3) dX6_isFive_26 kl_RX6_195 mv_X6_has3 rfl (ok_X6_has3 (j := 2) hg.2.1 hz1 hp (by omega) (by decide)) ?_
      refine r_if_eq 36 dX6_isFive_29 (fun h29 => ?_) (fun h29 => ?_)
      · refine r_ic (0) dX6_isFive_36 ?_
        exact r_iret dX6_isFive_37 ⟨by rw [bi_f (fun q => bi_0.mp h29 ⟨((g_wd hz1 hp hb hpb hbz hn (by decide)).mp q).2 2 (by decide), ((g_wd hz1 hp hb hpb hbz hn (by decide)).mp q).2 3 (by decide), ((g_wd hz1 hp hb hpb hbz hn (by decide)).mp q).2 4 (by decide)⟩)], rfl, rfl⟩
      · refine r_ic (1) dX6_isFive_32 ?_
        refine r_goto 37 dX6_isFive_33 ?_
        exact r_iret dX6_isFive_37 ⟨by rw [bi_t ((g_wd hz1 hp hb hpb hbz hn (by decide)).mpr ⟨bi_1.mp h5, fun j hj => match j, hj with | 0, _ => (bi_1.mp h16).1 | 1, _ => (bi_1.mp h16).2.1 | 2, _ => (bi_1.mp h16).2.2 | 3, _ => (bi_1.mp h29).2.1 | 4, _ => (bi_1.mp h29).2.2 | q + 5, hq => absurd hq (by omega)⟩)], rfl, rfl⟩
theorem ok_X6_isSix {X : fp_X} {M : fp_M} {z i : Nat} (ht : g_tp M z) (hn : fp_sl.getD i 0 = 6): fp_Ev X mX6_isSix [.ref 49, .int ((fp_sb.getD i []).getD 0 0), .int ((fp_sb.getD i []).getD 1 0), .int ((fp_sb.getD i []).getD 2 0), .int ((fp_sb.getD i []).getD 3 0), .int ((fp_sb.getD i []).getD 4 0), .int ((fp_sb.getD i []).getD 5 0)] fp_sh M (some (.int (bi (g_word M i)))) M := by
  obtain ⟨hg, p, b, hp, hb, hpb, hbz⟩ := ht
  have hz1 := hg.1
  refine fp_ok [some (.ref 49), some (.int ((fp_sb.getD i []).getD 0 0)), some (.int ((fp_sb.getD i []).getD 1 0)), some (.int ((fp_sb.getD i []).getD 2 0)), some (.int ((fp_sb.getD i []).getD 3 0)), some (.int ((fp_sb.getD i []).getD 4 0)), some (.int ((fp_sb.getD i []).getD 5 0))] ?_
  refine r_aloadn dX6_isSix_0 rfl (by decide) ?_
  refine r_bp (6) dX6_isSix_1 ?_
  refine c_V1 (μz := mX6_isWord) dX6_isSix_3 kl_RX6_192 mv_X6_isWord rfl ok_X6_isWord ?_
  refine r_if_eq 38 dX6_isSix_6 (fun h6 => ?_) (fun h6 => ?_)
  · refine r_ic (0) dX6_isSix_38 ?_
    exact r_iret dX6_isSix_39 ⟨by rw [bi_f (fun q => bi_0.mp h6 ((g_wd hz1 hp hb hpb hbz hn (by decide)).mp q).1)], rfl, rfl⟩
  · refine r_aloadn dX6_isSix_9 rfl (by decide) ?_
    refine r_ic (0) dX6_isSix_10 ?_
    refine r_iloadn dX6_isSix_11 rfl ?_
    refine r_iloadn dX6_isSix_12 rfl ?_
    refine r_iloadn dX6_isSix_13 rfl ?_
    refine c_V4 (μz := mX6_has3) dX6_isSix_14 kl_RX6_195 mv_X6_has3 rfl (ok_X6_has3 (j := 0) hg.2.1 hz1 hp (by omega) (by decide)) ?_
    refine r_if_eq 38 dX6_isSix_17 (fun h17 => ?_) (fun h17 => ?_)
    · refine r_ic (0) dX6_isSix_38 ?_
      exact r_iret dX6_isSix_39 ⟨by rw [bi_f (fun q => bi_0.mp h17 ⟨((g_wd hz1 hp hb hpb hbz hn (by decide)).mp q).2 0 (by decide), ((g_wd hz1 hp hb hpb hbz hn (by decide)).mp q).2 1 (by decide), ((g_wd hz1 hp hb hpb hbz hn (by decide)).mp q).2 2 (by decide)⟩)], rfl, rfl⟩
    · refine r_aloadn dX6_isSix_20 rfl (by decide) ?_
      refine r_ic (3) dX6_isSix_21 ?_
      refine r_iload dX6_isSix_22 rfl ?_
      refine r_iload dX6_isSix_24 rfl ?_
      refine r_iload dX6_isSix_26 rfl ?_
      refine c_V4 (μz := mX6_has3) dX6_isSix_28 kl_RX6_195 mv_X6_has3 rfl (ok_X6_has3 (j := 3) hg.2.1 hz1 hp (by omega) (by decide)) ?_
      refine r_if_eq 38 dX6_isSix_31 (fun h31 => ?_) (fun h31 => ?_)
      · refine r_ic (0) dX6_isSix_38 ?_
        exact r_iret dX6_isSix_39 ⟨by rw [bi_f (fun q => bi_0.mp h31 ⟨((g_wd hz1 hp hb hpb hbz hn (by decide)).mp q).2 3 (by decide), ((g_wd hz1 hp hb hpb hbz hn (by decide)).mp q).2 4 (by decide), ((g_wd hz1 hp hb hpb hbz hn (by decide)).mp q).2 5 (by decide)⟩)], rfl, rfl⟩
      · refine r_ic (1) dX6_isSix_34 ?_
        refine r_goto 39 dX6_isSix_35 ?_
        exact r_iret dX6_isSix_39 ⟨by rw [bi_t ((g_wd hz1 hp hb hpb hbz hn (by decide)).mpr ⟨bi_1.mp h6, fun j hj => match j, hj with | 0, _ => (bi_1.mp h17).1 | 1, _ => (bi_1.mp h17).2.1 | 2, _ => (bi_1.mp h17).2.2 | 3, _ => (bi_1.mp h31).1 | 4, _ => (bi_1.mp h31).2.1 | 5, _ => (bi_1.mp h31).2.2 | q + 6, hq => absurd hq (by omega)⟩)], rfl, rfl⟩
abbrev g_num (M : fp_M) (lo hi : Int32) : Prop := M 49 12 = 2 ∧ (lo ≤ M 49 15 ∧ M 49 15 ≤ hi)
abbrev g_fl (M : fp_M) : fp_M := fp_wr M 49 16 (M 49 13)
def g_kt (M : fp_M) : Int32 := if g_word M 0 then 0 else if g_word M 1 then 1 else if g_word M 2 then 2 else if g_word M 3 then 3 else if g_word M 4 then 4 else if g_word M 5 then 5 else if g_word M 6 then 6 else -1
theorem g_kt_v (M : fp_M) : g_kt M = -1 ∨ ∃ k : Nat, k < 7 ∧ g_kt M = nI k := by
  unfold g_kt
  split
  · exact Or.inr ⟨0, by decide, rfl⟩
  · split
    · exact Or.inr ⟨1, by decide, rfl⟩
    · split
      · exact Or.inr ⟨2, by decide, rfl⟩
      · split
        · exact Or.inr ⟨3, by decide, rfl⟩
        · split
          · exact Or.inr ⟨4, by decide, rfl⟩
          · split
            · exact Or.inr ⟨5, by decide, rfl⟩
            · split
              · exact Or.inr ⟨6, by decide, rfl⟩
              · exact Or.inl rfl
theorem g_tp.fl {M : fp_M} {z : Nat} (h : g_tp M z) : g_tp (g_fl M) z := h.wr (by decide) (by decide)
theorem ok_X6_isNumber {X : fp_X} {M : fp_M} {lo hi : Int32} : fp_Ev X mX6_isNumber [.ref 49, .int lo, .int hi] fp_sh M (some (.int (bi (g_num M lo hi)))) (if g_num M lo hi then M else g_fl M) := by
  refine fp_ok [some (.ref 49), some (.int lo), some (.int hi)] ?_
  refine r_aloadn dX6_isNumber_0 rfl (by decide) ?_
  refine r_getfi dX6_isNumber_1 kf_RX6_183 rfl rfl ?_
  refine r_ic (2) dX6_isNumber_4 ?_
  refine r_icmp_ne 23 dX6_isNumber_5 (fun h5 => ?_) (fun h5 => ?_)
  · refine r_aloadn dX6_isNumber_23 rfl (by decide) ?_
    refine c_V0 (μz := mX6_fails) dX6_isNumber_24 kl_RX6_199 mv_X6_fails rfl ok_X6_fails ?_
    refine r_if_eq 34 dX6_isNumber_27 (fun h27 => ?_) (fun h27 => ?_)
    · refine r_ic (0) dX6_isNumber_34 ?_
      exact r_iret dX6_isNumber_35 ⟨by rw [bi_f (fun q => h5 q.1)], rfl, by rw [if_neg (fun q => h5 q.1)]⟩
    · exact absurd rfl h27
  · refine r_aloadn dX6_isNumber_8 rfl (by decide) ?_
    refine r_getfi dX6_isNumber_9 kf_RX6_186 rfl rfl ?_
    refine r_i2l dX6_isNumber_12 ?_
    refine r_iloadn dX6_isNumber_13 rfl ?_
    refine r_i2l dX6_isNumber_14 ?_
    refine r_iloadn dX6_isNumber_15 rfl ?_
    refine r_i2l dX6_isNumber_16 ?_
    refine c_S3 (μz := mX6_isIn) dX6_isNumber_17 kl_RX6_42 ms_X6_isIn (ok_X6_in (lo := lo) (hi := hi) rfl rfl) ?_
    refine r_if_ne 30 dX6_isNumber_20 (fun h20 => ?_) (fun h20 => ?_)
    · refine r_ic (1) dX6_isNumber_30 ?_
      refine r_goto 35 dX6_isNumber_31 ?_
      exact r_iret dX6_isNumber_35 ⟨by rw [bi_t ⟨h5, bi_1.mp h20⟩], rfl, by rw [if_pos ⟨h5, bi_1.mp h20⟩]⟩
    · refine r_aloadn dX6_isNumber_23 rfl (by decide) ?_
      refine c_V0 (μz := mX6_fails) dX6_isNumber_24 kl_RX6_199 mv_X6_fails rfl ok_X6_fails ?_
      refine r_if_eq 34 dX6_isNumber_27 (fun h27 => ?_) (fun h27 => ?_)
      · refine r_ic (0) dX6_isNumber_34 ?_
        exact r_iret dX6_isNumber_35 ⟨by rw [bi_f (fun q => bi_0.mp h20 q.2)], rfl, by rw [if_neg (fun q => bi_0.mp h20 q.2)]⟩
      · exact absurd rfl h27
theorem ok_X6_kindHere {X : fp_X} {M : fp_M} {z : Nat} (ht : g_tp M z): fp_Ev X mX6_kindHere [.ref 49] fp_sh M (some (.int (g_kt M))) M := by
  refine fp_ok [some (.ref 49)] ?_
  refine r_aloadn dX6_kindHere_0 rfl (by decide) ?_
  refine r_bp (108) dX6_kindHere_1 ?_
  refine r_bp (101) dX6_kindHere_3 ?_
  refine r_bp (116) dX6_kindHere_5 ?_
  refine r_bp (116) dX6_kindHere_7 ?_
  refine r_bp (101) dX6_kindHere_9 ?_
  refine r_bp (114) dX6_kindHere_11 ?_
  refine c_V6 (μz := mX6_isSix) dX6_kindHere_13 kl_RX6_202 mv_X6_isSix rfl (ok_X6_isSix (i := 0) ht rfl) ?_
  refine r_if_eq 21 dX6_kindHere_16 (fun h16 => ?_) (fun h16 => ?_)
  · refine r_aloadn dX6_kindHere_21 rfl (by decide) ?_
    refine r_bp (104) dX6_kindHere_22 ?_
    refine r_bp (97) dX6_kindHere_24 ?_
    refine r_bp (115) dX6_kindHere_26 ?_
    refine r_bp (116) dX6_kindHere_28 ?_
    refine r_bp (121) dX6_kindHere_30 ?_
    refine c_V5 (μz := mX6_isFive) dX6_kindHere_32 kl_RX6_206 mv_X6_isFive rfl (ok_X6_isFive (i := 1) ht rfl) ?_
    refine r_if_eq 40 dX6_kindHere_35 (fun h35 => ?_) (fun h35 => ?_)
    · refine r_aloadn dX6_kindHere_40 rfl (by decide) ?_
      refine r_bp (115) dX6_kindHere_41 ?_
      refine r_bp (101) dX6_kindHere_43 ?_
      refine r_bp (97) dX6_kindHere_45 ?_
      refine r_bp (108) dX6_kindHere_47 ?_
      refine r_bp (101) dX6_kindHere_49 ?_
      refine r_bp (100) dX6_kindHere_51 ?_
      refine c_V6 (μz := mX6_isSix) dX6_kindHere_53 kl_RX6_202 mv_X6_isSix rfl (ok_X6_isSix (i := 2) ht rfl) ?_
      refine r_if_eq 61 dX6_kindHere_56 (fun h56 => ?_) (fun h56 => ?_)
      · refine r_aloadn dX6_kindHere_61 rfl (by decide) ?_
        refine r_bp (102) dX6_kindHere_62 ?_
        refine r_bp (111) dX6_kindHere_64 ?_
        refine r_bp (114) dX6_kindHere_66 ?_
        refine r_bp (103) dX6_kindHere_68 ?_
        refine r_bp (101) dX6_kindHere_70 ?_
        refine r_bp (100) dX6_kindHere_72 ?_
        refine c_V6 (μz := mX6_isSix) dX6_kindHere_74 kl_RX6_202 mv_X6_isSix rfl (ok_X6_isSix (i := 3) ht rfl) ?_
        refine r_if_eq 82 dX6_kindHere_77 (fun h77 => ?_) (fun h77 => ?_)
        · refine r_aloadn dX6_kindHere_82 rfl (by decide) ?_
          refine r_bp (99) dX6_kindHere_83 ?_
          refine r_bp (111) dX6_kindHere_85 ?_
          refine r_bp (112) dX6_kindHere_87 ?_
          refine r_bp (105) dX6_kindHere_89 ?_
          refine r_bp (101) dX6_kindHere_91 ?_
          refine r_bp (100) dX6_kindHere_93 ?_
          refine c_V6 (μz := mX6_isSix) dX6_kindHere_95 kl_RX6_202 mv_X6_isSix rfl (ok_X6_isSix (i := 4) ht rfl) ?_
          refine r_if_eq 103 dX6_kindHere_98 (fun h98 => ?_) (fun h98 => ?_)
          · refine r_aloadn dX6_kindHere_103 rfl (by decide) ?_
            refine r_bp (99) dX6_kindHere_104 ?_
            refine r_bp (97) dX6_kindHere_106 ?_
            refine r_bp (114) dX6_kindHere_108 ?_
            refine r_bp (100) dX6_kindHere_110 ?_
            refine c_V4 (μz := mX6_isFour) dX6_kindHere_112 kl_RX6_210 mv_X6_isFour rfl (ok_X6_isFour (i := 5) ht rfl) ?_
            refine r_if_eq 120 dX6_kindHere_115 (fun h115 => ?_) (fun h115 => ?_)
            · refine r_aloadn dX6_kindHere_120 rfl (by decide) ?_
              refine r_bp (108) dX6_kindHere_121 ?_
              refine r_bp (97) dX6_kindHere_123 ?_
              refine r_bp (116) dX6_kindHere_125 ?_
              refine r_bp (101) dX6_kindHere_127 ?_
              refine c_V4 (μz := mX6_isFour) dX6_kindHere_129 kl_RX6_210 mv_X6_isFour rfl (ok_X6_isFour (i := 6) ht rfl) ?_
              refine r_if_eq 140 dX6_kindHere_132 (fun h132 => ?_) (fun h132 => ?_)
              · refine r_ic (-1) dX6_kindHere_140 ?_
                exact r_iret dX6_kindHere_141 ⟨by unfold g_kt; rw [if_neg (bi_0.mp h16), if_neg (bi_0.mp h35), if_neg (bi_0.mp h56), if_neg (bi_0.mp h77), if_neg (bi_0.mp h98), if_neg (bi_0.mp h115), if_neg (bi_0.mp h132)], rfl, rfl⟩
              · refine r_bp (6) dX6_kindHere_135 ?_
                refine r_goto 141 dX6_kindHere_137 ?_
                exact r_iret dX6_kindHere_141 ⟨by unfold g_kt; rw [if_neg (bi_0.mp h16), if_neg (bi_0.mp h35), if_neg (bi_0.mp h56), if_neg (bi_0.mp h77), if_neg (bi_0.mp h98), if_neg (bi_0.mp h115), if_pos (bi_1.mp h132)], rfl, rfl⟩
            · refine r_ic (5) dX6_kindHere_118 ?_
              exact r_iret dX6_kindHere_119 ⟨by unfold g_kt; rw [if_neg (bi_0.mp h16), if_neg (bi_0.mp h35), if_neg (bi_0.mp h56), if_neg (bi_0.mp h77), if_neg (bi_0.mp h98), if_pos (bi_1.mp h115)], rfl, rfl⟩
          · refine r_ic (4) dX6_kindHere_101 ?_
            exact r_iret dX6_kindHere_102 ⟨by unfold g_kt; rw [if_neg (bi_0.mp h16), if_neg (bi_0.mp h35), if_neg (bi_0.mp h56), if_neg (bi_0.mp h77), if_pos (bi_1.mp h98)], rfl, rfl⟩
        · refine r_ic (3) dX6_kindHere_80 ?_
          exact r_iret dX6_kindHere_81 ⟨by unfold g_kt; rw [if_neg (bi_0.mp h16), if_neg (bi_0.mp h35), if_neg (bi_0.mp h56), if_pos (bi_1.mp h77)], rfl, rfl⟩
      · refine r_ic (2) dX6_kindHere_59 ?_
        exact r_iret dX6_kindHere_60 ⟨by unfold g_kt; rw [if_neg (bi_0.mp h16), if_neg (bi_0.mp h35), if_pos (bi_1.mp h56)], rfl, rfl⟩
    · refine r_ic (1) dX6_kindHere_38 ?_
      exact r_iret dX6_kindHere_39 ⟨by unfold g_kt; rw [if_neg (bi_0.mp h16), if_pos (bi_1.mp h35)], rfl, rfl⟩
  · refine r_ic (0) dX6_kindHere_19 ?_
    exact r_iret dX6_kindHere_20 ⟨by unfold g_kt; rw [if_pos (bi_1.mp h16)], rfl, rfl⟩
abbrev pg_t2 (M : fp_M) : fp_M := fp_wr (g_nx M) 49 17 (g_nx M 49 15)
def pg_towns (M : fp_M) : Int32 × fp_M := if g_num (g_nx M) 0 7 then (if g_num (g_nx (pg_t2 M)) 0 7 then (if g_nx (pg_t2 M) 49 15 = g_nx (pg_t2 M) 49 17 then (0, g_fl (g_nx (pg_t2 M))) else (1, g_nx (fp_wr (g_nx (pg_t2 M)) 49 18 (g_nx (pg_t2 M) 49 15)))) else (0, g_fl (g_fl (g_nx (pg_t2 M))))) else (0, g_fl (g_nx M))
def pg_dm (M : fp_M) : fp_M := if g_nx M 49 12 = 5 then g_nx (g_nx M) else g_nx M
def pg_days (M : fp_M) : Int32 × fp_M := if g_word M 9 then (if g_num (pg_dm M) 0 99 then (1, g_nx (fp_wr (pg_dm M) 49 19 (if g_nx M 49 12 = 5 then -(pg_dm M 49 15) else pg_dm M 49 15))) else (0, g_fl (pg_dm M))) else (0, g_fl M)
def pg_mark (M : fp_M) (c : Nat) : Int32 × fp_M := if g_word M 10 then (if g_num (g_nx M) 0 999 then (1, g_nx (fp_wr (g_nx M) 50 (5 + 6 * c + 4) (g_nx M 49 15))) else (0, g_fl (g_nx M))) else (1, M)
def pg_struck (M : fp_M) (c : Nat) : fp_M := if g_word M 11 then g_nx (fp_wr M 50 (5 + 6 * c + 5) 1) else M
def pg_rc (D : fp_M) (c : Nat) (kind : Int32) : fp_M := g_recv D c kind (D 49 17) (D 49 18) (D 49 19) 0
def pg_ms (R : fp_M) (c : Nat) : Int32 × fp_M := if (pg_mark R c).1 = 0 then (0, (pg_mark R c).2) else (1, pg_struck (pg_mark R c).2 c)
def pg_let (M : fp_M) (c : Nat) (kind : Int32) : Int32 × fp_M := if c = 8 then (0, g_fl M) else if (pg_towns M).1 = 0 then (0, (pg_towns M).2) else if (pg_days (pg_towns M).2).1 = 0 then (0, (pg_days (pg_towns M).2).2) else pg_ms (pg_rc (pg_days (pg_towns M).2).2 c kind) c
def pg_law (M : fp_M) (w : Nat) : Int32 × fp_M := if g_num (g_nx M) 0 9 then (1, g_nx (fp_wr (g_nx M) 50 (2 + w) (g_nx M 49 15))) else (0, g_fl (g_nx M))
def pg_item (M : fp_M) (c : Nat) : Int32 × fp_M := if 0 ≤ g_kt M then pg_let M c (g_kt M) else if g_word M 7 then pg_law M 0 else if g_word M 8 then pg_law M 1 else (0, g_fl M)
theorem pg_dm_tp {M : fp_M} {z : Nat} (h : g_tp M z) : g_tp (pg_dm M) z := by
  unfold pg_dm
  split
  · exact g_nx_tp (g_nx_tp h)
  · exact g_nx_tp h
theorem pg_t2_tp {M : fp_M} {z : Nat} (h : g_tp M z) : g_tp (pg_t2 M) z := (g_nx_tp h).wr (by decide) (by decide)
theorem pg_towns_tp {M : fp_M} {z : Nat} (h : g_tp M z) : g_tp (pg_towns M).2 z := by
  unfold pg_towns
  have h2 := g_nx_tp (pg_t2_tp h)
  split
  · split
    · split
      · exact h2.fl
      · exact g_nx_tp (h2.wr (by decide) (by decide))
    · exact h2.fl.fl
  · exact (g_nx_tp h).fl
theorem pg_days_tp {M : fp_M} {z : Nat} (h : g_tp M z) : g_tp (pg_days M).2 z := by
  unfold pg_days
  split
  · split
    · exact g_nx_tp ((pg_dm_tp h).wr (by decide) (by decide))
    · exact (pg_dm_tp h).fl
  · exact h.fl
theorem pg_mark_tp {M : fp_M} {z c : Nat} (h : g_tp M z) : g_tp (pg_mark M c).2 z := by
  unfold pg_mark
  split
  · split
    · exact g_nx_tp ((g_nx_tp h).wr (by decide) (by omega))
    · exact (g_nx_tp h).fl
  · exact h
theorem pg_struck_tp {M : fp_M} {z c : Nat} (h : g_tp M z) : g_tp (pg_struck M c) z := by
  unfold pg_struck
  split
  · exact g_nx_tp (h.wr (by decide) (by omega))
  · exact h
theorem pg_rc_tp {D : fp_M} {z c : Nat} {v : Int32} (h : g_tp D z) : g_tp (pg_rc D c v) z := by
  unfold pg_rc g_recv
  exact ((((((h.wr (by decide) (by omega)).wr (by decide) (by omega)).wr (by decide) (by omega)).wr (by decide) (by omega)).wr (by decide) (by omega)).wr (by decide) (by omega)).wr (by decide) (by omega)
theorem pg_ms_tp {D : fp_M} {z c : Nat} (h : g_tp D z) : g_tp (pg_ms D c).2 z := by
  unfold pg_ms
  split
  · exact pg_mark_tp h
  · exact pg_struck_tp (pg_mark_tp h)
theorem pg_let_tp {M : fp_M} {z c : Nat} {v : Int32} (h : g_tp M z) : g_tp (pg_let M c v).2 z := by
  unfold pg_let
  split
  · exact h.fl
  · split
    · exact pg_towns_tp h
    · split
      · exact pg_days_tp (pg_towns_tp h)
      · exact pg_ms_tp (pg_rc_tp (pg_days_tp (pg_towns_tp h)))
theorem pg_law_tp {M : fp_M} {z w : Nat} (h : g_tp M z) : g_tp (pg_law M w).2 z := by
  unfold pg_law
  split
  · exact g_nx_tp ((g_nx_tp h).wr (by decide) (by omega))
  · exact (g_nx_tp h).fl
theorem pg_item_tp {M : fp_M} {z c : Nat} (h : g_tp M z) : g_tp (pg_item M c).2 z := by
  unfold pg_item
  split
  · exact pg_let_tp h
  · split
    · exact pg_law_tp h
    · split
      · exact pg_law_tp h
      · exact h.fl
