/-! ===== the other one's reader: the whole text ===== -/
/-- the reader stands well, from place p on; where its token is one, it has a byte -/
def g_tl (M : fp_M) (z p : Nat) : Prop := g_by M z ∧ ∃ q b : Nat, M 49 13 = nI q ∧ M 49 14 = nI b ∧ p ≤ q ∧ q ≤ b ∧ b ≤ z ∧ (¬ M 49 12 = 0 → q < b)
theorem g_tl.tp {M : fp_M} {z p : Nat} (h : g_tl M z p) : g_tp M z := by
  obtain ⟨hg, q, b, h1, h2, h3, h4, h5, h6⟩ := h
  exact ⟨hg, q, b, h1, h2, h4, h5⟩
theorem g_tl.wr {M : fp_M} {z p k j : Nat} {v : Int32} (h : g_tl M z p) (h1 : ¬ k = 54) (h2 : ¬ (k = 49 ∧ (j = 6 ∨ j = 12 ∨ j = 13 ∨ j = 14))) : g_tl (fp_wr M k j v) z p := by
  obtain ⟨hg, q, b, hp, hb, q0, q1, q2, q3⟩ := h
  have e : ∀ i, (i = 12 ∨ i = 13 ∨ i = 14) → fp_wr M k j v 49 i = M 49 i := fun i hi => by
    unfold fp_wr
    exact if_neg (fun w => h2 ⟨w.1.symm, by omega⟩)
  refine ⟨hg.wr h1 (fun w => h2 ⟨w.1, Or.inl w.2⟩), q, b, (e 13 (by decide)).trans hp, (e 14 (by decide)).trans hb, q0, q1, q2, ?_⟩
  rw [e 12 (by decide)]
  exact q3
theorem g_nx_tl0 {M : fp_M} {z b : Nat} (hg : g_by M z) (hb : M 49 14 = nI b) (hbz : b ≤ z) : g_tl (g_nx M) z b := by
  have hz1 := hg.1
  have ez : k_v (M 49 6) = z := by show (M 49 6).toNatClampNeg = z; rw [hg.2.1]; exact nI_clamp (by omega)
  have eb : k_v (M 49 14) = b := by show (M 49 14).toNatClampNeg = b; rw [hb]; exact nI_clamp (by omega)
  have ht := t_nx_le (M 54) hbz
  refine ⟨⟨hg.1, (g_nx_oj (by decide)).trans hg.2.1, fun i hi => by rw [g_nx_o (by decide)]; exact hg.2.2 i hi⟩, _, _, g_tk_13, g_tk_14, ?_, ?_, ?_, ?_⟩
  · rw [ez, eb]; exact ht.1
  · rw [ez, eb]; exact ht.2.1
  · rw [ez, eb]; exact ht.2.2.1
  · rw [show g_nx M 49 12 = g_sw (t_nx (M 54) (k_v (M 49 6)) (k_v (M 49 14))).1 from g_tk_12, ez, eb]
    intro h
    refine ht.2.2.2 (fun w => h ?_)
    rw [w]
    rfl
theorem g_tl.nx {M : fp_M} {z p : Nat} (h : g_tl M z p) : g_tl (g_nx M) z p := by
  obtain ⟨hg, q, b, h1, h2, h3, h4, h5, h6⟩ := h
  obtain ⟨k1, q', b', k2, k3, k4, k5, k6, k7⟩ := g_nx_tl0 hg h2 h5
  exact ⟨k1, q', b', k2, k3, by omega, k5, k6, k7⟩
theorem g_tl.fl {M : fp_M} {z p : Nat} (h : g_tl M z p) : g_tl (g_fl M) z p := h.wr (by decide) (by decide)
theorem g_nx_tl {M : fp_M} {z p : Nat} (h : g_tl M z p) : g_tl (g_nx M) z p := h.nx
theorem pg_dm_tl {M : fp_M} {z p : Nat} (h : g_tl M z p) : g_tl (pg_dm M) z p := by
  unfold pg_dm
  split
  · exact g_nx_tl (g_nx_tl h)
  · exact g_nx_tl h
theorem pg_t2_tl {M : fp_M} {z p : Nat} (h : g_tl M z p) : g_tl (pg_t2 M) z p := (g_nx_tl h).wr (by decide) (by decide)
theorem pg_towns_tl {M : fp_M} {z p : Nat} (h : g_tl M z p) : g_tl (pg_towns M).2 z p := by
  unfold pg_towns
  have h2 := g_nx_tl (pg_t2_tl h)
  split
  · split
    · split
      · exact h2.fl
      · exact g_nx_tl (h2.wr (by decide) (by decide))
    · exact h2.fl.fl
  · exact (g_nx_tl h).fl
theorem pg_days_tl {M : fp_M} {z p : Nat} (h : g_tl M z p) : g_tl (pg_days M).2 z p := by
  unfold pg_days
  split
  · split
    · exact g_nx_tl ((pg_dm_tl h).wr (by decide) (by decide))
    · exact (pg_dm_tl h).fl
  · exact h.fl
theorem pg_mark_tl {M : fp_M} {z p c : Nat} (h : g_tl M z p) : g_tl (pg_mark M c).2 z p := by
  unfold pg_mark
  split
  · split
    · exact g_nx_tl ((g_nx_tl h).wr (by decide) (by omega))
    · exact (g_nx_tl h).fl
  · exact h
theorem pg_struck_tl {M : fp_M} {z p c : Nat} (h : g_tl M z p) : g_tl (pg_struck M c) z p := by
  unfold pg_struck
  split
  · exact g_nx_tl (h.wr (by decide) (by omega))
  · exact h
theorem pg_rc_tl {D : fp_M} {z p c : Nat} {v : Int32} (h : g_tl D z p) : g_tl (pg_rc D c v) z p := by
  unfold pg_rc g_recv
  exact ((((((h.wr (by decide) (by omega)).wr (by decide) (by omega)).wr (by decide) (by omega)).wr (by decide) (by omega)).wr (by decide) (by omega)).wr (by decide) (by omega)).wr (by decide) (by omega)
theorem pg_ms_tl {D : fp_M} {z p c : Nat} (h : g_tl D z p) : g_tl (pg_ms D c).2 z p := by
  unfold pg_ms
  split
  · exact pg_mark_tl h
  · exact pg_struck_tl (pg_mark_tl h)
theorem pg_let_tl {M : fp_M} {z p c : Nat} {v : Int32} (h : g_tl M z p) : g_tl (pg_let M c v).2 z p := by
  unfold pg_let
  split
  · exact h.fl
  · split
    · exact pg_towns_tl h
    · split
      · exact pg_days_tl (pg_towns_tl h)
      · exact pg_ms_tl (pg_rc_tl (pg_days_tl (pg_towns_tl h)))
theorem pg_law_tl {M : fp_M} {z p w : Nat} (h : g_tl M z p) : g_tl (pg_law M w).2 z p := by
  unfold pg_law
  split
  · exact g_nx_tl ((g_nx_tl h).wr (by decide) (by omega))
  · exact (g_nx_tl h).fl
theorem pg_item_tl {M : fp_M} {z p c : Nat} (h : g_tl M z p) : g_tl (pg_item M c).2 z p := by
  unfold pg_item
  split
  · exact pg_let_tl h
  · split
    · exact pg_law_tl h
    · split
      · exact pg_law_tl h
      · exact h.fl
theorem pg_struck_o {M : fp_M} {c k j : Nat} (h : ¬ k = 49) (h2 : ¬ (k = 50 ∧ j = 5 + 6 * c + 5)) : pg_struck M c k j = M k j := by
  unfold pg_struck
  split
  · rw [g_nx_o h]
    unfold fp_wr
    rw [if_neg h2]
  · rfl
theorem pg_mark_o {M : fp_M} {c k j : Nat} (h : ¬ k = 49) (h2 : ¬ (k = 50 ∧ j = 5 + 6 * c + 4)) : (pg_mark M c).2 k j = M k j := by
  unfold pg_mark
  split
  · split
    · show g_nx _ k j = _
      rw [g_nx_o h]
      unfold fp_wr
      rw [if_neg h2, g_nx_o h]
    · show fp_wr _ 49 16 _ k j = _
      rw [fp_wr_ne h, g_nx_o h]
  · rfl
theorem pg_ms_o {M : fp_M} {c k j : Nat} (h : ¬ k = 49) (h2 : ¬ (k = 50 ∧ (j = 5 + 6 * c + 4 ∨ j = 5 + 6 * c + 5))) : (pg_ms M c).2 k j = M k j := by
  unfold pg_ms
  split
  · exact pg_mark_o h (fun q => h2 ⟨q.1, Or.inl q.2⟩)
  · show pg_struck _ c k j = _
    rw [pg_struck_o h (fun q => h2 ⟨q.1, Or.inr q.2⟩)]
    exact pg_mark_o h (fun q => h2 ⟨q.1, Or.inl q.2⟩)
/-- how many letters there are behind an item -/
theorem pg_item_n {M : fp_M} {c : Nat} (hc : M 50 0 = nI c) (hc9 : c ≤ 8) : ∃ c' : Nat, c' ≤ 8 ∧ (pg_item M c).2 50 0 = nI c' := by
  have hL : ∀ w, (pg_law M w).2 50 0 = nI c := by
    intro w
    unfold pg_law
    split
    · show g_nx (fp_wr (g_nx M) 50 (2 + w) (g_nx M 49 15)) 50 0 = _
      rw [g_nx_o (by decide), fp_wr_ne2 (show ¬ 0 = 2 + w by omega), g_nx_o (by decide)]
      exact hc
    · show fp_wr (g_nx M) 49 16 (g_nx M 49 13) 50 0 = _
      rw [fp_wr_ne (show ¬ 50 = 49 by decide), g_nx_o (by decide)]
      exact hc
  have hF : g_fl M 50 0 = nI c := (fp_wr_ne (show ¬ 50 = 49 by decide)).trans hc
  unfold pg_item
  split
  · unfold pg_let
    split
    · exact ⟨c, hc9, hF⟩
    · split
      · exact ⟨c, hc9, (pg_towns_o (by decide)).trans hc⟩
      · split
        · exact ⟨c, hc9, (pg_days_o (by decide)).trans ((pg_towns_o (by decide)).trans hc)⟩
        · exact ⟨c + 1, by omega, (pg_ms_o (by decide) (by omega)).trans pg_rc_n⟩
  · split
    · exact ⟨c, hc9, hL 0⟩
    · split
      · exact ⟨c, hc9, hL 1⟩
      · exact ⟨c, hc9, hF⟩
/-- the rest of a text, from the loop's head on: was it good, how many items, the numbers behind -/
def pg_rd : Nat → Nat → Int32 → fp_M → (Bool × Nat) × fp_M
  | 0, k, _, N => ((false, k), N)
  | n + 1, k, g, N => if g = 0 then ((false, k), N) else if N 49 12 = 3 then pg_rd n (k + 1) (pg_item (g_nx N) (k_v (N 50 0))).1 (pg_item (g_nx N) (k_v (N 50 0))).2 else if N 49 12 = 0 then ((true, k), N) else ((false, k), g_fl N)
def pg_tend (R : (Bool × Nat) × fp_M) : Int32 × fp_M := if R.1.1 = true then (nI R.1.2, fp_wr R.2 49 6 0) else (-1 - R.2 49 16, g_rowi (fp_wr R.2 49 6 0) 52 50 63)
def pg_t0 (M : fp_M) : fp_M := g_nx (fp_wr (g_rowi M 50 52 63) 49 14 0)
def sg_text (M : fp_M) (c : Nat) : Int32 × fp_M := pg_tend (pg_rd 122 1 (pg_item (pg_t0 M) c).1 (pg_item (pg_t0 M) c).2)
theorem lp_X6_text78g {X : fp_X} {N : fp_M} {k : Nat} : fp_W X mX6_text 78 [some (.ref 49), some (.int (nI k)), some (.int 1)] [] fp_sh N 0 0 (fun r s m => r = some (.int (pg_tend ((true, k), N)).1) ∧ s = fp_sh ∧ m = (pg_tend ((true, k), N)).2) := by
  refine r_aloadn dX6_text_78 rfl (by decide) ?_
  refine r_ic (0) dX6_text_79 ?_
  refine r_putfi dX6_text_80 kf_RX6_165 rfl rfl ?_
  refine r_iloadn dX6_text_83 rfl ?_
  refine r_if_ne 98 dX6_text_84 (fun h84 => ?_) (fun h84 => ?_)
  · refine r_iloadn dX6_text_98 rfl ?_
    refine r_if_eq 106 dX6_text_99 (fun h99 => ?_) (fun h99 => ?_)
    · exact absurd h99 (by decide)
    · refine r_iloadn dX6_text_102 rfl ?_
      refine r_goto 112 dX6_text_103 ?_
      exact r_iret dX6_text_112 ⟨rfl, rfl, rfl⟩
  · exact absurd h84 (by decide)
theorem lp_X6_text78b {X : fp_X} {N : fp_M} {k : Nat} : fp_W X mX6_text 78 [some (.ref 49), some (.int (nI k)), some (.int 0)] [] fp_sh N 0 0 (fun r s m => r = some (.int (pg_tend ((false, k), N)).1) ∧ s = fp_sh ∧ m = (pg_tend ((false, k), N)).2) := by
  refine r_aloadn dX6_text_78 rfl (by decide) ?_
  refine r_ic (0) dX6_text_79 ?_
  refine r_putfi dX6_text_80 kf_RX6_165 rfl rfl ?_
  refine r_iloadn dX6_text_83 rfl ?_
  refine r_if_ne 98 dX6_text_84 (fun h84 => ?_) (fun h84 => ?_)
  · exact absurd rfl h84
  · refine r_aloadn dX6_text_87 rfl (by decide) ?_
    refine r_getfr dX6_text_88 kf_RX6_16 rfl rfl ?_
    refine r_aloadn dX6_text_91 rfl (by decide) ?_
    refine r_getfr dX6_text_92 kf_RX6_7 rfl rfl ?_
    refine c_S2v (μz := mX6_copyRow) dX6_text_95 kl_RX6_243 ms_X6_copyRow (ok_X6_copyRow (a := 52) (b := 50) rfl rfl (by decide) (by decide) (by decide)) ?_
    refine r_iloadn dX6_text_98 rfl ?_
    refine r_if_eq 106 dX6_text_99 (fun h99 => ?_) (fun h99 => ?_)
    · refine r_ic (-1) dX6_text_106 ?_
      refine r_aloadn dX6_text_107 rfl (by decide) ?_
      refine r_getfi dX6_text_108 kf_RX6_189 rfl rfl ?_
      refine r_isub dX6_text_111 ?_
      exact r_iret dX6_text_112 ⟨rfl, rfl, rfl⟩
    · exact absurd rfl h99
theorem lp_X6_text {X : fp_X} {z : Nat} : ∀ (n k : Nat) (g : Int32) (N : fp_M) (p c : Nat), g_tl N z p → z + 1 ≤ p + n → g = 0 ∨ g = 1 → c ≤ 8 → N 50 0 = nI c → fp_W X mX6_text 27 [some (.ref 49), some (.int (nI k)), some (.int g)] [] fp_sh N 0 0 (fun r s m => r = some (.int (pg_tend (pg_rd n k g N)).1) ∧ s = fp_sh ∧ m = (pg_tend (pg_rd n k g N)).2) := by
  intro n
  induction n with
  | zero =>
    intro k g N p c ht hm h01 hc8 hc
    obtain ⟨-, q, b, -, -, q3, q4, q5, -⟩ := ht
    exfalso
    omega
  | succ n ih =>
    intro k g N p c ht hm h01 hc8 hc
    have ec : k_v (N 50 0) = c := by show (N 50 0).toNatClampNeg = c; rw [hc]; exact nI_clamp (by omega)
    have htp := ht.tp
    have h1c : (g_nx N) 50 0 = nI c := (g_nx_o (by decide)).trans hc
    refine r_iloadn dX6_text_27 rfl ?_
    refine r_if_eq 54 dX6_text_28 (fun h28 => ?_) (fun h28 => ?_)
    · refine r_iloadn dX6_text_54 rfl ?_
      refine r_if_eq 76 dX6_text_55 (fun h55 => ?_) (fun h55 => ?_)
      · refine r_ic (0) dX6_text_76 ?_
        refine r_istore2 dX6_text_77 ?_
        rw [show pg_rd (n + 1) k g N = ((false, k), N) from if_pos h28]
        exact lp_X6_text78b
      · exact absurd h28 h55
    · refine r_aloadn dX6_text_31 rfl (by decide) ?_
      refine r_getfi dX6_text_32 kf_RX6_183 rfl rfl ?_
      refine r_ic (3) dX6_text_35 ?_
      refine r_icmp_ne 54 dX6_text_36 (fun h36 => ?_) (fun h36 => ?_)
      · refine r_iloadn dX6_text_54 rfl ?_
        refine r_if_eq 76 dX6_text_55 (fun h55 => ?_) (fun h55 => ?_)
        · exact absurd h55 h28
        · refine r_aloadn dX6_text_58 rfl (by decide) ?_
          refine r_getfi dX6_text_59 kf_RX6_183 rfl rfl ?_
          refine r_if_eq 72 dX6_text_62 (fun h62 => ?_) (fun h62 => ?_)
          · refine r_ic (1) dX6_text_72 ?_
            refine r_goto 77 dX6_text_73 ?_
            refine r_istore2 dX6_text_77 ?_
            rw [show pg_rd (n + 1) k g N = ((true, k), N) from by show (if g = 0 then _ else _) = _; rw [if_neg h28, if_neg h36, if_pos h62]]
            exact lp_X6_text78g
          · refine r_aloadn dX6_text_65 rfl (by decide) ?_
            refine c_V0 (μz := mX6_fails) dX6_text_66 kl_RX6_199 mv_X6_fails rfl ok_X6_fails ?_
            refine r_if_eq 76 dX6_text_69 (fun h69 => ?_) (fun h69 => ?_)
            · refine r_ic (0) dX6_text_76 ?_
              refine r_istore2 dX6_text_77 ?_
              rw [show pg_rd (n + 1) k g N = ((false, k), g_fl N) from by show (if g = 0 then _ else _) = _; rw [if_neg h28, if_neg h36, if_neg h62]]
              exact lp_X6_text78b
            · exact absurd rfl h69
      · refine r_aloadn dX6_text_39 rfl (by decide) ?_
        refine c_V0v (μz := mX6_nextToken) dX6_text_40 kl_RX6_213 mv_X6_nextToken rfl (ok_X6_next htp) ?_
        refine r_aloadn dX6_text_43 rfl (by decide) ?_
        refine c_V0 (μz := mX6_itemHere) dX6_text_44 kl_RX6_247 mv_X6_itemHere rfl (ok_X6_itemHere (g_nx_tp htp) h1c hc8) ?_
        refine r_istore2 dX6_text_47 ?_
        refine r_iinc1 (1) dX6_text_48 ?_
        refine r_goto 27 dX6_text_51 ?_
        rw [nI_1]
        have hg : ¬ g = 0 := h28
        have e : pg_rd (n + 1) k g N = pg_rd n (k + 1) (pg_item (g_nx N) c).1 (pg_item (g_nx N) c).2 := by
          show (if g = 0 then _ else _) = _
          rw [if_neg hg, if_pos h36, ec]
        rw [e]
        obtain ⟨hg0, q, b, a1, a2, a3, a4, a5, a6⟩ := ht
        have hqb : q < b := a6 (by rw [h36]; decide)
        obtain ⟨c', l1, l2⟩ := pg_item_n h1c hc8
        exact ih (k + 1) _ _ b c' (pg_item_tl (g_nx_tl0 hg0 a2 a5)) (by omega) (pg_item_01 _ _) l1 l2
theorem ok_X6_text {X : fp_X} {M : fp_M} {z c : Nat} (hg : g_by M z) (hc : M 50 0 = nI c) (hc8 : c ≤ 8): fp_Ev X mX6_text [.ref 49] fp_sh M (some (.int (sg_text M c).1)) (sg_text M c).2 := by
  have hg' : g_by (fp_wr (g_rowi M 50 52 63) 49 14 0) z := by
    refine ⟨hg.1, ?_, fun i hi => ?_⟩
    · exact hg.2.1
    · exact hg.2.2 i hi
  have h14 : (fp_wr (g_rowi M 50 52 63) 49 14 0) 49 14 = nI 0 := fp_wr_eq
  have ht : g_tl (pg_t0 M) z 0 := g_nx_tl0 hg' h14 (Nat.zero_le z)
  have hn : pg_t0 M 50 0 = nI c := (g_nx_o (by decide)).trans hc
  obtain ⟨c', l1, l2⟩ := pg_item_n hn hc8
  have hz1 := hg.1
  refine fp_ok [some (.ref 49), none, none] ?_
  refine r_aloadn dX6_text_0 rfl (by decide) ?_
  refine r_getfr dX6_text_1 kf_RX6_7 rfl rfl ?_
  refine r_aloadn dX6_text_4 rfl (by decide) ?_
  refine r_getfr dX6_text_5 kf_RX6_16 rfl rfl ?_
  refine c_S2v (μz := mX6_copyRow) dX6_text_8 kl_RX6_243 ms_X6_copyRow (ok_X6_copyRow (a := 50) (b := 52) rfl rfl (by decide) (by decide) (by decide)) ?_
  refine r_aloadn dX6_text_11 rfl (by decide) ?_
  refine r_ic (0) dX6_text_12 ?_
  refine r_putfi dX6_text_13 kf_RX6_168 rfl rfl ?_
  refine r_aloadn dX6_text_16 rfl (by decide) ?_
  refine c_V0v (μz := mX6_nextToken) dX6_text_17 kl_RX6_213 mv_X6_nextToken rfl (ok_X6_nextToken hg' h14 (Nat.zero_le z)) ?_
  refine r_ic (1) dX6_text_20 ?_
  refine r_istore1 dX6_text_21 ?_
  refine r_aloadn dX6_text_22 rfl (by decide) ?_
  refine c_V0 (μz := mX6_itemHere) dX6_text_23 kl_RX6_247 mv_X6_itemHere rfl (ok_X6_itemHere (M := pg_t0 M) ht.tp hn hc8) ?_
  refine r_istore2 dX6_text_26 ?_
  exact lp_X6_text 122 1 _ _ 0 c' (pg_item_tl ht) (by omega) (pg_item_01 _ _) l1 l2
