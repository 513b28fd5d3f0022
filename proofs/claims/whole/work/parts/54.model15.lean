/-! ===== the other one: dearest ===== -/
def g_dv (M : fp_M) (c : Nat) (set : Int32) (i : Nat) : Int32 := if g_wout M c set i then (k_allw (g_wid (g_cm M c (k_wo set i)))) else -1
def g_dear (M : fp_M) (c : Nat) (set : Int32) (i : Nat) (s : Int32 × Int32) : Int32 × Int32 := if s.2 < g_dv M c set i then (nI i, g_dv M c set i) else s
abbrev g_db (M : fp_M) (b : Int32) : fp_M := if 0 ≤ b then M else g_fd M 3
theorem g_db_e {M N : fp_M} {b : Int32} (h : g_e M N) : g_e (g_db M b) (g_db N b) := by
  unfold g_db
  by_cases q : 0 ≤ b
  · rw [if_pos q, if_pos q]
    exact h
  · rw [if_neg q, if_neg q]
    exact h.fd
def sg_dearest (M : fp_M) (c : Nat) : Int32 × fp_M := if g_hold M c (g_cn M c) then ((if 0 ≤ (k_it (g_dear M c (g_cn M c)) c 0 (-1, -1)).1 then (k_it (g_dear M c (g_cn M c)) c 0 (-1, -1)).1 else -1000004), g_db M (k_it (g_dear M c (g_cn M c)) c 0 (-1, -1)).1) else (-1000004, g_fd M 3)
theorem lp_X6_dearest {X : fp_X} {M : fp_M} {c : Nat} {set : Int32} (hw : g_wf M c) : ∀ (n i : Nat), i + n = c → ∀ (N : fp_M) (s : Int32 × Int32) (w5 : Option Value) (w6 : Option Value), (g_e M N) → fp_W X mX6_dearest 28 [some (.ref 49), some (.int set), some (.int s.1), some (.int s.2), some (.int (nI i)), w5, w6] [] fp_sh N 0 0 (fun r sh m => r = some (.int (if 0 ≤ (k_it (g_dear M c set) n i s).1 then (k_it (g_dear M c set) n i s).1 else -1000004)) ∧ sh = fp_sh ∧ g_e (g_db M (k_it (g_dear M c set) n i s).1) m) := by
  intro n
  induction n with
  | zero =>
    intro i hi N  s  w5  w6  hinv
    have h8 := hw.1
    have ti : (nI i).toInt = (i : Int) := nI_toInt (by omega)
    have tc : (N 50 0).toInt = (c : Int) := by rw [hinv.r50, hw.2.1]; exact nI_toInt (by omega)
    refine r_iload dX6_dearest_28 rfl ?_
    refine r_aloadn dX6_dearest_30 rfl (by decide) ?_
    refine r_getfr dX6_dearest_31 kf_RX6_7 rfl rfl ?_
    refine r_ic (0) dX6_dearest_34 ?_
    refine r_ialdL dX6_dearest_35 rfl rfl (by decide) ?_
    refine r_icmp_ge 118 dX6_dearest_36 (fun h36 => ?_) (fun h36 => ?_)
    · refine r_aloadn dX6_dearest_118 rfl (by decide) ?_
      refine r_iloadn dX6_dearest_119 rfl ?_
      refine c_V1 (μz := mX6_orNone) dX6_dearest_120 kl_RX6_153 mv_X6_orNone rfl ok_X6_orNone ?_
      exact r_iret dX6_dearest_123 ⟨rfl, rfl, g_db_e hinv⟩
    · exfalso; simp only [Int32.le_iff_toInt_le, Int32.lt_iff_toInt_lt, Int32.reduceToInt] at h36; omega
  | succ n ih =>
    intro i hi N  s  w5  w6  hinv
    have h8 := hw.1
    have ti : (nI i).toInt = (i : Int) := nI_toInt (by omega)
    have tc : (N 50 0).toInt = (c : Int) := by rw [hinv.r50, hw.2.1]; exact nI_toInt (by omega)
    refine r_iload dX6_dearest_28 rfl ?_
    refine r_aloadn dX6_dearest_30 rfl (by decide) ?_
    refine r_getfr dX6_dearest_31 kf_RX6_7 rfl rfl ?_
    refine r_ic (0) dX6_dearest_34 ?_
    refine r_ialdL dX6_dearest_35 rfl rfl (by decide) ?_
    refine r_icmp_ge 118 dX6_dearest_36 (fun h36 => ?_) (fun h36 => ?_)
    · exfalso; simp only [Int32.le_iff_toInt_le, Int32.lt_iff_toInt_lt, Int32.reduceToInt] at h36; omega
    · refine r_iloadn dX6_dearest_39 rfl ?_
      refine r_iload dX6_dearest_40 rfl ?_
      refine r_ishr dX6_dearest_42 ?_
      refine r_ic (1) dX6_dearest_43 ?_
      refine r_iand dX6_dearest_44 ?_
      refine r_ic (1) dX6_dearest_45 ?_
      refine r_icmp_ne 68 dX6_dearest_46 (fun h46 => ?_) (fun h46 => ?_)
      · refine r_ic (0) dX6_dearest_68 ?_
        refine r_istore5 dX6_dearest_69 ?_
        refine r_iload dX6_dearest_71 rfl ?_
        refine r_if_eq 83 dX6_dearest_73 (fun h73 => ?_) (fun h73 => ?_)
        · refine r_ic (-1) dX6_dearest_83 ?_
          refine r_istore6 dX6_dearest_84 ?_
          refine r_iload dX6_dearest_86 rfl ?_
          refine r_iloadn dX6_dearest_88 rfl ?_
          refine r_icmp_le 97 dX6_dearest_89 (fun h89 => ?_) (fun h89 => ?_)
          · refine r_iloadn dX6_dearest_97 rfl ?_
            refine r_istore2 dX6_dearest_98 ?_
            refine r_iload dX6_dearest_99 rfl ?_
            refine r_iloadn dX6_dearest_101 rfl ?_
            refine r_icmp_le 110 dX6_dearest_102 (fun h102 => ?_) (fun h102 => ?_)
            · refine r_iloadn dX6_dearest_110 rfl ?_
              refine r_istore3 dX6_dearest_111 ?_
              refine r_iinc4 (1) dX6_dearest_112 ?_
              refine r_goto 28 dX6_dearest_115 ?_
              have ev : g_dv M c set i = -1 := by unfold g_dv; rw [if_neg (fun q => h46 q.1)]
              have ed : g_dear M c set i s = s := by unfold g_dear; rw [ev, if_neg (Int32.not_lt.mpr h89)]
              rw [nI_1, k_it_s, ed]
              exact ih (i + 1) (by omega) _ s _ _ hinv
            · exact absurd h89 h102
          · refine r_iload dX6_dearest_92 rfl ?_
            refine r_goto 98 dX6_dearest_94 ?_
            refine r_istore2 dX6_dearest_98 ?_
            refine r_iload dX6_dearest_99 rfl ?_
            refine r_iloadn dX6_dearest_101 rfl ?_
            refine r_icmp_le 110 dX6_dearest_102 (fun h102 => ?_) (fun h102 => ?_)
            · exact absurd h102 h89
            · refine r_iload dX6_dearest_105 rfl ?_
              refine r_goto 111 dX6_dearest_107 ?_
              refine r_istore3 dX6_dearest_111 ?_
              refine r_iinc4 (1) dX6_dearest_112 ?_
              refine r_goto 28 dX6_dearest_115 ?_
              have ev : g_dv M c set i = -1 := by unfold g_dv; rw [if_neg (fun q => h46 q.1)]
              have ed : g_dear M c set i s = (nI i, (-1)) := by unfold g_dear; rw [ev, if_pos (Int32.not_le.mp h89)]
              rw [nI_1, k_it_s, ed]
              exact ih (i + 1) (by omega) _ (nI i, (-1)) _ _ hinv
        · exact absurd rfl h73
      · refine r_aloadn dX6_dearest_49 rfl (by decide) ?_
        refine r_iloadn dX6_dearest_50 rfl ?_
        refine r_ic (1) dX6_dearest_51 ?_
        refine r_iload dX6_dearest_52 rfl ?_
        refine r_ishl dX6_dearest_54 ?_
        refine r_ic (-1) dX6_dearest_55 ?_
        refine r_ixor dX6_dearest_56 ?_
        refine r_iand dX6_dearest_57 ?_
        refine c_V1 (μz := mX6_canHold) dX6_dearest_58 kl_RX6_122 mv_X6_canHold rfl (ok_X6_canHold (hinv.wf hw)) ?_
        rw [g_cm_eq hinv]
        refine r_if_eq 68 dX6_dearest_61 (fun h61 => ?_) (fun h61 => ?_)
        · refine r_ic (0) dX6_dearest_68 ?_
          refine r_istore5 dX6_dearest_69 ?_
          refine r_iload dX6_dearest_71 rfl ?_
          refine r_if_eq 83 dX6_dearest_73 (fun h73 => ?_) (fun h73 => ?_)
          · refine r_ic (-1) dX6_dearest_83 ?_
            refine r_istore6 dX6_dearest_84 ?_
            refine r_iload dX6_dearest_86 rfl ?_
            refine r_iloadn dX6_dearest_88 rfl ?_
            refine r_icmp_le 97 dX6_dearest_89 (fun h89 => ?_) (fun h89 => ?_)
            · refine r_iloadn dX6_dearest_97 rfl ?_
              refine r_istore2 dX6_dearest_98 ?_
              refine r_iload dX6_dearest_99 rfl ?_
              refine r_iloadn dX6_dearest_101 rfl ?_
              refine r_icmp_le 110 dX6_dearest_102 (fun h102 => ?_) (fun h102 => ?_)
              · refine r_iloadn dX6_dearest_110 rfl ?_
                refine r_istore3 dX6_dearest_111 ?_
                refine r_iinc4 (1) dX6_dearest_112 ?_
                refine r_goto 28 dX6_dearest_115 ?_
                have ev : g_dv M c set i = -1 := by unfold g_dv; rw [if_neg (fun q => q.2 h61)]
                have ed : g_dear M c set i s = s := by unfold g_dear; rw [ev, if_neg (Int32.not_lt.mpr h89)]
                rw [nI_1, k_it_s, ed]
                exact ih (i + 1) (by omega) _ s _ _ (g_cm_e (set := k_wo set i) hw)
              · exact absurd h89 h102
            · refine r_iload dX6_dearest_92 rfl ?_
              refine r_goto 98 dX6_dearest_94 ?_
              refine r_istore2 dX6_dearest_98 ?_
              refine r_iload dX6_dearest_99 rfl ?_
              refine r_iloadn dX6_dearest_101 rfl ?_
              refine r_icmp_le 110 dX6_dearest_102 (fun h102 => ?_) (fun h102 => ?_)
              · exact absurd h102 h89
              · refine r_iload dX6_dearest_105 rfl ?_
                refine r_goto 111 dX6_dearest_107 ?_
                refine r_istore3 dX6_dearest_111 ?_
                refine r_iinc4 (1) dX6_dearest_112 ?_
                refine r_goto 28 dX6_dearest_115 ?_
                have ev : g_dv M c set i = -1 := by unfold g_dv; rw [if_neg (fun q => q.2 h61)]
                have ed : g_dear M c set i s = (nI i, (-1)) := by unfold g_dear; rw [ev, if_pos (Int32.not_le.mp h89)]
                rw [nI_1, k_it_s, ed]
                exact ih (i + 1) (by omega) _ (nI i, (-1)) _ _ (g_cm_e (set := k_wo set i) hw)
          · exact absurd rfl h73
        · refine r_ic (1) dX6_dearest_64 ?_
          refine r_goto 69 dX6_dearest_65 ?_
          refine r_istore5 dX6_dearest_69 ?_
          refine r_iload dX6_dearest_71 rfl ?_
          refine r_if_eq 83 dX6_dearest_73 (fun h73 => ?_) (fun h73 => ?_)
          · exact absurd h73 (by decide)
          · refine r_aloadn dX6_dearest_76 rfl (by decide) ?_
            refine c_V0 (μz := mX6_spans) dX6_dearest_77 kl_RX6_133 mv_X6_spans rfl ok_X6_spans ?_
            refine r_goto 84 dX6_dearest_80 ?_
            refine r_istore6 dX6_dearest_84 ?_
            refine r_iload dX6_dearest_86 rfl ?_
            refine r_iloadn dX6_dearest_88 rfl ?_
            refine r_icmp_le 97 dX6_dearest_89 (fun h89 => ?_) (fun h89 => ?_)
            · refine r_iloadn dX6_dearest_97 rfl ?_
              refine r_istore2 dX6_dearest_98 ?_
              refine r_iload dX6_dearest_99 rfl ?_
              refine r_iloadn dX6_dearest_101 rfl ?_
              refine r_icmp_le 110 dX6_dearest_102 (fun h102 => ?_) (fun h102 => ?_)
              · refine r_iloadn dX6_dearest_110 rfl ?_
                refine r_istore3 dX6_dearest_111 ?_
                refine r_iinc4 (1) dX6_dearest_112 ?_
                refine r_goto 28 dX6_dearest_115 ?_
                have ev : g_dv M c set i = (k_allw (g_wid (g_cm M c (k_wo set i)))) := by unfold g_dv; rw [if_pos ⟨h46, h61⟩]
                have ed : g_dear M c set i s = s := by unfold g_dear; rw [ev, if_neg (Int32.not_lt.mpr h89)]
                rw [nI_1, k_it_s, ed]
                exact ih (i + 1) (by omega) _ s _ _ (g_cm_e (set := k_wo set i) hw)
              · exact absurd h89 h102
            · refine r_iload dX6_dearest_92 rfl ?_
              refine r_goto 98 dX6_dearest_94 ?_
              refine r_istore2 dX6_dearest_98 ?_
              refine r_iload dX6_dearest_99 rfl ?_
              refine r_iloadn dX6_dearest_101 rfl ?_
              refine r_icmp_le 110 dX6_dearest_102 (fun h102 => ?_) (fun h102 => ?_)
              · exact absurd h102 h89
              · refine r_iload dX6_dearest_105 rfl ?_
                refine r_goto 111 dX6_dearest_107 ?_
                refine r_istore3 dX6_dearest_111 ?_
                refine r_iinc4 (1) dX6_dearest_112 ?_
                refine r_goto 28 dX6_dearest_115 ?_
                have ev : g_dv M c set i = (k_allw (g_wid (g_cm M c (k_wo set i)))) := by unfold g_dv; rw [if_pos ⟨h46, h61⟩]
                have ed : g_dear M c set i s = (nI i, (k_allw (g_wid (g_cm M c (k_wo set i))))) := by unfold g_dear; rw [ev, if_pos (Int32.not_le.mp h89)]
                rw [nI_1, k_it_s, ed]
                exact ih (i + 1) (by omega) _ (nI i, (k_allw (g_wid (g_cm M c (k_wo set i))))) _ _ (g_cm_e (set := k_wo set i) hw)

theorem ok_X6_dearest {X : fp_X} {M : fp_M} {c : Nat} (hw : g_wf M c) : fp_Ok X mX6_dearest [.ref 49] fp_sh M (fun r s m => r = some (.int (sg_dearest M c).1) ∧ s = fp_sh ∧ g_e (sg_dearest M c).2 m) := by
  refine fp_ok [some (.ref 49), none, none, none, none, none, none] ?_
  refine r_aloadn dX6_dearest_0 rfl (by decide) ?_
  refine r_ic (0) dX6_dearest_1 ?_
  refine c_V1 (μz := mX6_countIn) dX6_dearest_2 kl_RX6_96 mv_X6_countIn rfl (ok_X6_countIn hw) ?_
  refine r_istore1 dX6_dearest_5 ?_
  refine r_aloadn dX6_dearest_6 rfl (by decide) ?_
  refine r_iloadn dX6_dearest_7 rfl ?_
  refine c_V1 (μz := mX6_canHold) dX6_dearest_8 kl_RX6_122 mv_X6_canHold rfl (ok_X6_canHold hw) ?_
  refine r_if_ne 21 dX6_dearest_11 (fun h11 => ?_) (fun h11 => ?_)
  · refine r_ic (-1) dX6_dearest_21 ?_
    refine r_istore2 dX6_dearest_22 ?_
    refine r_ic (-1) dX6_dearest_23 ?_
    refine r_istore3 dX6_dearest_24 ?_
    refine r_ic (0) dX6_dearest_25 ?_
    refine r_istore4 dX6_dearest_26 ?_
    unfold sg_dearest
    rw [if_pos h11]
    exact lp_X6_dearest hw c 0 (by omega) _ (-1, -1) _ _ (g_cm_e hw)
  · refine r_aloadn dX6_dearest_14 rfl (by decide) ?_
    refine r_ldc dX6_dearest_15 kc_RX6_46 ?_
    refine c_V1 (μz := mX6_finds) dX6_dearest_17 kl_RX6_47 mv_X6_finds rfl (ok_X6_finds (w := 3) (by decide) (by decide)) ?_
    exact r_iret dX6_dearest_20 ⟨by unfold sg_dearest; rw [if_neg (fun q => q h11)], rfl, by unfold sg_dearest; rw [if_neg (fun q => q h11)]; exact (g_cm_e hw).fd⟩
