/-! ===== the other one: draws, the tape fed, sheets ===== -/
theorem g_wf.wj {M : fp_M} {c j : Nat} {v : Int32} (h : g_wf M c) (h0 : ¬ j = 0) (hj : ∀ i, i < c → ¬ j = 5 + 6 * i + 1 ∧ ¬ j = 5 + 6 * i + 2) (h5 : ∀ i, i < c → j = 5 + 6 * i + 5 → v = 1) : g_wf (fp_wr M 50 j v) c := by
  have e : ∀ i, ¬ i = j → fp_wr M 50 j v 50 i = M 50 i := fun i hi => fp_wr_ne2 hi
  obtain ⟨h1, h2, h3⟩ := h
  refine ⟨h1, (e 0 (fun q => h0 q.symm)).trans h2, fun i hi => ?_⟩
  obtain ⟨f, t, a1, a2, a3, a4, a5⟩ := h3 i hi
  refine ⟨f, t, a1, a2, (e _ (fun q => (hj i hi).1 q.symm)).trans a3, (e _ (fun q => (hj i hi).2 q.symm)).trans a4, ?_⟩
  by_cases q : 5 + 6 * i + 5 = j
  · have q2 := h5 i hi q.symm
    subst q2
    rw [← q, fp_wr_eq]
    exact Or.inr rfl
  · rw [e _ q]
    exact a5
def g_lose (_ : Nat) (N : fp_M) : fp_M := if g_let N (k_r16 (k_zd (N 50 4))) then fp_wr (fp_wr N 50 4 (k_zn (N 50 4))) 50 (5 + 6 * k_v (k_r16 (k_zd (N 50 4))) + 5) 1 else fp_wr N 50 4 (k_zn (N 50 4))
def sg_loses (M : fp_M) (c : Nat) (n : Int32) : Int32 × fp_M := if 1 ≤ n ∧ n ≤ 20 then (k_bc (nI (g_str (k_it g_lose (k_v n) 0 M) c)), k_it g_lose (k_v n) 0 M) else (-1000001, g_fd M 0)
theorem g_wf.z {M : fp_M} {c : Nat} {v : Int32} (h : g_wf M c) : g_wf (fp_wr M 50 4 v) c := h.wj (by decide) (fun i _ => ⟨by omega, by omega⟩) (fun i _ q => by omega)
theorem g_wf.st {M : fp_M} {c l : Nat} (h : g_wf M c) : g_wf (fp_wr M 50 (5 + 6 * l + 5) 1) c := h.wj (by omega) (fun i _ => ⟨by omega, by omega⟩) (fun i _ q => rfl)
theorem g_z0 {N : fp_M} {v : Int32} : fp_wr N 50 4 v 50 0 = N 50 0 := fp_wr_ne2 (by decide)
theorem g_z4 {N : fp_M} {v : Int32} : fp_wr N 50 4 v 50 4 = v := fp_wr_eq
theorem lp_X6_loses {X : fp_X} {c m : Nat} (hm : m ≤ 20) : ∀ (n i : Nat), i + n = m → ∀ (N : fp_M) (w3 : Option Value), (g_wf N c) → fp_W X mX6_loses 21 [some (.ref 49), some (.int (nI m)), some (.int (nI i)), w3] [] fp_sh N 0 0 (fun r s m => r = some (.int (k_bc (nI (g_str (k_it g_lose n i N) c)))) ∧ s = fp_sh ∧ m = k_it g_lose n i N) := by
  intro n
  induction n with
  | zero =>
    intro i hi N  w3  hinv
    have ti : (nI i).toInt = (i : Int) := nI_toInt (by omega)
    have h8 := hinv.1
    have tm : (nI m).toInt = (m : Int) := nI_toInt (by omega)
    have p8 := g_p8 hinv.1
    refine r_iloadn dX6_loses_21 rfl ?_
    refine r_iloadn dX6_loses_22 rfl ?_
    refine r_icmp_ge 86 dX6_loses_23 (fun h23 => ?_) (fun h23 => ?_)
    · refine r_aloadn dX6_loses_86 rfl (by decide) ?_
      refine c_V0 (μz := mX6_strucks) dX6_loses_87 kl_RX6_61 mv_X6_strucks rfl (ok_X6_strucks hinv) ?_
      refine c_S1 (μz := mX6_many) dX6_loses_90 kl_RX6_147 ms_X6_many (ok_X6_many (Nat.lt_of_lt_of_le (k_bn_lt _ c) p8)) ?_
      exact r_iret dX6_loses_93 ⟨rfl, rfl, rfl⟩
    · exfalso; simp only [Int32.le_iff_toInt_le, Int32.lt_iff_toInt_lt, Int32.reduceToInt] at h23; omega
  | succ n ih =>
    intro i hi N  w3  hinv
    have ti : (nI i).toInt = (i : Int) := nI_toInt (by omega)
    have h8 := hinv.1
    have tm : (nI m).toInt = (m : Int) := nI_toInt (by omega)
    have p8 := g_p8 hinv.1
    refine r_iloadn dX6_loses_21 rfl ?_
    refine r_iloadn dX6_loses_22 rfl ?_
    refine r_icmp_ge 86 dX6_loses_23 (fun h23 => ?_) (fun h23 => ?_)
    · exfalso; simp only [Int32.le_iff_toInt_le, Int32.lt_iff_toInt_lt, Int32.reduceToInt] at h23; omega
    · refine r_aloadn dX6_loses_26 rfl (by decide) ?_
      refine r_getfr dX6_loses_27 kf_RX6_7 rfl rfl ?_
      refine r_ic (4) dX6_loses_30 ?_
      refine r_aloadn dX6_loses_31 rfl (by decide) ?_
      refine r_getfr dX6_loses_32 kf_RX6_7 rfl rfl ?_
      refine r_ic (4) dX6_loses_35 ?_
      refine r_ialdL dX6_loses_36 rfl rfl (by decide) ?_
      refine r_ldc dX6_loses_37 kc_RX6_158 ?_
      refine r_imul dX6_loses_39 ?_
      refine r_sp (12345) dX6_loses_40 ?_
      refine r_iadd dX6_loses_43 ?_
      refine r_iastL dX6_loses_44 rfl rfl (by decide) ?_
      refine r_aloadn dX6_loses_45 rfl (by decide) ?_
      refine r_getfr dX6_loses_46 kf_RX6_7 rfl rfl ?_
      refine r_ic (4) dX6_loses_49 ?_
      refine r_ialdL dX6_loses_50 rfl rfl (by decide) ?_
      rw [g_z4]
      refine r_bp (8) dX6_loses_51 ?_
      refine r_iushr dX6_loses_53 ?_
      refine r_bp (16) dX6_loses_54 ?_
      refine r_irem dX6_loses_56 (by decide) ?_
      refine r_istore3 dX6_loses_57 ?_
      refine r_aloadn dX6_loses_58 rfl (by decide) ?_
      refine r_iloadn dX6_loses_59 rfl ?_
      refine c_V1 (μz := mX6_isLetter) dX6_loses_60 kl_RX6_85 mv_X6_isLetter rfl ok_X6_isLetter ?_
      refine r_if_eq 80 dX6_loses_63 (fun h63 => ?_) (fun h63 => ?_)
      · refine r_iinc2 (1) dX6_loses_80 ?_
        refine r_goto 21 dX6_loses_83 ?_
        rw [nI_1, k_it_s]
        rw [show g_lose i N = fp_wr N 50 4 (k_zn (N 50 4)) from by unfold g_lose; rw [if_neg (fun q => bi_0.mp h63 (by rw [g_z0]; exact q))]]
        exact ih (i + 1) (by omega) _ _ hinv.z
      · have hv : g_let N (k_r16 (k_zd (N 50 4))) := by have q := bi_1.mp h63; rw [g_z0] at q; exact q
        obtain ⟨el, ll⟩ := g_vl hinv hv
        refine r_aloadn dX6_loses_66 rfl (by decide) ?_
        refine r_getfr dX6_loses_67 kf_RX6_7 rfl rfl ?_
        refine r_ic (5) dX6_loses_70 ?_
        refine r_bp (6) dX6_loses_71 ?_
        refine r_iloadn dX6_loses_73 rfl ?_
        refine r_imul dX6_loses_74 ?_
        refine r_iadd dX6_loses_75 ?_
        refine r_ic (5) dX6_loses_76 ?_
        refine r_iadd dX6_loses_77 ?_
        refine r_ic (1) dX6_loses_78 ?_
        refine r_iastL (j := 5 + 6 * k_v (k_r16 (k_zd (N 50 4))) + 5) dX6_loses_79 rfl ((congrArg (fun x : Int32 => 5 + 6 * x + 5) el).trans (g_i _ (by omega) 5 (by decide))) ⟨by omega, by decide⟩ ?_
        refine r_iinc2 (1) dX6_loses_80 ?_
        refine r_goto 21 dX6_loses_83 ?_
        rw [nI_1, k_it_s]
        rw [show g_lose i N = fp_wr (fp_wr N 50 4 (k_zn (N 50 4))) 50 (5 + 6 * k_v (k_r16 (k_zd (N 50 4))) + 5) 1 from by unfold g_lose; rw [if_pos hv]]
        exact ih (i + 1) (by omega) _ _ hinv.z.st

theorem ok_X6_loses {X : fp_X} {M : fp_M} {c : Nat} {n : Int32} (hw : g_wf M c): fp_Ev X mX6_loses [.ref 49, .int n] fp_sh M (some (.int (sg_loses M c n).1)) (sg_loses M c n).2 := by
  refine fp_ok [some (.ref 49), some (.int n), none, none] ?_
  refine r_iloadn dX6_loses_0 rfl ?_
  refine r_i2l dX6_loses_1 ?_
  refine r_lc 1 dX6_loses_2 ?_
  refine r_ldc2 dX6_loses_3 kc_RX6_156 ?_
  refine c_S3 (μz := mX6_isIn) dX6_loses_6 kl_RX6_42 ms_X6_isIn (ok_X6_in (lo := 1) (hi := 20) (by decide) (by decide)) ?_
  refine r_if_ne 19 dX6_loses_9 (fun h9 => ?_) (fun h9 => ?_)
  · obtain ⟨m, hm, rfl⟩ := k_rng (N := 20) rfl ⟨Int32.le_trans (by decide) (bi_1.mp h9).1, (bi_1.mp h9).2⟩
    have em : k_v (nI m) = m := nI_clamp (by omega)
    refine r_ic (0) dX6_loses_19 ?_
    refine r_istore2 dX6_loses_20 ?_
    have e2 : sg_loses M c (nI m) = (k_bc (nI (g_str (k_it g_lose m 0 M) c)), k_it g_lose m 0 M) := by
      unfold sg_loses
      rw [if_pos (bi_1.mp h9), em]
    rw [e2]
    exact lp_X6_loses hm m 0 (by omega) M none hw
  · refine r_aloadn dX6_loses_12 rfl (by decide) ?_
    refine r_ldc dX6_loses_13 kc_RX6_37 ?_
    refine c_V1 (μz := mX6_finds) dX6_loses_15 kl_RX6_47 mv_X6_finds rfl (ok_X6_finds (w := 0) (by decide) (by decide)) ?_
    exact r_iret dX6_loses_18 ⟨by unfold sg_loses; rw [if_neg (bi_0.mp h9)], rfl, by unfold sg_loses; rw [if_neg (bi_0.mp h9)]⟩
def g_app (N : fp_M) (v : Int32) : fp_M := fp_wr (fp_wr N 54 (k_v (N 49 6)) v) 49 6 (N 49 6 + 1)
def g_feed (b : Int32) : Nat → fp_M → fp_M
  | 0, N => N
  | i + 1, N => g_feed b i (g_app N ((b >>> (8 * nI i &&& 31)) &&& 255))
def sg_feed (M : fp_M) (b n : Int32) : Int32 × fp_M := if 1 ≤ n ∧ n ≤ 4 then (if M 49 6 + n ≤ 120 then (g_feed b (k_v n) M 49 6, g_feed b (k_v n) M) else (-1000002, g_fd M 1)) else (-1000001, g_fd M 0)
theorem lp_X6_feed {X : fp_X} {b nn : Int32} : ∀ (n z : Nat) (N : fp_M), n ≤ 4 → N 49 6 = nI z → z + n ≤ 120 → fp_W X mX6_feed 41 [some (.ref 49), some (.int b), some (.int nn), some (.int (nI n - 1))] [] fp_sh N 0 0 (fun r s m => r = some (.int (g_feed b n N 49 6)) ∧ s = fp_sh ∧ m = g_feed b n N) := by
  intro n
  induction n with
  | zero =>
    intro z N h4 hz hz1
    refine r_iloadn dX6_feed_41 rfl ?_
    refine r_if_lt 80 dX6_feed_42 (fun h42 => ?_) (fun h42 => ?_)
    · refine r_aloadn dX6_feed_80 rfl (by decide) ?_
      refine r_getfi dX6_feed_81 kf_RX6_165 rfl rfl ?_
      exact r_iret dX6_feed_84 ⟨rfl, rfl, rfl⟩
    · exact absurd (by decide) h42
  | succ n ih =>
    intro z N h4 hz hz1
    have ez : k_v (N 49 6) = z := by show (N 49 6).toNatClampNeg = z; rw [hz]; exact nI_clamp (by omega)
    rw [nI_pred]
    refine r_iloadn dX6_feed_41 rfl ?_
    refine r_if_lt 80 dX6_feed_42 (fun h42 => ?_) (fun h42 => ?_)
    · exact absurd h42 (nI_pos (by omega))
    · refine r_aloadn dX6_feed_45 rfl (by decide) ?_
      refine r_getfr dX6_feed_46 kf_RX6_22 rfl rfl ?_
      refine r_aloadn dX6_feed_49 rfl (by decide) ?_
      refine r_getfi dX6_feed_50 kf_RX6_165 rfl rfl ?_
      refine r_iloadn dX6_feed_53 rfl ?_
      refine r_bp (8) dX6_feed_54 ?_
      refine r_iloadn dX6_feed_56 rfl ?_
      refine r_imul dX6_feed_57 ?_
      refine r_ishr dX6_feed_58 ?_
      refine r_sp (255) dX6_feed_59 ?_
      refine r_iand dX6_feed_62 ?_
      refine r_iastL (j := z) dX6_feed_63 rfl hz ⟨by omega, by decide⟩ ?_
      refine r_aloadn dX6_feed_64 rfl (by decide) ?_
      refine r_dup dX6_feed_65 ?_
      refine r_getfi dX6_feed_66 kf_RX6_165 rfl rfl ?_
      refine r_ic (1) dX6_feed_69 ?_
      refine r_iadd dX6_feed_70 ?_
      refine r_putfi dX6_feed_71 kf_RX6_165 rfl rfl ?_
      refine r_iinc3 (-1) dX6_feed_74 ?_
      refine r_goto 41 dX6_feed_77 ?_
      have e0 : nI n + -1 = nI n - 1 := by rw [Int32.sub_eq_add_neg]
      rw [e0]
      have e1 : fp_wr (fp_wr N 54 z ((b >>> (8 * nI n &&& 31)) &&& 255)) 49 6 (fp_wr N 54 z ((b >>> (8 * nI n &&& 31)) &&& 255) 49 6 + 1) = g_app N ((b >>> (8 * nI n &&& 31)) &&& 255) := by unfold g_app; rw [ez, fp_wr_ne (by decide)]
      rw [e1]
      exact ih (z + 1) _ (by omega) (by unfold g_app; rw [hz, nI_1]; exact fp_wr_eq) (by omega)
theorem ok_X6_feed {X : fp_X} {M : fp_M} {z : Nat} {b n : Int32} (ht : M 49 6 = nI z) (hz : z ≤ 120): fp_Ev X mX6_feed [.ref 49, .int b, .int n] fp_sh M (some (.int (sg_feed M b n).1)) (sg_feed M b n).2 := by
  refine fp_ok [some (.ref 49), some (.int b), some (.int n), none] ?_
  refine r_iloadn dX6_feed_0 rfl ?_
  refine r_i2l dX6_feed_1 ?_
  refine r_lc 1 dX6_feed_2 ?_
  refine r_ldc2 dX6_feed_3 kc_RX6_163 ?_
  refine c_S3 (μz := mX6_isIn) dX6_feed_6 kl_RX6_42 ms_X6_isIn (ok_X6_in (lo := 1) (hi := 4) (by decide) (by decide)) ?_
  refine r_if_ne 19 dX6_feed_9 (fun h9 => ?_) (fun h9 => ?_)
  · obtain ⟨m, hm, rfl⟩ := k_rng (N := 4) rfl ⟨Int32.le_trans (by decide) (bi_1.mp h9).1, (bi_1.mp h9).2⟩
    have em : k_v (nI m) = m := nI_clamp (by omega)
    refine r_aloadn dX6_feed_19 rfl (by decide) ?_
    refine r_getfi dX6_feed_20 kf_RX6_165 rfl rfl ?_
    refine r_iloadn dX6_feed_23 rfl ?_
    refine r_iadd dX6_feed_24 ?_
    refine r_bp (120) dX6_feed_25 ?_
    refine r_icmp_le 37 dX6_feed_27 (fun h27 => ?_) (fun h27 => ?_)
    · refine r_iloadn dX6_feed_37 rfl ?_
      refine r_ic (1) dX6_feed_38 ?_
      refine r_isub dX6_feed_39 ?_
      refine r_istore3 dX6_feed_40 ?_
      have e2 : sg_feed M b (nI m) = (g_feed b m M 49 6, g_feed b m M) := by
        unfold sg_feed
        rw [if_pos (bi_1.mp h9), if_pos h27, em]
      rw [e2]
      exact lp_X6_feed m z M (by omega) ht (by have q := h27; rw [ht, nI_add] at q; exact (nI_leI (b := 120) (by omega) (by decide)).mp q)
    · refine r_aloadn dX6_feed_30 rfl (by decide) ?_
      refine r_ldc dX6_feed_31 kc_RX6_80 ?_
      refine c_V1 (μz := mX6_finds) dX6_feed_33 kl_RX6_47 mv_X6_finds rfl (ok_X6_finds (w := 1) (by decide) (by decide)) ?_
      exact r_iret dX6_feed_36 ⟨by unfold sg_feed; rw [if_pos (bi_1.mp h9), if_neg h27], rfl, by unfold sg_feed; rw [if_pos (bi_1.mp h9), if_neg h27]⟩
  · refine r_aloadn dX6_feed_12 rfl (by decide) ?_
    refine r_ldc dX6_feed_13 kc_RX6_37 ?_
    refine c_V1 (μz := mX6_finds) dX6_feed_15 kl_RX6_47 mv_X6_finds rfl (ok_X6_finds (w := 0) (by decide) (by decide)) ?_
    exact r_iret dX6_feed_18 ⟨by unfold sg_feed; rw [if_neg (bi_0.mp h9)], rfl, by unfold sg_feed; rw [if_neg (bi_0.mp h9)]⟩
abbrev g_bit (b : Int32) : Prop := b = 0 ∨ b = 8 ∨ b = 16 ∨ b = 32
def g_shw (M : fp_M) (t : Nat) (b n : Int32) : fp_M := k_it (fun k N => fp_wr N 57 (40 * t + k) 0) 40 0 (fp_wr (fp_wr M 55 t (if b = 0 then -1 else b)) 56 t (if b = 0 then 0 else n))
def sg_sheet (M : fp_M) (t b n : Int32) : Int32 × fp_M := if (0 ≤ t ∧ t ≤ 3) ∧ g_bit b then (if 0 ≤ n then (if n ≤ 40 then ((if b = 0 then 0 else n), g_shw M (k_v t) b n) else (-1000001, g_fd M 0)) else (-1000007, g_fd M 6)) else (-1000001, g_fd M 0)
theorem g_57_ne {k : Nat} (hk : ¬ k = 57) (t j : Nat) : ∀ (n i : Nat) (M : fp_M), k_it (fun k N => fp_wr N 57 (40 * t + k) 0) n i M k j = M k j
  | 0, _, _ => rfl
  | n + 1, i, M => by
    rw [k_it_s, g_57_ne hk t j n (i + 1), fp_wr_ne hk]
theorem lp_X6_sheet {X : fp_X} {t b n0 v : Int32} (et : t = nI (k_v t)) (lt : k_v t < 4) : ∀ (n i : Nat), i + n = 40 → ∀ (M : fp_M), (M 56 (k_v t) = v) → fp_W X mX6_sheet 94 [some (.ref 49), some (.int t), some (.int b), some (.int n0), some (.int (nI i))] [] fp_sh M 0 0 (fun r s m => r = some (.int v) ∧ s = fp_sh ∧ m = k_it (fun k N => fp_wr N 57 (40 * k_v t + k) 0) n i M) := by
  intro n
  induction n with
  | zero =>
    intro i hi M  hinv
    have ti : (nI i).toInt = (i : Int) := nI_toInt (by omega)
    refine r_iload dX6_sheet_94 rfl ?_
    refine r_bp (40) dX6_sheet_96 ?_
    refine r_icmp_ge 120 dX6_sheet_98 (fun h98 => ?_) (fun h98 => ?_)
    · refine r_aloadn dX6_sheet_120 rfl (by decide) ?_
      refine r_getfr dX6_sheet_121 kf_RX6_28 rfl rfl ?_
      refine r_iloadn dX6_sheet_124 rfl ?_
      refine r_ialdL (j := k_v t) dX6_sheet_125 rfl et ⟨lt, by decide⟩ ?_
      exact r_iret dX6_sheet_126 ⟨by rw [hinv], rfl, rfl⟩
    · exfalso; simp only [Int32.le_iff_toInt_le, Int32.lt_iff_toInt_lt, Int32.reduceToInt] at h98; omega
  | succ n ih =>
    intro i hi M  hinv
    have ti : (nI i).toInt = (i : Int) := nI_toInt (by omega)
    refine r_iload dX6_sheet_94 rfl ?_
    refine r_bp (40) dX6_sheet_96 ?_
    refine r_icmp_ge 120 dX6_sheet_98 (fun h98 => ?_) (fun h98 => ?_)
    · exfalso; simp only [Int32.le_iff_toInt_le, Int32.lt_iff_toInt_lt, Int32.reduceToInt] at h98; omega
    · refine r_aloadn dX6_sheet_101 rfl (by decide) ?_
      refine r_getfr dX6_sheet_102 kf_RX6_31 rfl rfl ?_
      refine r_bp (40) dX6_sheet_105 ?_
      refine r_iloadn dX6_sheet_107 rfl ?_
      refine r_imul dX6_sheet_108 ?_
      refine r_iload dX6_sheet_109 rfl ?_
      refine r_iadd dX6_sheet_111 ?_
      refine r_ic (0) dX6_sheet_112 ?_
      refine r_iastL (j := 40 * k_v t + i) dX6_sheet_113 rfl ((congrArg (fun x : Int32 => 40 * x + nI i) et).trans (g_40 _ lt i (by omega))) ⟨by omega, by decide⟩ ?_
      refine r_iinc4 (1) dX6_sheet_114 ?_
      refine r_goto 94 dX6_sheet_117 ?_
      rw [nI_1]
      exact ih (i + 1) (by omega) _ (by rw [fp_wr_ne (by decide)]; exact hinv)

theorem ok_X6_sheet {X : fp_X} {M : fp_M} {t b n0 : Int32} : fp_Ev X mX6_sheet [.ref 49, .int t, .int b, .int n0] fp_sh M (some (.int (sg_sheet M t b n0).1)) (sg_sheet M t b n0).2 := by
  refine fp_ok [some (.ref 49), some (.int t), some (.int b), some (.int n0), none] ?_
  refine r_iloadn dX6_sheet_0 rfl ?_
  refine c_S1 (μz := mX6_isSheet) dX6_sheet_1 kl_RX6_255 ms_X6_isSheet ok_X6_isSheet ?_
  refine r_if_eq 29 dX6_sheet_4 (fun h4 => ?_) (fun h4 => ?_)
  · refine r_aloadn dX6_sheet_29 rfl (by decide) ?_
    refine r_ldc dX6_sheet_30 kc_RX6_37 ?_
    refine c_V1 (μz := mX6_finds) dX6_sheet_32 kl_RX6_47 mv_X6_finds rfl (ok_X6_finds (w := 0) (by decide) (by decide)) ?_
    exact r_iret dX6_sheet_35 ⟨by unfold sg_sheet; rw [if_neg (fun q => bi_0.mp h4 q.1)], rfl, by unfold sg_sheet; rw [if_neg (fun q => bi_0.mp h4 q.1)]⟩
  · refine r_iloadn dX6_sheet_7 rfl ?_
    refine r_if_eq 36 dX6_sheet_8 (fun h8 => ?_) (fun h8 => ?_)
    · refine r_iloadn dX6_sheet_36 rfl ?_
      refine r_if_ge 48 dX6_sheet_37 (fun h37 => ?_) (fun h37 => ?_)
      · refine r_iloadn dX6_sheet_48 rfl ?_
        refine r_bp (40) dX6_sheet_49 ?_
        refine r_icmp_le 61 dX6_sheet_51 (fun h51 => ?_) (fun h51 => ?_)
        · obtain ⟨et, lt⟩ := g_v3 (bi_1.mp h4)
          refine r_aloadn dX6_sheet_61 rfl (by decide) ?_
          refine r_getfr dX6_sheet_62 kf_RX6_25 rfl rfl ?_
          refine r_iloadn dX6_sheet_65 rfl ?_
          refine r_iloadn dX6_sheet_66 rfl ?_
          refine r_if_ne 74 dX6_sheet_67 (fun h67 => ?_) (fun h67 => ?_)
          · refine r_iloadn dX6_sheet_74 rfl ?_
            refine r_iastL (j := k_v t) dX6_sheet_75 rfl et ⟨lt, by decide⟩ ?_
            refine r_aloadn dX6_sheet_76 rfl (by decide) ?_
            refine r_getfr dX6_sheet_77 kf_RX6_28 rfl rfl ?_
            refine r_iloadn dX6_sheet_80 rfl ?_
            refine r_iloadn dX6_sheet_81 rfl ?_
            refine r_if_ne 89 dX6_sheet_82 (fun h82 => ?_) (fun h82 => ?_)
            · refine r_iloadn dX6_sheet_89 rfl ?_
              refine r_iastL (j := k_v t) dX6_sheet_90 rfl et ⟨lt, by decide⟩ ?_
              refine r_ic (0) dX6_sheet_91 ?_
              refine r_istore4 dX6_sheet_92 ?_
              have e : sg_sheet M t b n0 = (n0, k_it (fun k N => fp_wr N 57 (40 * k_v t + k) 0) 40 0 (fp_wr (fp_wr M 55 (k_v t) b) 56 (k_v t) n0)) := by
                unfold sg_sheet g_shw
                rw [if_pos ⟨bi_1.mp h4, (Or.inl h8)⟩, if_pos h37, if_pos h51, if_neg h67, if_neg h67]
              rw [e]
              exact lp_X6_sheet et lt 40 0 (by omega) _ fp_wr_eq
            · exact absurd h82 h67
          · refine r_ic (-1) dX6_sheet_70 ?_
            refine r_goto 75 dX6_sheet_71 ?_
            refine r_iastL (j := k_v t) dX6_sheet_75 rfl et ⟨lt, by decide⟩ ?_
            refine r_aloadn dX6_sheet_76 rfl (by decide) ?_
            refine r_getfr dX6_sheet_77 kf_RX6_28 rfl rfl ?_
            refine r_iloadn dX6_sheet_80 rfl ?_
            refine r_iloadn dX6_sheet_81 rfl ?_
            refine r_if_ne 89 dX6_sheet_82 (fun h82 => ?_) (fun h82 => ?_)
            · exact absurd h67 h82
            · refine r_ic (0) dX6_sheet_85 ?_
              refine r_goto 90 dX6_sheet_86 ?_
              refine r_iastL (j := k_v t) dX6_sheet_90 rfl et ⟨lt, by decide⟩ ?_
              refine r_ic (0) dX6_sheet_91 ?_
              refine r_istore4 dX6_sheet_92 ?_
              have e : sg_sheet M t b n0 = (0, k_it (fun k N => fp_wr N 57 (40 * k_v t + k) 0) 40 0 (fp_wr (fp_wr M 55 (k_v t) (-1)) 56 (k_v t) 0)) := by
                unfold sg_sheet g_shw
                rw [if_pos ⟨bi_1.mp h4, (Or.inl h8)⟩, if_pos h37, if_pos h51, if_pos h67, if_pos h67]
              rw [e]
              exact lp_X6_sheet et lt 40 0 (by omega) _ fp_wr_eq
        · refine r_aloadn dX6_sheet_54 rfl (by decide) ?_
          refine r_ldc dX6_sheet_55 kc_RX6_37 ?_
          refine c_V1 (μz := mX6_finds) dX6_sheet_57 kl_RX6_47 mv_X6_finds rfl (ok_X6_finds (w := 0) (by decide) (by decide)) ?_
          exact r_iret dX6_sheet_60 ⟨by unfold sg_sheet; rw [if_pos ⟨bi_1.mp h4, (Or.inl h8)⟩, if_pos h37, if_neg h51], rfl, by unfold sg_sheet; rw [if_pos ⟨bi_1.mp h4, (Or.inl h8)⟩, if_pos h37, if_neg h51]⟩
      · refine r_aloadn dX6_sheet_40 rfl (by decide) ?_
        refine r_ldcw dX6_sheet_41 kc_RX6_258 ?_
        refine c_V1 (μz := mX6_finds) dX6_sheet_44 kl_RX6_47 mv_X6_finds rfl (ok_X6_finds (w := 6) (by decide) (by decide)) ?_
        exact r_iret dX6_sheet_47 ⟨by unfold sg_sheet; rw [if_pos ⟨bi_1.mp h4, (Or.inl h8)⟩, if_neg h37], rfl, by unfold sg_sheet; rw [if_pos ⟨bi_1.mp h4, (Or.inl h8)⟩, if_neg h37]⟩
    · refine r_iloadn dX6_sheet_11 rfl ?_
      refine r_bp (8) dX6_sheet_12 ?_
      refine r_icmp_eq 36 dX6_sheet_14 (fun h14 => ?_) (fun h14 => ?_)
      · refine r_iloadn dX6_sheet_36 rfl ?_
        refine r_if_ge 48 dX6_sheet_37 (fun h37 => ?_) (fun h37 => ?_)
        · refine r_iloadn dX6_sheet_48 rfl ?_
          refine r_bp (40) dX6_sheet_49 ?_
          refine r_icmp_le 61 dX6_sheet_51 (fun h51 => ?_) (fun h51 => ?_)
          · obtain ⟨et, lt⟩ := g_v3 (bi_1.mp h4)
            refine r_aloadn dX6_sheet_61 rfl (by decide) ?_
            refine r_getfr dX6_sheet_62 kf_RX6_25 rfl rfl ?_
            refine r_iloadn dX6_sheet_65 rfl ?_
            refine r_iloadn dX6_sheet_66 rfl ?_
            refine r_if_ne 74 dX6_sheet_67 (fun h67 => ?_) (fun h67 => ?_)
            · refine r_iloadn dX6_sheet_74 rfl ?_
              refine r_iastL (j := k_v t) dX6_sheet_75 rfl et ⟨lt, by decide⟩ ?_
              refine r_aloadn dX6_sheet_76 rfl (by decide) ?_
              refine r_getfr dX6_sheet_77 kf_RX6_28 rfl rfl ?_
              refine r_iloadn dX6_sheet_80 rfl ?_
              refine r_iloadn dX6_sheet_81 rfl ?_
              refine r_if_ne 89 dX6_sheet_82 (fun h82 => ?_) (fun h82 => ?_)
              · refine r_iloadn dX6_sheet_89 rfl ?_
                refine r_iastL (j := k_v t) dX6_sheet_90 rfl et ⟨lt, by decide⟩ ?_
                refine r_ic (0) dX6_sheet_91 ?_
                refine r_istore4 dX6_sheet_92 ?_
                have e : sg_sheet M t b n0 = (n0, k_it (fun k N => fp_wr N 57 (40 * k_v t + k) 0) 40 0 (fp_wr (fp_wr M 55 (k_v t) b) 56 (k_v t) n0)) := by
                  unfold sg_sheet g_shw
                  rw [if_pos ⟨bi_1.mp h4, (Or.inr (Or.inl h14))⟩, if_pos h37, if_pos h51, if_neg h67, if_neg h67]
                rw [e]
                exact lp_X6_sheet et lt 40 0 (by omega) _ fp_wr_eq
              · exact absurd h82 h67
            · refine r_ic (-1) dX6_sheet_70 ?_
              refine r_goto 75 dX6_sheet_71 ?_
              refine r_iastL (j := k_v t) dX6_sheet_75 rfl et ⟨lt, by decide⟩ ?_
              refine r_aloadn dX6_sheet_76 rfl (by decide) ?_
              refine r_getfr dX6_sheet_77 kf_RX6_28 rfl rfl ?_
              refine r_iloadn dX6_sheet_80 rfl ?_
              refine r_iloadn dX6_sheet_81 rfl ?_
              refine r_if_ne 89 dX6_sheet_82 (fun h82 => ?_) (fun h82 => ?_)
              · exact absurd h67 h82
              · refine r_ic (0) dX6_sheet_85 ?_
                refine r_goto 90 dX6_sheet_86 ?_
                refine r_iastL (j := k_v t) dX6_sheet_90 rfl et ⟨lt, by decide⟩ ?_
                refine r_ic (0) dX6_sheet_91 ?_
                refine r_istore4 dX6_sheet_92 ?_
                have e : sg_sheet M t b n0 = (0, k_it (fun k N => fp_wr N 57 (40 * k_v t + k) 0) 40 0 (fp_wr (fp_wr M 55 (k_v t) (-1)) 56 (k_v t) 0)) := by
                  unfold sg_sheet g_shw
                  rw [if_pos ⟨bi_1.mp h4, (Or.inr (Or.inl h14))⟩, if_pos h37, if_pos h51, if_pos h67, if_pos h67]
                rw [e]
                exact lp_X6_sheet et lt 40 0 (by omega) _ fp_wr_eq
          · refine r_aloadn dX6_sheet_54 rfl (by decide) ?_
            refine r_ldc dX6_sheet_55 kc_RX6_37 ?_
            refine c_V1 (μz := mX6_finds) dX6_sheet_57 kl_RX6_47 mv_X6_finds rfl (ok_X6_finds (w := 0) (by decide) (by decide)) ?_
            exact r_iret dX6_sheet_60 ⟨by unfold sg_sheet; rw [if_pos ⟨bi_1.mp h4, (Or.inr (Or.inl h14))⟩, if_pos h37, if_neg h51], rfl, by unfold sg_sheet; rw [if_pos ⟨bi_1.mp h4, (Or.inr (Or.inl h14))⟩, if_pos h37, if_neg h51]⟩
        · refine r_aloadn dX6_sheet_40 rfl (by decide) ?_
          refine r_ldcw dX6_sheet_41 kc_RX6_258 ?_
          refine c_V1 (μz := mX6_finds) dX6_sheet_44 kl_RX6_47 mv_X6_finds rfl (ok_X6_finds (w := 6) (by decide) (by decide)) ?_
          exact r_iret dX6_sheet_47 ⟨by unfold sg_sheet; rw [if_pos ⟨bi_1.mp h4, (Or.inr (Or.inl h14))⟩, if_neg h37], rfl, by unfold sg_sheet; rw [if_pos ⟨bi_1.mp h4, (Or.inr (Or.inl h14))⟩, if_neg h37]⟩
      · refine r_iloadn dX6_sheet_17 rfl ?_
        refine r_bp (16) dX6_sheet_18 ?_
        refine r_icmp_eq 36 dX6_sheet_20 (fun h20 => ?_) (fun h20 => ?_)
        · refine r_iloadn dX6_sheet_36 rfl ?_
          refine r_if_ge 48 dX6_sheet_37 (fun h37 => ?_) (fun h37 => ?_)
          · refine r_iloadn dX6_sheet_48 rfl ?_
            refine r_bp (40) dX6_sheet_49 ?_
            refine r_icmp_le 61 dX6_sheet_51 (fun h51 => ?_) (fun h51 => ?_)
            · obtain ⟨et, lt⟩ := g_v3 (bi_1.mp h4)
              refine r_aloadn dX6_sheet_61 rfl (by decide) ?_
              refine r_getfr dX6_sheet_62 kf_RX6_25 rfl rfl ?_
              refine r_iloadn dX6_sheet_65 rfl ?_
              refine r_iloadn dX6_sheet_66 rfl ?_
              refine r_if_ne 74 dX6_sheet_67 (fun h67 => ?_) (fun h67 => ?_)
              · refine r_iloadn dX6_sheet_74 rfl ?_
                refine r_iastL (j := k_v t) dX6_sheet_75 rfl et ⟨lt, by decide⟩ ?_
                refine r_aloadn dX6_sheet_76 rfl (by decide) ?_
                refine r_getfr dX6_sheet_77 kf_RX6_28 rfl rfl ?_
                refine r_iloadn dX6_sheet_80 rfl ?_
                refine r_iloadn dX6_sheet_81 rfl ?_
                refine r_if_ne 89 dX6_sheet_82 (fun h82 => ?_) (fun h82 => ?_)
                · refine r_iloadn dX6_sheet_89 rfl ?_
                  refine r_iastL (j := k_v t) dX6_sheet_90 rfl et ⟨lt, by decide⟩ ?_
                  refine r_ic (0) dX6_sheet_91 ?_
                  refine r_istore4 dX6_sheet_92 ?_
                  have e : sg_sheet M t b n0 = (n0, k_it (fun k N => fp_wr N 57 (40 * k_v t + k) 0) 40 0 (fp_wr (fp_wr M 55 (k_v t) b) 56 (k_v t) n0)) := by
                    unfold sg_sheet g_shw
                    rw [if_pos ⟨bi_1.mp h4, (Or.inr (Or.inr (Or.inl h20)))⟩, if_pos h37, if_pos h51, if_neg h67, if_neg h67]
                  rw [e]
                  exact lp_X6_sheet et lt 40 0 (by omega) _ fp_wr_eq
                · exact absurd h82 h67
              · refine r_ic (-1) dX6_sheet_70 ?_
                refine r_goto 75 dX6_sheet_71 ?_
                refine r_iastL (j := k_v t) dX6_sheet_75 rfl et ⟨lt, by decide⟩ ?_
                refine r_aloadn dX6_sheet_76 rfl (by decide) ?_
                refine r_getfr dX6_sheet_77 kf_RX6_28 rfl rfl ?_
                refine r_iloadn dX6_sheet_80 rfl ?_
                refine r_iloadn dX6_sheet_81 rfl ?_
                refine r_if_ne 89 dX6_sheet_82 (fun h82 => ?_) (fun h82 => ?_)
                · exact absurd h67 h82
                · refine r_ic (0) dX6_sheet_85 ?_
                  refine r_goto 90 dX6_sheet_86 ?_
                  refine r_iastL (j := k_v t) dX6_sheet_90 rfl et ⟨lt, by decide⟩ ?_
                  refine r_ic (0) dX6_sheet_91 ?_
                  refine r_istore4 dX6_sheet_92 ?_
                  have e : sg_sheet M t b n0 = (0, k_it (fun k N => fp_wr N 57 (40 * k_v t + k) 0) 40 0 (fp_wr (fp_wr M 55 (k_v t) (-1)) 56 (k_v t) 0)) := by
                    unfold sg_sheet g_shw
                    rw [if_pos ⟨bi_1.mp h4, (Or.inr (Or.inr (Or.inl h20)))⟩, if_pos h37, if_pos h51, if_pos h67, if_pos h67]
                  rw [e]
                  exact lp_X6_sheet et lt 40 0 (by omega) _ fp_wr_eq
            · refine r_aloadn dX6_sheet_54 rfl (by decide) ?_
              refine r_ldc dX6_sheet_55 kc_RX6_37 ?_
              refine c_V1 (μz := mX6_finds) dX6_sheet_57 kl_RX6_47 mv_X6_finds rfl (ok_X6_finds (w := 0) (by decide) (by decide)) ?_
              exact r_iret dX6_sheet_60 ⟨by unfold sg_sheet; rw [if_pos ⟨bi_1.mp h4, (Or.inr (Or.inr (Or.inl h20)))⟩, if_pos h37, if_neg h51], rfl, by unfold sg_sheet; rw [if_pos ⟨bi_1.mp h4, (Or.inr (Or.inr (Or.inl h20)))⟩, if_pos h37, if_neg h51]⟩
          · refine r_aloadn dX6_sheet_40 rfl (by decide) ?_
            refine r_ldcw dX6_sheet_41 kc_RX6_258 ?_
            refine c_V1 (μz := mX6_finds) dX6_sheet_44 kl_RX6_47 mv_X6_finds rfl (ok_X6_finds (w := 6) (by decide) (by decide)) ?_
            exact r_iret dX6_sheet_47 ⟨by unfold sg_sheet; rw [if_pos ⟨bi_1.mp h4, (Or.inr (Or.inr (Or.inl h20)))⟩, if_neg h37], rfl, by unfold sg_sheet; rw [if_pos ⟨bi_1.mp h4, (Or.inr (Or.inr (Or.inl h20)))⟩, if_neg h37]⟩
        · refine r_iloadn dX6_sheet_23 rfl ?_
          refine r_bp (32) dX6_sheet_24 ?_
          refine r_icmp_eq 36 dX6_sheet_26 (fun h26 => ?_) (fun h26 => ?_)
          · refine r_iloadn dX6_sheet_36 rfl ?_
            refine r_if_ge 48 dX6_sheet_37 (fun h37 => ?_) (fun h37 => ?_)
            · refine r_iloadn dX6_sheet_48 rfl ?_
              refine r_bp (40) dX6_sheet_49 ?_
              refine r_icmp_le 61 dX6_sheet_51 (fun h51 => ?_) (fun h51 => ?_)
              · obtain ⟨et, lt⟩ := g_v3 (bi_1.mp h4)
                refine r_aloadn dX6_sheet_61 rfl (by decide) ?_
                refine r_getfr dX6_sheet_62 kf_RX6_25 rfl rfl ?_
                refine r_iloadn dX6_sheet_65 rfl ?_
                refine r_iloadn dX6_sheet_66 rfl ?_
                refine r_if_ne 74 dX6_sheet_67 (fun h67 => ?_) (fun h67 => ?_)
                · refine r_iloadn dX6_sheet_74 rfl ?_
                  refine r_iastL (j := k_v t) dX6_sheet_75 rfl et ⟨lt, by decide⟩ ?_
                  refine r_aloadn dX6_sheet_76 rfl (by decide) ?_
                  refine r_getfr dX6_sheet_77 kf_RX6_28 rfl rfl ?_
                  refine r_iloadn dX6_sheet_80 rfl ?_
                  refine r_iloadn dX6_sheet_81 rfl ?_
                  refine r_if_ne 89 dX6_sheet_82 (fun h82 => ?_) (fun h82 => ?_)
                  · refine r_iloadn dX6_sheet_89 rfl ?_
                    refine r_iastL (j := k_v t) dX6_sheet_90 rfl et ⟨lt, by decide⟩ ?_
                    refine r_ic (0) dX6_sheet_91 ?_
                    refine r_istore4 dX6_sheet_92 ?_
                    have e : sg_sheet M t b n0 = (n0, k_it (fun k N => fp_wr N 57 (40 * k_v t + k) 0) 40 0 (fp_wr (fp_wr M 55 (k_v t) b) 56 (k_v t) n0)) := by
                      unfold sg_sheet g_shw
                      rw [if_pos ⟨bi_1.mp h4, (Or.inr (Or.inr (Or.inr h26)))⟩, if_pos h37, if_pos h51, if_neg h67, if_neg h67]
                    rw [e]
                    exact lp_X6_sheet et lt 40 0 (by omega) _ fp_wr_eq
                  · exact absurd h82 h67
                · refine r_ic (-1) dX6_sheet_70 ?_
                  refine r_goto 75 dX6_sheet_71 ?_
                  refine r_iastL (j := k_v t) dX6_sheet_75 rfl et ⟨lt, by decide⟩ ?_
                  refine r_aloadn dX6_sheet_76 rfl (by decide) ?_
                  refine r_getfr dX6_sheet_77 kf_RX6_28 rfl rfl ?_
                  refine r_iloadn dX6_sheet_80 rfl ?_
                  refine r_iloadn dX6_sheet_81 rfl ?_
                  refine r_if_ne 89 dX6_sheet_82 (fun h82 => ?_) (fun h82 => ?_)
                  · exact absurd h67 h82
                  · refine r_ic (0) dX6_sheet_85 ?_
                    refine r_goto 90 dX6_sheet_86 ?_
                    refine r_iastL (j := k_v t) dX6_sheet_90 rfl et ⟨lt, by decide⟩ ?_
                    refine r_ic (0) dX6_sheet_91 ?_
                    refine r_istore4 dX6_sheet_92 ?_
                    have e : sg_sheet M t b n0 = (0, k_it (fun k N => fp_wr N 57 (40 * k_v t + k) 0) 40 0 (fp_wr (fp_wr M 55 (k_v t) (-1)) 56 (k_v t) 0)) := by
                      unfold sg_sheet g_shw
                      rw [if_pos ⟨bi_1.mp h4, (Or.inr (Or.inr (Or.inr h26)))⟩, if_pos h37, if_pos h51, if_pos h67, if_pos h67]
                    rw [e]
                    exact lp_X6_sheet et lt 40 0 (by omega) _ fp_wr_eq
              · refine r_aloadn dX6_sheet_54 rfl (by decide) ?_
                refine r_ldc dX6_sheet_55 kc_RX6_37 ?_
                refine c_V1 (μz := mX6_finds) dX6_sheet_57 kl_RX6_47 mv_X6_finds rfl (ok_X6_finds (w := 0) (by decide) (by decide)) ?_
                exact r_iret dX6_sheet_60 ⟨by unfold sg_sheet; rw [if_pos ⟨bi_1.mp h4, (Or.inr (Or.inr (Or.inr h26)))⟩, if_pos h37, if_neg h51], rfl, by unfold sg_sheet; rw [if_pos ⟨bi_1.mp h4, (Or.inr (Or.inr (Or.inr h26)))⟩, if_pos h37, if_neg h51]⟩
            · refine r_aloadn dX6_sheet_40 rfl (by decide) ?_
              refine r_ldcw dX6_sheet_41 kc_RX6_258 ?_
              refine c_V1 (μz := mX6_finds) dX6_sheet_44 kl_RX6_47 mv_X6_finds rfl (ok_X6_finds (w := 6) (by decide) (by decide)) ?_
              exact r_iret dX6_sheet_47 ⟨by unfold sg_sheet; rw [if_pos ⟨bi_1.mp h4, (Or.inr (Or.inr (Or.inr h26)))⟩, if_neg h37], rfl, by unfold sg_sheet; rw [if_pos ⟨bi_1.mp h4, (Or.inr (Or.inr (Or.inr h26)))⟩, if_neg h37]⟩
          · refine r_aloadn dX6_sheet_29 rfl (by decide) ?_
            refine r_ldc dX6_sheet_30 kc_RX6_37 ?_
            refine c_V1 (μz := mX6_finds) dX6_sheet_32 kl_RX6_47 mv_X6_finds rfl (ok_X6_finds (w := 0) (by decide) (by decide)) ?_
            exact r_iret dX6_sheet_35 ⟨by unfold sg_sheet; rw [if_neg (fun q => q.2.elim h8 (fun q => q.elim h14 (fun q => q.elim h20 h26)))], rfl, by unfold sg_sheet; rw [if_neg (fun q => q.2.elim h8 (fun q => q.elim h14 (fun q => q.elim h20 h26)))]⟩
def g_ld (nm : Nat → Int32) (c : Nat) : Nat → Nat → fp_M → Nat × fp_M
  | 0, i, N => (i, N)
  | n + 1, i, N => if i < c ∧ (-99 ≤ nm i ∧ nm i ≤ 99) then g_ld nm c n (i + 1) (fp_wr N 50 (5 + 6 * i + 3) (nm i)) else (i, N)
theorem g_want_v {M : fp_M} {t : Int32} (h : ¬ g_want M t = 0) : ∃ w, w < 7 ∧ -1000001 - g_want M t = nI w ∧ g_want M t = -1000001 - nI w := by
  unfold g_want at h ⊢
  split
  · split
    · rename_i h1 h2
      rw [if_pos h1, if_pos h2] at h
      exact absurd rfl h
    · exact ⟨5, by decide, by decide, by decide⟩
  · exact ⟨0, by decide, by decide, by decide⟩
theorem g_want_0 {M : fp_M} {t : Int32} (h : g_want M t = 0) : (0 ≤ t ∧ t ≤ 3) ∧ 0 ≤ M 55 (k_v t) := by
  unfold g_want at h
  split at h
  · rename_i h1
    split at h
    · rename_i h2
      exact ⟨h1, h2⟩
    · cases h
  · cases h
def sg_load (M : fp_M) (c : Nat) (t : Int32) : Int32 × fp_M := if g_want M t = 0 then (nI (g_ld (fun j => M 57 (40 * k_v t + j)) c (k_v (M 56 (k_v t))) 0 M).1, (g_ld (fun j => M 57 (40 * k_v t + j)) c (k_v (M 56 (k_v t))) 0 M).2) else (g_want M t, g_fd M (k_v (-1000001 - g_want M t)))
theorem lp_X6_load {X : fp_X} {M : fp_M} {c z : Nat} {t : Int32} (h8 : c ≤ 8) (et : t = nI (k_v t)) (lt : k_v t < 4) (hz40 : z ≤ 40) : ∀ (n i : Nat), i + n = z → ∀ (N : fp_M), (N 57 = M 57 ∧ N 50 0 = nI c ∧ N 56 (k_v t) = nI z) → fp_W X mX6_load 20 [some (.ref 49), some (.int t), some (.int (nI i))] [] fp_sh N 0 0 (fun r s m => r = some (.int (nI (g_ld (fun j => M 57 (40 * k_v t + j)) c n i N).1)) ∧ s = fp_sh ∧ m = (g_ld (fun j => M 57 (40 * k_v t + j)) c n i N).2) := by
  intro n
  induction n with
  | zero =>
    intro i hi N  hinv
    have ti : (nI i).toInt = (i : Int) := nI_toInt (by omega)
    have hQ := hinv
    have tz : (N 56 (k_v t)).toInt = (z : Int) := by rw [hQ.2.2]; exact nI_toInt (by omega)
    refine r_iloadn dX6_load_20 rfl ?_
    refine r_aloadn dX6_load_21 rfl (by decide) ?_
    refine r_getfr dX6_load_22 kf_RX6_28 rfl rfl ?_
    refine r_iloadn dX6_load_25 rfl ?_
    refine r_ialdL (j := k_v t) dX6_load_26 rfl et ⟨lt, by decide⟩ ?_
    refine r_icmp_ge 92 dX6_load_27 (fun h27 => ?_) (fun h27 => ?_)
    · refine r_iloadn dX6_load_92 rfl ?_
      exact r_iret dX6_load_93 ⟨rfl, rfl, rfl⟩
    · exfalso; simp only [Int32.le_iff_toInt_le, Int32.lt_iff_toInt_lt, Int32.reduceToInt] at h27; omega
  | succ n ih =>
    intro i hi N  hinv
    have ti : (nI i).toInt = (i : Int) := nI_toInt (by omega)
    have hQ := hinv
    have tz : (N 56 (k_v t)).toInt = (z : Int) := by rw [hQ.2.2]; exact nI_toInt (by omega)
    refine r_iloadn dX6_load_20 rfl ?_
    refine r_aloadn dX6_load_21 rfl (by decide) ?_
    refine r_getfr dX6_load_22 kf_RX6_28 rfl rfl ?_
    refine r_iloadn dX6_load_25 rfl ?_
    refine r_ialdL (j := k_v t) dX6_load_26 rfl et ⟨lt, by decide⟩ ?_
    refine r_icmp_ge 92 dX6_load_27 (fun h27 => ?_) (fun h27 => ?_)
    · exfalso; simp only [Int32.le_iff_toInt_le, Int32.lt_iff_toInt_lt, Int32.reduceToInt] at h27; omega
    · refine r_aloadn dX6_load_30 rfl (by decide) ?_
      refine r_iloadn dX6_load_31 rfl ?_
      refine c_V1 (μz := mX6_isLetter) dX6_load_32 kl_RX6_85 mv_X6_isLetter rfl ok_X6_isLetter ?_
      refine r_if_eq 92 dX6_load_35 (fun h35 => ?_) (fun h35 => ?_)
      · refine r_iloadn dX6_load_92 rfl ?_
        exact r_iret dX6_load_93 ⟨by unfold g_ld; rw [if_neg (fun q => bi_0.mp h35 ⟨nI_pos' (by omega), by rw [hQ.2.1]; exact nI_lt q.1 (by omega)⟩)], rfl, by unfold g_ld; rw [if_neg (fun q => bi_0.mp h35 ⟨nI_pos' (by omega), by rw [hQ.2.1]; exact nI_lt q.1 (by omega)⟩)]⟩
      · have hic : i < c := by
          have q := (bi_1.mp h35).2
          rw [hQ.2.1] at q
          exact (nI_ltI (by omega) (by omega)).mp q
        refine r_aloadn dX6_load_38 rfl (by decide) ?_
        refine r_getfr dX6_load_39 kf_RX6_31 rfl rfl ?_
        refine r_bp (40) dX6_load_42 ?_
        refine r_iloadn dX6_load_44 rfl ?_
        refine r_imul dX6_load_45 ?_
        refine r_iloadn dX6_load_46 rfl ?_
        refine r_iadd dX6_load_47 ?_
        refine r_ialdL (j := 40 * k_v t + i) dX6_load_48 rfl ((congrArg (fun x : Int32 => 40 * x + nI i) et).trans (g_40 _ lt i (by omega))) ⟨by omega, by decide⟩ ?_
        rw [hQ.1]
        refine r_i2l dX6_load_49 ?_
        refine r_ldc2 dX6_load_50 kc_RX6_74 ?_
        refine r_ldc2 dX6_load_53 kc_RX6_76 ?_
        refine c_S3 (μz := mX6_isIn) dX6_load_56 kl_RX6_42 ms_X6_isIn (ok_X6_in (lo := (-99)) (hi := 99) (by decide) (by decide)) ?_
        refine r_if_eq 92 dX6_load_59 (fun h59 => ?_) (fun h59 => ?_)
        · refine r_iloadn dX6_load_92 rfl ?_
          exact r_iret dX6_load_93 ⟨by unfold g_ld; rw [if_neg (fun q => bi_0.mp h59 q.2)], rfl, by unfold g_ld; rw [if_neg (fun q => bi_0.mp h59 q.2)]⟩
        · refine r_aloadn dX6_load_62 rfl (by decide) ?_
          refine r_getfr dX6_load_63 kf_RX6_7 rfl rfl ?_
          refine r_ic (5) dX6_load_66 ?_
          refine r_bp (6) dX6_load_67 ?_
          refine r_iloadn dX6_load_69 rfl ?_
          refine r_imul dX6_load_70 ?_
          refine r_iadd dX6_load_71 ?_
          refine r_ic (3) dX6_load_72 ?_
          refine r_iadd dX6_load_73 ?_
          refine r_aloadn dX6_load_74 rfl (by decide) ?_
          refine r_getfr dX6_load_75 kf_RX6_31 rfl rfl ?_
          refine r_bp (40) dX6_load_78 ?_
          refine r_iloadn dX6_load_80 rfl ?_
          refine r_imul dX6_load_81 ?_
          refine r_iloadn dX6_load_82 rfl ?_
          refine r_iadd dX6_load_83 ?_
          refine r_ialdL (j := 40 * k_v t + i) dX6_load_84 rfl ((congrArg (fun x : Int32 => 40 * x + nI i) et).trans (g_40 _ lt i (by omega))) ⟨by omega, by decide⟩ ?_
          rw [hQ.1]
          refine r_iastL (j := 5 + 6 * i + 3) dX6_load_85 rfl (g_i3 i (by omega)) ⟨by omega, by decide⟩ ?_
          refine r_iinc2 (1) dX6_load_86 ?_
          refine r_goto 20 dX6_load_89 ?_
          rw [nI_1]
          unfold g_ld
          rw [if_pos ⟨hic, bi_1.mp h59⟩]
          exact ih (i + 1) (by omega) _ ⟨by rw [fp_wr_row (by decide)]; exact hQ.1, by rw [fp_wr_ne2 (by omega)]; exact hQ.2.1, by rw [fp_wr_ne (by decide)]; exact hQ.2.2⟩

theorem ok_X6_load {X : fp_X} {M : fp_M} {c : Nat} {t : Int32} (hw : g_wf M c) (hz : g_sz M): fp_Ev X mX6_load [.ref 49, .int t] fp_sh M (some (.int (sg_load M c t).1)) (sg_load M c t).2 := by
  refine fp_ok [some (.ref 49), some (.int t), none] ?_
  refine r_aloadn dX6_load_0 rfl (by decide) ?_
  refine r_iloadn dX6_load_1 rfl ?_
  refine c_V1 (μz := mX6_wants) dX6_load_2 kl_RX6_259 mv_X6_wants rfl ok_X6_wants ?_
  refine r_if_eq 18 dX6_load_5 (fun h5 => ?_) (fun h5 => ?_)
  · obtain ⟨et, lt⟩ := g_v3 (g_want_0 h5).1
    obtain ⟨z, z40, ez⟩ := hz (k_v t) lt
    have ez2 : k_v (M 56 (k_v t)) = z := by show (M 56 (k_v t)).toNatClampNeg = z; rw [ez]; exact nI_clamp (by omega)
    refine r_ic (0) dX6_load_18 ?_
    refine r_istore2 dX6_load_19 ?_
    have e := lp_X6_load (X := X) (M := M) hw.1 et lt z40 z 0 (by omega) M ⟨rfl, hw.2.1, ez⟩
    have e2 : sg_load M c t = (nI (g_ld (fun j => M 57 (40 * k_v t + j)) c z 0 M).1, (g_ld (fun j => M 57 (40 * k_v t + j)) c z 0 M).2) := by
      unfold sg_load
      rw [if_pos h5, ez2]
    rw [e2]
    exact e
  · obtain ⟨w, hw7, hw8, hw9⟩ := g_want_v h5
    have ew : k_v (-1000001 - g_want M t) = w := by show (-1000001 - g_want M t).toNatClampNeg = w; rw [hw8]; exact nI_clamp (by omega)
    refine r_aloadn dX6_load_8 rfl (by decide) ?_
    refine r_aloadn dX6_load_9 rfl (by decide) ?_
    refine r_iloadn dX6_load_10 rfl ?_
    refine c_V1 (μz := mX6_wants) dX6_load_11 kl_RX6_259 mv_X6_wants rfl ok_X6_wants ?_
    refine c_V1 (μz := mX6_finds) dX6_load_14 kl_RX6_47 mv_X6_finds rfl (ok_X6_finds (w := w) hw8 hw7) ?_
    exact r_iret dX6_load_17 ⟨by unfold sg_load; rw [if_neg h5, ew], rfl, by unfold sg_load; rw [if_neg h5, ew]⟩
