/-! ===== FarPost's calls: draws, odds, the tape fed ===== -/
abbrev k_zn (z : Int32) : Int32 := z * 1103515245 + 12345
abbrev k_zd (z : Int32) : Int32 := ((k_zn z).toUInt32 >>> ((8 : Int32).toUInt32 &&& Int32.toUInt32 31)).toInt32
abbrev k_r16 (x : Int32) : Int32 := x - x / 16 * 16
def k_lose (_ : Nat) (N : fp_M) : fp_M := if v_let N (k_r16 (k_zd (N 1 5))) then fp_wr (fp_wr N 1 5 (k_zn (N 1 5))) (3 + k_v (k_r16 (k_zd (N 1 5)))) 5 1 else fp_wr N 1 5 (k_zn (N 1 5))
def sp_loses (M : fp_M) (c : Nat) (n : Int32) : Int32 × fp_M := if 1 ≤ n ∧ n ≤ 20 then (k_bc (nI (k_str (k_it k_lose (k_v n) 0 M) 1 c)), k_it k_lose (k_v n) 0 M) else (k_lo 0, k_fd M 0)
theorem k_wf_str {M : fp_M} {c n : Nat} (hn : n < c) (hw : k_wf M 1 c) : k_wf (fp_wr M (3 + n) 5 1) 1 c := by
  have h8 := hw.1
  refine ⟨hw.1, ?_, fun i hi => ?_⟩
  · rw [fp_wr_ne (by omega)]; exact hw.2.1
  · obtain ⟨f, t, h1, h2, h3, h4, h5⟩ := hw.2.2 i hi
    refine ⟨f, t, h1, h2, ?_, ?_, ?_⟩
    · show (if 1 + 2 + i = 3 + n ∧ 1 = 5 then 1 else M (1 + 2 + i) 1) = nI f
      rw [if_neg (by omega)]; exact h3
    · show (if 1 + 2 + i = 3 + n ∧ 2 = 5 then 1 else M (1 + 2 + i) 2) = nI t
      rw [if_neg (by omega)]; exact h4
    · show (if 1 + 2 + i = 3 + n ∧ 5 = 5 then 1 else M (1 + 2 + i) 5) = 0 ∨ (if 1 + 2 + i = 3 + n ∧ 5 = 5 then 1 else M (1 + 2 + i) 5) = 1
      split
      · exact Or.inr rfl
      · exact h5
theorem k_lose_wf {c : Nat} (i : Nat) {N : fp_M} (hw : k_wf N 1 c) : k_wf (k_lose i N) 1 c := by
  unfold k_lose
  split
  · rename_i h
    obtain ⟨n, hn, e⟩ := k_idx hw h
    rw [show k_v (k_r16 (k_zd (N 1 5))) = n from by show (k_r16 (k_zd (N 1 5))).toNatClampNeg = n; rw [e]; exact nI_clamp (by have := hw.1; omega)]
    exact k_wf_str hn (k_wf_day (by decide) hw)
  · exact k_wf_day (by decide) hw
theorem lp_X5_loses {X : fp_X} {c m : Nat} (hm : m ≤ 20) : ∀ (n i : Nat), i + n = m → ∀ (N : fp_M) (w3 : Option Value), (k_wf N 1 c) → fp_W X mX5_loses 18 [some (.ref 0), some (.int (nI m)), some (.int (nI i)), w3] [] fp_sh N 0 0 (fun r s m => r = some (.int (k_bc (nI (k_str (k_it k_lose n i N) 1 c)))) ∧ s = fp_sh ∧ m = k_it k_lose n i N) := by
  intro n
  induction n with
  | zero =>
    intro i hi N  w3  hinv
    have ti : (nI i).toInt = (i : Int) := nI_toInt (by omega)
    have wN := hinv
    have h8 := wN.1
    have tm : (nI m).toInt = (m : Int) := nI_toInt (by omega)
    have h11 : fp_wr N 1 5 (k_zn (N 1 5)) 1 1 = N 1 1 := by simp [fp_wr]
    refine r_iloadn dX5_loses_18 rfl ?_
    refine r_iloadn dX5_loses_19 rfl ?_
    refine r_icmp_ge 64 dX5_loses_20 (fun h20 => ?_) (fun h20 => ?_)
    · refine r_aloadn dX5_loses_64 rfl (by decide) ?_
      refine r_getfr dX5_loses_65 kf_RX5_10 rfl rfl ?_
      refine c_V0 (μz := mX2_struckOnes) dX5_loses_68 kl_RX5_133 mv_X2_struckOnes rfl (ok_X2_struckOnes fp_of_1 wN.2.1 wN.1 (fun i hi => (wN.2.2 i hi).choose_spec.choose_spec.2.2.2.2)) ?_
      refine c_S1 (μz := mJ6_bitCount_0f7a4) dX5_loses_71 kl_RX5_171 ms_J6_bitCount_0f7a4 ok_J6_bitCount_0f7a4 ?_
      exact r_iret dX5_loses_74 ⟨rfl, rfl, rfl⟩
    · exfalso; simp only [Int32.le_iff_toInt_le, Int32.lt_iff_toInt_lt, Int32.reduceToInt] at h20; omega
  | succ n ih =>
    intro i hi N  w3  hinv
    have ti : (nI i).toInt = (i : Int) := nI_toInt (by omega)
    have wN := hinv
    have h8 := wN.1
    have tm : (nI m).toInt = (m : Int) := nI_toInt (by omega)
    have h11 : fp_wr N 1 5 (k_zn (N 1 5)) 1 1 = N 1 1 := by simp [fp_wr]
    refine r_iloadn dX5_loses_18 rfl ?_
    refine r_iloadn dX5_loses_19 rfl ?_
    refine r_icmp_ge 64 dX5_loses_20 (fun h20 => ?_) (fun h20 => ?_)
    · exfalso; simp only [Int32.le_iff_toInt_le, Int32.lt_iff_toInt_lt, Int32.reduceToInt] at h20; omega
    · refine r_aloadn dX5_loses_23 rfl (by decide) ?_
      refine r_getfr dX5_loses_24 kf_RX5_10 rfl rfl ?_
      refine c_V0 (μz := mX2_draw) dX5_loses_27 kl_RX5_208 mv_X2_draw rfl (ok_X2_draw fp_of_1) ?_
      refine r_bp (16) dX5_loses_30 ?_
      refine r_irem dX5_loses_32 (by decide) ?_
      refine r_istore3 dX5_loses_33 ?_
      refine r_aloadn dX5_loses_34 rfl (by decide) ?_
      refine r_getfr dX5_loses_35 kf_RX5_10 rfl rfl ?_
      refine r_iloadn dX5_loses_38 rfl ?_
      refine c_V1 (μz := mX2_has) dX5_loses_39 kl_RX5_85 mv_X2_has rfl (ok_X2_has fp_of_1) ?_
      refine r_if_eq 58 dX5_loses_42 (fun h42 => ?_) (fun h42 => ?_)
      · refine r_iinc2 (1) dX5_loses_58 ?_
        refine r_goto 18 dX5_loses_61 ?_
        rw [nI_1, k_it_s]
        rw [show k_lose i N = fp_wr N 1 5 (k_zn (N 1 5)) from by unfold k_lose; rw [if_neg (fun q => bi_0.mp h42 (by rw [h11]; exact q))]]
        exact ih (i + 1) (by omega) _ _ (k_wf_day (by decide) wN)
      · have hv : v_let N (k_r16 (k_zd (N 1 5))) := by have q := bi_1.mp h42; rw [h11] at q; exact q
        obtain ⟨q, hq, eq0⟩ := k_idx wN hv
        have eq1 : k_v (k_r16 (k_zd (N 1 5))) = q := by show (k_r16 (k_zd (N 1 5))).toNatClampNeg = q; rw [eq0]; exact nI_clamp (by omega)
        refine r_aloadn dX5_loses_45 rfl (by decide) ?_
        refine r_getfr dX5_loses_46 kf_RX5_10 rfl rfl ?_
        refine r_getfr dX5_loses_49 kf_RX5_88 rfl rfl ?_
        refine r_iloadn dX5_loses_52 rfl ?_
        refine r_aaldL (j := q) dX5_loses_53 (sh_r fp_of_1) eq0 (sh_rr (by omega)) (by omega) (Nat.le_of_ble_eq_true rfl) ?_
        refine r_ic (1) dX5_loses_54 ?_
        refine r_putfi dX5_loses_55 kf_RX5_211 (sh_l fp_of_1 (by omega)) rfl ?_
        refine r_iinc2 (1) dX5_loses_58 ?_
        refine r_goto 18 dX5_loses_61 ?_
        rw [nI_1, k_it_s]
        rw [show k_lose i N = fp_wr (fp_wr N 1 5 (k_zn (N 1 5))) (1 + 2 + q) 5 1 from by unfold k_lose; rw [if_pos hv, eq1, show 1 + 2 + q = 3 + q by omega]]
        exact ih (i + 1) (by omega) _ _ (by have h := k_lose_wf i wN; unfold k_lose at h; rw [if_pos hv, eq1, show 3 + q = 1 + 2 + q by omega] at h; exact h)

theorem ok_X5_loses {X : fp_X} {M : fp_M} {c : Nat} {n : Int32} (hw : k_wf M 1 c): fp_Ev X mX5_loses [.ref 0, .int n] fp_sh M (some (.int (sp_loses M c n).1)) (sp_loses M c n).2 := by
  refine fp_ok [some (.ref 0), some (.int n), none, none] ?_
  refine r_iloadn dX5_loses_0 rfl ?_
  refine r_ic (1) dX5_loses_1 ?_
  refine r_bp (20) dX5_loses_2 ?_
  refine c_S3 (μz := mX5_within) dX5_loses_4 kl_RX5_69 ms_X5_within ok_X5_within ?_
  refine r_if_ne 16 dX5_loses_7 (fun h7 => ?_) (fun h7 => ?_)
  · obtain ⟨m, hm, rfl⟩ := k_rng (N := 20) rfl ⟨Int32.le_trans (by decide) (bi_1.mp h7).1, (bi_1.mp h7).2⟩
    have em : k_v (nI m) = m := nI_clamp (by omega)
    refine r_ic (0) dX5_loses_16 ?_
    refine r_istore2 dX5_loses_17 ?_
    have e2 : sp_loses M c (nI m) = (k_bc (nI (k_str (k_it k_lose m 0 M) 1 c)), k_it k_lose m 0 M) := by
      unfold sp_loses
      rw [if_pos (bi_1.mp h7), em]
    rw [e2]
    exact lp_X5_loses hm m 0 (by omega) M none hw
  · refine r_aloadn dX5_loses_10 rfl (by decide) ?_
    refine r_ic (0) dX5_loses_11 ?_
    refine c_V1 (μz := mX5_finding) dX5_loses_12 kl_RX5_73 mv_X5_finding rfl (ok_X5_finding (w := 0) rfl (by decide)) ?_
    exact r_iret dX5_loses_15 ⟨by unfold sp_loses; rw [if_neg (bi_0.mp h7)], rfl, by unfold sp_loses; rw [if_neg (bi_0.mp h7)]⟩
def k_cut : Nat → Int32 × Int32 → Int32 × Int32
  | 0, s => s
  | n + 1, s => if s.1 - s.1 / 2 * 2 = 0 then k_cut n (s.1 / 2, s.2 / 2) else s
def k_pow (x : Int32) (n : Nat) : Int64 := k_it (fun _ t => t * x.toInt64) n 0 1
def sp_odds (M : fp_M) (c : Nat) (n w : Int32) : Int64 × fp_M := if (0 ≤ n ∧ n ≤ 14) ∧ (0 ≤ w ∧ w ≤ 1) then (k_pow (if w = 0 then (k_cut 4 (16 - k_bc (k_cn M c), 16)).1 else (k_cut 4 (16 - k_bc (k_cn M c), 16)).2) (k_v n), M) else ((k_lo 0).toInt64, k_fd M 0)
theorem lp_X5_odds2 {X : fp_X} {M : fp_M} {m : Nat} {w a u : Int32} (hm : m ≤ 14) : ∀ (n i : Nat), i + n = m → ∀ (t : Int64), fp_W X mX5_odds 78 [some (.ref 0), some (.int (nI m)), some (.int w), some (.int a), some (.int u), some (.long t), none, some (.int (nI i))] [] fp_sh M 0 0 (fun r s m => r = some (.long (k_it (fun _ t => t * (if w = 0 then a else u).toInt64) n i t)) ∧ s = fp_sh ∧ m = M) := by
  have tm : (nI m).toInt = (m : Int) := nI_toInt (by omega)
  intro n
  induction n with
  | zero =>
    intro i hi t
    have ti : (nI i).toInt = (i : Int) := nI_toInt (by omega)
    refine r_iload dX5_odds_78 rfl ?_
    refine r_iloadn dX5_odds_80 rfl ?_
    refine r_icmp_ge 107 dX5_odds_81 (fun h81 => ?_) (fun h81 => ?_)
    · refine r_lload dX5_odds_107 rfl ?_
      exact r_lret dX5_odds_109 ⟨rfl, rfl, rfl⟩
    · exfalso; simp only [Int32.le_iff_toInt_le, Int32.lt_iff_toInt_lt, Int32.reduceToInt] at h81; omega
  | succ n ih =>
    intro i hi t
    have ti : (nI i).toInt = (i : Int) := nI_toInt (by omega)
    refine r_iload dX5_odds_78 rfl ?_
    refine r_iloadn dX5_odds_80 rfl ?_
    refine r_icmp_ge 107 dX5_odds_81 (fun h81 => ?_) (fun h81 => ?_)
    · exfalso; simp only [Int32.le_iff_toInt_le, Int32.lt_iff_toInt_lt, Int32.reduceToInt] at h81; omega
    · refine r_lload dX5_odds_84 rfl ?_
      refine r_iloadn dX5_odds_86 rfl ?_
      refine r_if_ne 95 dX5_odds_87 (fun h87 => ?_) (fun h87 => ?_)
      · refine r_iload dX5_odds_95 rfl ?_
        refine r_i2l dX5_odds_97 ?_
        refine r_lmul dX5_odds_98 ?_
        refine r_lstore5 dX5_odds_99 ?_
        refine r_iinc7 (1) dX5_odds_101 ?_
        refine r_goto 78 dX5_odds_104 ?_
        rw [nI_1, k_it_s, if_neg h87]
        have e := ih (i + 1) (by omega) (t * u.toInt64)
        rw [if_neg h87] at e
        exact e
      · refine r_iloadn dX5_odds_90 rfl ?_
        refine r_i2l dX5_odds_91 ?_
        refine r_goto 98 dX5_odds_92 ?_
        refine r_lmul dX5_odds_98 ?_
        refine r_lstore5 dX5_odds_99 ?_
        refine r_iinc7 (1) dX5_odds_101 ?_
        refine r_goto 78 dX5_odds_104 ?_
        rw [nI_1, k_it_s, if_pos h87]
        have e := ih (i + 1) (by omega) (t * a.toInt64)
        rw [if_pos h87] at e
        exact e
theorem lp_X5_odds1 {X : fp_X} {M : fp_M} {m : Nat} {w : Int32} (hm : m ≤ 14) : ∀ (n i : Nat), i + n = 4 → ∀ (z : Int32 × Int32), fp_W X mX5_odds 44 [some (.ref 0), some (.int (nI m)), some (.int w), some (.int z.1), some (.int z.2), some (.int (nI i)), none, none] [] fp_sh M 0 0 (fun r s mm => r = some (.long (k_pow (if w = 0 then (k_cut n z).1 else (k_cut n z).2) m)) ∧ s = fp_sh ∧ mm = M) := by
  intro n
  induction n with
  | zero =>
    intro i hi z
    have ti : (nI i).toInt = (i : Int) := nI_toInt (by omega)
    refine r_iload dX5_odds_44 rfl ?_
    refine r_ic (4) dX5_odds_46 ?_
    refine r_icmp_ge 72 dX5_odds_47 (fun h47 => ?_) (fun h47 => ?_)
    · refine r_lc 1 dX5_odds_72 ?_
      refine r_lstore5 dX5_odds_73 ?_
      refine r_ic (0) dX5_odds_75 ?_
      refine r_istore7 dX5_odds_76 ?_
      exact lp_X5_odds2 hm m 0 (by omega) 1
    · exfalso; simp only [Int32.le_iff_toInt_le, Int32.lt_iff_toInt_lt, Int32.reduceToInt] at h47; omega
  | succ n ih =>
    intro i hi z
    have ti : (nI i).toInt = (i : Int) := nI_toInt (by omega)
    refine r_iload dX5_odds_44 rfl ?_
    refine r_ic (4) dX5_odds_46 ?_
    refine r_icmp_ge 72 dX5_odds_47 (fun h47 => ?_) (fun h47 => ?_)
    · exfalso; simp only [Int32.le_iff_toInt_le, Int32.lt_iff_toInt_lt, Int32.reduceToInt] at h47; omega
    · refine r_iloadn dX5_odds_50 rfl ?_
      refine r_ic (2) dX5_odds_51 ?_
      refine r_irem dX5_odds_52 (by decide) ?_
      refine r_if_ne 72 dX5_odds_53 (fun h53 => ?_) (fun h53 => ?_)
      · refine r_lc 1 dX5_odds_72 ?_
        refine r_lstore5 dX5_odds_73 ?_
        refine r_ic (0) dX5_odds_75 ?_
        refine r_istore7 dX5_odds_76 ?_
        unfold k_cut
        rw [if_neg h53]
        exact lp_X5_odds2 hm m 0 (by omega) 1
      · refine r_iloadn dX5_odds_56 rfl ?_
        refine r_ic (2) dX5_odds_57 ?_
        refine r_idiv dX5_odds_58 (by decide) ?_
        refine r_istore3 dX5_odds_59 ?_
        refine r_iload dX5_odds_60 rfl ?_
        refine r_ic (2) dX5_odds_62 ?_
        refine r_idiv dX5_odds_63 (by decide) ?_
        refine r_istore4 dX5_odds_64 ?_
        refine r_iinc5 (1) dX5_odds_66 ?_
        refine r_goto 44 dX5_odds_69 ?_
        rw [nI_1]
        unfold k_cut
        rw [if_pos h53]
        exact ih (i + 1) (by omega) (z.1 / 2, z.2 / 2)
theorem ok_X5_odds {X : fp_X} {M : fp_M} {c : Nat} {n w : Int32} (hw : k_wf M 1 c): fp_Ev X mX5_odds [.ref 0, .int n, .int w] fp_sh M (some (.long (sp_odds M c n w).1)) (sp_odds M c n w).2 := by
  refine fp_ok [some (.ref 0), some (.int n), some (.int w), none, none, none, none, none] ?_
  refine r_iloadn dX5_odds_0 rfl ?_
  refine r_ic (0) dX5_odds_1 ?_
  refine r_bp (14) dX5_odds_2 ?_
  refine c_S3 (μz := mX5_within) dX5_odds_4 kl_RX5_69 ms_X5_within ok_X5_within ?_
  refine r_if_eq 19 dX5_odds_7 (fun h7 => ?_) (fun h7 => ?_)
  · refine r_aloadn dX5_odds_19 rfl (by decide) ?_
    refine r_ic (0) dX5_odds_20 ?_
    refine c_V1 (μz := mX5_finding) dX5_odds_21 kl_RX5_73 mv_X5_finding rfl (ok_X5_finding (w := 0) rfl (by decide)) ?_
    refine r_i2l dX5_odds_24 ?_
    exact r_lret dX5_odds_25 ⟨by unfold sp_odds; rw [if_neg (fun q => bi_0.mp h7 q.1)], rfl, by unfold sp_odds; rw [if_neg (fun q => bi_0.mp h7 q.1)]⟩
  · refine r_iloadn dX5_odds_10 rfl ?_
    refine r_ic (0) dX5_odds_11 ?_
    refine r_ic (1) dX5_odds_12 ?_
    refine c_S3 (μz := mX5_within) dX5_odds_13 kl_RX5_69 ms_X5_within ok_X5_within ?_
    refine r_if_ne 26 dX5_odds_16 (fun h16 => ?_) (fun h16 => ?_)
    · obtain ⟨m, hm, rfl⟩ := k_rng (N := 14) rfl (bi_1.mp h7)
      have em : k_v (nI m) = m := nI_clamp (by omega)
      refine r_bp (16) dX5_odds_26 ?_
      refine r_aloadn dX5_odds_28 rfl (by decide) ?_
      refine c_V0 (μz := mX5_counting) dX5_odds_29 kl_RX5_126 mv_X5_counting rfl (ok_X5_counting hw) ?_
      refine c_S1 (μz := mJ6_bitCount_0f7a4) dX5_odds_32 kl_RX5_171 ms_J6_bitCount_0f7a4 ok_J6_bitCount_0f7a4 ?_
      refine r_isub dX5_odds_35 ?_
      refine r_istore3 dX5_odds_36 ?_
      refine r_bp (16) dX5_odds_37 ?_
      refine r_istore4 dX5_odds_39 ?_
      refine r_ic (0) dX5_odds_41 ?_
      refine r_istore5 dX5_odds_42 ?_
      unfold sp_odds
      rw [if_pos ⟨bi_1.mp h7, bi_1.mp h16⟩, em]
      exact lp_X5_odds1 hm 4 0 (by omega) (16 - k_bc (k_cn M c), 16)
    · refine r_aloadn dX5_odds_19 rfl (by decide) ?_
      refine r_ic (0) dX5_odds_20 ?_
      refine c_V1 (μz := mX5_finding) dX5_odds_21 kl_RX5_73 mv_X5_finding rfl (ok_X5_finding (w := 0) rfl (by decide)) ?_
      refine r_i2l dX5_odds_24 ?_
      exact r_lret dX5_odds_25 ⟨by unfold sp_odds; rw [if_neg (fun q => bi_0.mp h16 q.2)], rfl, by unfold sp_odds; rw [if_neg (fun q => bi_0.mp h16 q.2)]⟩
def k_app (N : fp_M) (v : Int32) : fp_M := fp_wr (fp_wr N 38 (k_v (N 37 0)) v) 37 0 (N 37 0 + 1)
def k_feed (b : Int32) : Nat → fp_M → fp_M
  | 0, N => N
  | i + 1, N => k_feed b i (k_app N ((b.toUInt32 >>> ((8 * nI i).toUInt32 &&& Int32.toUInt32 31)).toInt32 &&& 255))
def sp_feed (M : fp_M) (b n : Int32) : Int32 × fp_M := if 1 ≤ n ∧ n ≤ 4 then (if M 37 0 + n ≤ 120 then (k_feed b (k_v n) M 37 0, k_feed b (k_v n) M) else (k_lo 1, k_fd M 1)) else (k_lo 0, k_fd M 0)
theorem ok_X4_append {X : fp_X} {M : fp_M} {z : Nat} {v : Int32} (hz : M 37 0 = nI z) (hz1 : z < 120): fp_Ev X mX4_append [.ref 37, .int v] fp_sh M none (k_app M v) := by
  have tz : (M 37 0).toInt = (z : Int) := by rw [hz]; exact nI_toInt (by omega)
  have ez : k_v (M 37 0) = z := by show (M 37 0).toNatClampNeg = z; rw [hz]; exact nI_clamp (by omega)
  refine fp_ok [some (.ref 37), some (.int v)] ?_
  refine r_aloadn dX4_append_0 rfl (by decide) ?_
  refine r_getfi dX4_append_1 kf_RX4_9 rfl rfl ?_
  refine r_bp (120) dX4_append_4 ?_
  refine r_icmp_ge 29 dX4_append_6 (fun h6 => ?_) (fun h6 => ?_)
  · exfalso; simp only [Int32.le_iff_toInt_le, Int32.lt_iff_toInt_lt, Int32.reduceToInt] at h6; omega
  · refine r_aloadn dX4_append_9 rfl (by decide) ?_
    refine r_getfr dX4_append_10 kf_RX4_15 rfl rfl ?_
    refine r_aloadn dX4_append_13 rfl (by decide) ?_
    refine r_getfi dX4_append_14 kf_RX4_9 rfl rfl ?_
    refine r_iloadn dX4_append_17 rfl ?_
    refine r_iastL (j := z) dX4_append_18 rfl hz ⟨hz1, by decide⟩ ?_
    refine r_aloadn dX4_append_19 rfl (by decide) ?_
    refine r_dup dX4_append_20 ?_
    refine r_getfi dX4_append_21 kf_RX4_9 rfl rfl ?_
    refine r_ic (1) dX4_append_24 ?_
    refine r_iadd dX4_append_25 ?_
    refine r_putfi dX4_append_26 kf_RX4_9 rfl rfl ?_
    exact r_vret dX4_append_29 ⟨rfl, rfl, by unfold k_app; rw [ez, fp_wr_ne (by decide)]⟩
theorem lp_X5_feed {X : fp_X} {b nn : Int32} : ∀ (n z : Nat) (N : fp_M), n ≤ 4 → N 37 0 = nI z → z + n ≤ 120 → fp_W X mX5_feed 39 [some (.ref 0), some (.int b), some (.int nn), some (.int (nI n - 1))] [] fp_sh N 0 0 (fun r s m => r = some (.int (k_feed b n N 37 0)) ∧ s = fp_sh ∧ m = k_feed b n N) := by
  intro n
  induction n with
  | zero =>
    intro z N h4 hz hz1
    refine r_iloadn dX5_feed_39 rfl ?_
    refine r_if_lt 66 dX5_feed_40 (fun h40 => ?_) (fun h40 => ?_)
    · refine r_aloadn dX5_feed_66 rfl (by decide) ?_
      refine r_getfr dX5_feed_67 kf_RX5_43 rfl rfl ?_
      refine r_getfi dX5_feed_70 kf_RX5_217 rfl rfl ?_
      exact r_iret dX5_feed_73 ⟨rfl, rfl, rfl⟩
    · exact absurd (by decide) h40
  | succ n ih =>
    intro z N h4 hz hz1
    rw [nI_pred]
    refine r_iloadn dX5_feed_39 rfl ?_
    refine r_if_lt 66 dX5_feed_40 (fun h40 => ?_) (fun h40 => ?_)
    · exact absurd h40 (nI_pos (by omega))
    · refine r_aloadn dX5_feed_43 rfl (by decide) ?_
      refine r_getfr dX5_feed_44 kf_RX5_43 rfl rfl ?_
      refine r_iloadn dX5_feed_47 rfl ?_
      refine r_bp (8) dX5_feed_48 ?_
      refine r_iloadn dX5_feed_50 rfl ?_
      refine r_imul dX5_feed_51 ?_
      refine r_iushr dX5_feed_52 ?_
      refine r_sp (255) dX5_feed_53 ?_
      refine r_iand dX5_feed_56 ?_
      refine c_V1v (μz := mX4_append) dX5_feed_57 kl_RX5_220 mv_X4_append rfl (ok_X4_append hz (by omega)) ?_
      refine r_iinc3 (-1) dX5_feed_60 ?_
      refine r_goto 39 dX5_feed_63 ?_
      have e0 : nI n + -1 = nI n - 1 := by rw [Int32.sub_eq_add_neg]
      rw [e0]
      exact ih (z + 1) _ (by omega) (by unfold k_app; rw [hz, nI_1]; simp [fp_wr]) (by omega)
theorem ok_X5_feed {X : fp_X} {M : fp_M} {z : Nat} {b n : Int32} (ht : M 37 0 = nI z) (hz : z ≤ 120): fp_Ev X mX5_feed [.ref 0, .int b, .int n] fp_sh M (some (.int (sp_feed M b n).1)) (sp_feed M b n).2 := by
  refine fp_ok [some (.ref 0), some (.int b), some (.int n), none] ?_
  refine r_iloadn dX5_feed_0 rfl ?_
  refine r_ic (1) dX5_feed_1 ?_
  refine r_ic (4) dX5_feed_2 ?_
  refine c_S3 (μz := mX5_within) dX5_feed_3 kl_RX5_69 ms_X5_within ok_X5_within ?_
  refine r_if_ne 15 dX5_feed_6 (fun h6 => ?_) (fun h6 => ?_)
  · obtain ⟨m, hm, rfl⟩ := k_rng (N := 4) rfl ⟨Int32.le_trans (by decide) (bi_1.mp h6).1, (bi_1.mp h6).2⟩
    have em : k_v (nI m) = m := nI_clamp (by omega)
    refine r_aloadn dX5_feed_15 rfl (by decide) ?_
    refine r_getfr dX5_feed_16 kf_RX5_43 rfl rfl ?_
    refine r_getfi dX5_feed_19 kf_RX5_217 rfl rfl ?_
    refine r_iloadn dX5_feed_22 rfl ?_
    refine r_iadd dX5_feed_23 ?_
    refine r_bp (120) dX5_feed_24 ?_
    refine r_icmp_le 35 dX5_feed_26 (fun h26 => ?_) (fun h26 => ?_)
    · refine r_iloadn dX5_feed_35 rfl ?_
      refine r_ic (1) dX5_feed_36 ?_
      refine r_isub dX5_feed_37 ?_
      refine r_istore3 dX5_feed_38 ?_
      have e2 : sp_feed M b (nI m) = (k_feed b m M 37 0, k_feed b m M) := by
        unfold sp_feed
        rw [if_pos (bi_1.mp h6), if_pos h26, em]
      rw [e2]
      exact lp_X5_feed m z M (by omega) ht (by have q := h26; rw [ht, nI_add] at q; exact (nI_leI (b := 120) (by omega) (by decide)).mp q)
    · refine r_aloadn dX5_feed_29 rfl (by decide) ?_
      refine r_ic (1) dX5_feed_30 ?_
      refine c_V1 (μz := mX5_finding) dX5_feed_31 kl_RX5_73 mv_X5_finding rfl (ok_X5_finding (w := 1) rfl (by decide)) ?_
      exact r_iret dX5_feed_34 ⟨by unfold sp_feed; rw [if_pos (bi_1.mp h6), if_neg h26], rfl, by unfold sp_feed; rw [if_pos (bi_1.mp h6), if_neg h26]⟩
  · refine r_aloadn dX5_feed_9 rfl (by decide) ?_
    refine r_ic (0) dX5_feed_10 ?_
    refine c_V1 (μz := mX5_finding) dX5_feed_11 kl_RX5_73 mv_X5_finding rfl (ok_X5_finding (w := 0) rfl (by decide)) ?_
    exact r_iret dX5_feed_14 ⟨by unfold sp_feed; rw [if_neg (bi_0.mp h6)], rfl, by unfold sp_feed; rw [if_neg (bi_0.mp h6)]⟩
