/-! ===== the other one: copy, odds ===== -/
def g_cps (A B n : Nat) (k : Nat) (N : fp_M) : fp_M := fp_wr N 57 (B + (if A < B then n - 1 - k else k)) (N 57 (A + (if A < B then n - 1 - k else k)))
abbrev g_run (M : fp_M) (t u : Nat) (from' to' n : Int32) : Prop := (0 ≤ from' ∧ 0 ≤ to' ∧ 0 ≤ n) ∧ n ≤ M 56 t - from' ∧ n ≤ M 56 u - to'
def sg_copy (M : fp_M) (t f u o n : Int32) : Int32 × fp_M := if (0 ≤ t ∧ t ≤ 3) ∧ (0 ≤ u ∧ u ≤ 3) then (if 0 ≤ M 55 (k_v t) ∧ 0 ≤ M 55 (k_v u) then (if M 55 (k_v t) = M 55 (k_v u) then (if g_run M (k_v t) (k_v u) f o n then (n, k_it (g_cps (40 * k_v t + k_v f) (40 * k_v u + k_v o) (k_v n)) (k_v n) 0 M) else (-1000001, g_fd M 0)) else (-1000003, g_fd M 2)) else (-1000006, g_fd M 5)) else (-1000001, g_fd M 0)
theorem g_len {s f n : Int32} {z : Nat} (hz : z ≤ 40) (hs : s = nI z) (h0 : 0 ≤ f) (hn : 0 ≤ n) (h : n ≤ s - f) : f = nI (k_v f) ∧ n = nI (k_v n) ∧ k_v f + k_v n ≤ z := by
  obtain ⟨a, ha, rfl⟩ := nI_of (Int32.not_lt.mpr h0)
  obtain ⟨b, hb, rfl⟩ := nI_of (Int32.not_lt.mpr hn)
  have e : (s - nI a).toInt = (z : Int) - a := by
    rw [hs, Int32.toInt_sub, nI_toInt (by omega), nI_toInt ha]
    exact Int.bmod_eq_of_le (by omega) (by omega)
  have h2 := Int32.le_iff_toInt_le.mp h
  rw [e, nI_toInt hb] at h2
  have e1 : k_v (nI a) = a := nI_clamp ha
  have e2 : k_v (nI b) = b := nI_clamp hb
  rw [e1, e2]
  exact ⟨rfl, rfl, by omega⟩
theorem g_40x : ∀ t, t < 4 → ∀ b, b < 41 → (40 : Int32) * nI t + nI b = nI (40 * t + b) := by decide +kernel
theorem g_sub1 {n k : Nat} (h : k < n) (hn : n < 1000) : nI n - 1 - nI k = nI (n - 1 - k) := by
  refine Int32.toInt_inj.mp ?_
  have e1 : (nI n - 1).toInt = (n : Int) - 1 := by
    rw [Int32.toInt_sub, nI_toInt (by omega)]
    exact Int.bmod_eq_of_le (by simp only [Int32.reduceToInt]; omega) (by simp only [Int32.reduceToInt]; omega)
  rw [Int32.toInt_sub, e1, nI_toInt (by omega), nI_toInt (by omega), Int.bmod_eq_of_le (by omega) (by omega)]
  omega
theorem lp_X6_copy {X : fp_X} {t f u o : Int32} {A B n : Nat} (hA : A + n ≤ 160) (hB : B + n ≤ 160) : ∀ (m i : Nat), i + m = n → ∀ (N : fp_M) (w9 : Option Value), fp_W X mX6_copy 136 [some (.ref 49), some (.int t), some (.int f), some (.int u), some (.int o), some (.int (nI n)), some (.int (nI A)), some (.int (nI B)), some (.int (nI i)), w9] [] fp_sh N 0 0 (fun r s mm => r = some (.int (nI n)) ∧ s = fp_sh ∧ mm = k_it (g_cps A B n) m i N) := by
  have tn : (nI n).toInt = (n : Int) := nI_toInt (by omega)
  have tA : (nI A).toInt = (A : Int) := nI_toInt (by omega)
  have tB : (nI B).toInt = (B : Int) := nI_toInt (by omega)
  intro m
  induction m with
  | zero =>
    intro i hi N w9
    have ti : (nI i).toInt = (i : Int) := nI_toInt (by omega)
    refine r_iload dX6_copy_136 rfl ?_
    refine r_iload dX6_copy_138 rfl ?_
    refine r_icmp_ge 190 dX6_copy_140 (fun h140 => ?_) (fun h140 => ?_)
    · refine r_iload dX6_copy_190 rfl ?_
      exact r_iret dX6_copy_192 ⟨rfl, rfl, rfl⟩
    · exfalso; simp only [Int32.le_iff_toInt_le, Int32.lt_iff_toInt_lt, Int32.reduceToInt] at h140; omega
  | succ m ih =>
    intro i hi N w9
    have ti : (nI i).toInt = (i : Int) := nI_toInt (by omega)
    refine r_iload dX6_copy_136 rfl ?_
    refine r_iload dX6_copy_138 rfl ?_
    refine r_icmp_ge 190 dX6_copy_140 (fun h140 => ?_) (fun h140 => ?_)
    · exfalso; simp only [Int32.le_iff_toInt_le, Int32.lt_iff_toInt_lt, Int32.reduceToInt] at h140; omega
    · refine r_iload dX6_copy_143 rfl ?_
      refine r_iload dX6_copy_145 rfl ?_
      refine r_icmp_ge 160 dX6_copy_147 (fun h147 => ?_) (fun h147 => ?_)
      · have hAB : ¬ A < B := by simp only [Int32.le_iff_toInt_le] at h147; omega
        refine r_iload dX6_copy_160 rfl ?_
        refine r_istore9 dX6_copy_162 ?_
        refine r_aloadn dX6_copy_164 rfl (by decide) ?_
        refine r_getfr dX6_copy_165 kf_RX6_31 rfl rfl ?_
        refine r_iload dX6_copy_168 rfl ?_
        refine r_iload dX6_copy_170 rfl ?_
        refine r_iadd dX6_copy_172 ?_
        refine r_aloadn dX6_copy_173 rfl (by decide) ?_
        refine r_getfr dX6_copy_174 kf_RX6_31 rfl rfl ?_
        refine r_iload dX6_copy_177 rfl ?_
        refine r_iload dX6_copy_179 rfl ?_
        refine r_iadd dX6_copy_181 ?_
        refine r_ialdL (j := A + i) dX6_copy_182 rfl (nI_add A i) ⟨by omega, by decide⟩ ?_
        refine r_iastL (j := B + i) dX6_copy_183 rfl (nI_add B i) ⟨by omega, by decide⟩ ?_
        refine r_iinc8 (1) dX6_copy_184 ?_
        refine r_goto 136 dX6_copy_187 ?_
        have ei : g_cps A B n i N = fp_wr N 57 (B + i) (N 57 (A + i)) := by unfold g_cps; rw [if_neg hAB]
        rw [nI_1, k_it_s, ei]
        exact ih (i + 1) (by omega) _ _
      · have hAB : A < B := by simp only [Int32.le_iff_toInt_le] at h147; omega
        refine r_iload dX6_copy_150 rfl ?_
        refine r_ic (1) dX6_copy_152 ?_
        refine r_isub dX6_copy_153 ?_
        refine r_iload dX6_copy_154 rfl ?_
        refine r_isub dX6_copy_156 ?_
        rw [g_sub1 (n := n) (k := i) (by omega) (by omega)]
        refine r_goto 162 dX6_copy_157 ?_
        refine r_istore9 dX6_copy_162 ?_
        refine r_aloadn dX6_copy_164 rfl (by decide) ?_
        refine r_getfr dX6_copy_165 kf_RX6_31 rfl rfl ?_
        refine r_iload dX6_copy_168 rfl ?_
        refine r_iload dX6_copy_170 rfl ?_
        refine r_iadd dX6_copy_172 ?_
        refine r_aloadn dX6_copy_173 rfl (by decide) ?_
        refine r_getfr dX6_copy_174 kf_RX6_31 rfl rfl ?_
        refine r_iload dX6_copy_177 rfl ?_
        refine r_iload dX6_copy_179 rfl ?_
        refine r_iadd dX6_copy_181 ?_
        refine r_ialdL (j := A + (n - 1 - i)) dX6_copy_182 rfl (nI_add A _) ⟨by omega, by decide⟩ ?_
        refine r_iastL (j := B + (n - 1 - i)) dX6_copy_183 rfl (nI_add B _) ⟨by omega, by decide⟩ ?_
        refine r_iinc8 (1) dX6_copy_184 ?_
        refine r_goto 136 dX6_copy_187 ?_
        have ei : g_cps A B n i N = fp_wr N 57 (B + (n - 1 - i)) (N 57 (A + (n - 1 - i))) := by unfold g_cps; rw [if_pos hAB]
        rw [nI_1, k_it_s, ei]
        exact ih (i + 1) (by omega) _ _
theorem ok_X6_copy {X : fp_X} {M : fp_M} {t f u o n : Int32} (hz : g_sz M): fp_Ev X mX6_copy [.ref 49, .int t, .int f, .int u, .int o, .int n] fp_sh M (some (.int (sg_copy M t f u o n).1)) (sg_copy M t f u o n).2 := by
  refine fp_ok [some (.ref 49), some (.int t), some (.int f), some (.int u), some (.int o), some (.int n), none, none, none, none] ?_
  refine r_iloadn dX6_copy_0 rfl ?_
  refine c_S1 (μz := mX6_isSheet) dX6_copy_1 kl_RX6_255 ms_X6_isSheet ok_X6_isSheet ?_
  refine r_if_eq 14 dX6_copy_4 (fun h4 => ?_) (fun h4 => ?_)
  · refine r_aloadn dX6_copy_14 rfl (by decide) ?_
    refine r_ldc dX6_copy_15 kc_RX6_37 ?_
    refine c_V1 (μz := mX6_finds) dX6_copy_17 kl_RX6_47 mv_X6_finds rfl (ok_X6_finds (w := 0) (by decide) (by decide)) ?_
    exact r_iret dX6_copy_20 ⟨by unfold sg_copy; rw [if_neg (fun q => bi_0.mp h4 q.1)], rfl, by unfold sg_copy; rw [if_neg (fun q => bi_0.mp h4 q.1)]⟩
  · refine r_iloadn dX6_copy_7 rfl ?_
    refine c_S1 (μz := mX6_isSheet) dX6_copy_8 kl_RX6_255 ms_X6_isSheet ok_X6_isSheet ?_
    refine r_if_ne 21 dX6_copy_11 (fun h11 => ?_) (fun h11 => ?_)
    · obtain ⟨et, lt⟩ := g_v3 (bi_1.mp h4)
      obtain ⟨eu, lu⟩ := g_v3 (bi_1.mp h11)
      obtain ⟨zt, zt40, ezt⟩ := hz (k_v t) lt
      obtain ⟨zu, zu40, ezu⟩ := hz (k_v u) lu
      refine r_aloadn dX6_copy_21 rfl (by decide) ?_
      refine r_getfr dX6_copy_22 kf_RX6_25 rfl rfl ?_
      refine r_iloadn dX6_copy_25 rfl ?_
      refine r_ialdL (j := k_v t) dX6_copy_26 rfl et ⟨lt, by decide⟩ ?_
      refine r_if_lt 39 dX6_copy_27 (fun h27 => ?_) (fun h27 => ?_)
      · refine r_aloadn dX6_copy_39 rfl (by decide) ?_
        refine r_ldc dX6_copy_40 kc_RX6_250 ?_
        refine c_V1 (μz := mX6_finds) dX6_copy_42 kl_RX6_47 mv_X6_finds rfl (ok_X6_finds (w := 5) (by decide) (by decide)) ?_
        exact r_iret dX6_copy_45 ⟨by unfold sg_copy; rw [if_pos ⟨bi_1.mp h4, bi_1.mp h11⟩, if_neg (fun q => absurd q.1 (Int32.not_le.mpr h27))], rfl, by unfold sg_copy; rw [if_pos ⟨bi_1.mp h4, bi_1.mp h11⟩, if_neg (fun q => absurd q.1 (Int32.not_le.mpr h27))]⟩
      · refine r_aloadn dX6_copy_30 rfl (by decide) ?_
        refine r_getfr dX6_copy_31 kf_RX6_25 rfl rfl ?_
        refine r_iloadn dX6_copy_34 rfl ?_
        refine r_ialdL (j := k_v u) dX6_copy_35 rfl eu ⟨lu, by decide⟩ ?_
        refine r_if_ge 46 dX6_copy_36 (fun h36 => ?_) (fun h36 => ?_)
        · refine r_aloadn dX6_copy_46 rfl (by decide) ?_
          refine r_getfr dX6_copy_47 kf_RX6_25 rfl rfl ?_
          refine r_iloadn dX6_copy_50 rfl ?_
          refine r_ialdL (j := k_v t) dX6_copy_51 rfl et ⟨lt, by decide⟩ ?_
          refine r_aloadn dX6_copy_52 rfl (by decide) ?_
          refine r_getfr dX6_copy_53 kf_RX6_25 rfl rfl ?_
          refine r_iloadn dX6_copy_56 rfl ?_
          refine r_ialdL (j := k_v u) dX6_copy_57 rfl eu ⟨lu, by decide⟩ ?_
          refine r_icmp_eq 68 dX6_copy_58 (fun h58 => ?_) (fun h58 => ?_)
          · refine r_iloadn dX6_copy_68 rfl ?_
            refine r_if_lt 109 dX6_copy_69 (fun h69 => ?_) (fun h69 => ?_)
            · refine r_aloadn dX6_copy_109 rfl (by decide) ?_
              refine r_ldc dX6_copy_110 kc_RX6_37 ?_
              refine c_V1 (μz := mX6_finds) dX6_copy_112 kl_RX6_47 mv_X6_finds rfl (ok_X6_finds (w := 0) (by decide) (by decide)) ?_
              exact r_iret dX6_copy_115 ⟨by unfold sg_copy; rw [if_pos ⟨bi_1.mp h4, bi_1.mp h11⟩, if_pos ⟨Int32.not_lt.mp h27, h36⟩, if_pos h58, if_neg (fun q => absurd q.1.1 (Int32.not_le.mpr h69))], rfl, by unfold sg_copy; rw [if_pos ⟨bi_1.mp h4, bi_1.mp h11⟩, if_pos ⟨Int32.not_lt.mp h27, h36⟩, if_pos h58, if_neg (fun q => absurd q.1.1 (Int32.not_le.mpr h69))]⟩
            · refine r_iload dX6_copy_72 rfl ?_
              refine r_if_lt 109 dX6_copy_74 (fun h74 => ?_) (fun h74 => ?_)
              · refine r_aloadn dX6_copy_109 rfl (by decide) ?_
                refine r_ldc dX6_copy_110 kc_RX6_37 ?_
                refine c_V1 (μz := mX6_finds) dX6_copy_112 kl_RX6_47 mv_X6_finds rfl (ok_X6_finds (w := 0) (by decide) (by decide)) ?_
                exact r_iret dX6_copy_115 ⟨by unfold sg_copy; rw [if_pos ⟨bi_1.mp h4, bi_1.mp h11⟩, if_pos ⟨Int32.not_lt.mp h27, h36⟩, if_pos h58, if_neg (fun q => absurd q.1.2.1 (Int32.not_le.mpr h74))], rfl, by unfold sg_copy; rw [if_pos ⟨bi_1.mp h4, bi_1.mp h11⟩, if_pos ⟨Int32.not_lt.mp h27, h36⟩, if_pos h58, if_neg (fun q => absurd q.1.2.1 (Int32.not_le.mpr h74))]⟩
              · refine r_iload dX6_copy_77 rfl ?_
                refine r_if_lt 109 dX6_copy_79 (fun h79 => ?_) (fun h79 => ?_)
                · refine r_aloadn dX6_copy_109 rfl (by decide) ?_
                  refine r_ldc dX6_copy_110 kc_RX6_37 ?_
                  refine c_V1 (μz := mX6_finds) dX6_copy_112 kl_RX6_47 mv_X6_finds rfl (ok_X6_finds (w := 0) (by decide) (by decide)) ?_
                  exact r_iret dX6_copy_115 ⟨by unfold sg_copy; rw [if_pos ⟨bi_1.mp h4, bi_1.mp h11⟩, if_pos ⟨Int32.not_lt.mp h27, h36⟩, if_pos h58, if_neg (fun q => absurd q.1.2.2 (Int32.not_le.mpr h79))], rfl, by unfold sg_copy; rw [if_pos ⟨bi_1.mp h4, bi_1.mp h11⟩, if_pos ⟨Int32.not_lt.mp h27, h36⟩, if_pos h58, if_neg (fun q => absurd q.1.2.2 (Int32.not_le.mpr h79))]⟩
                · refine r_iload dX6_copy_82 rfl ?_
                  refine r_aloadn dX6_copy_84 rfl (by decide) ?_
                  refine r_getfr dX6_copy_85 kf_RX6_28 rfl rfl ?_
                  refine r_iloadn dX6_copy_88 rfl ?_
                  refine r_ialdL (j := k_v t) dX6_copy_89 rfl et ⟨lt, by decide⟩ ?_
                  refine r_iloadn dX6_copy_90 rfl ?_
                  refine r_isub dX6_copy_91 ?_
                  refine r_icmp_gt 109 dX6_copy_92 (fun h92 => ?_) (fun h92 => ?_)
                  · refine r_aloadn dX6_copy_109 rfl (by decide) ?_
                    refine r_ldc dX6_copy_110 kc_RX6_37 ?_
                    refine c_V1 (μz := mX6_finds) dX6_copy_112 kl_RX6_47 mv_X6_finds rfl (ok_X6_finds (w := 0) (by decide) (by decide)) ?_
                    exact r_iret dX6_copy_115 ⟨by unfold sg_copy; rw [if_pos ⟨bi_1.mp h4, bi_1.mp h11⟩, if_pos ⟨Int32.not_lt.mp h27, h36⟩, if_pos h58, if_neg (fun q => absurd q.2.1 (Int32.not_le.mpr h92))], rfl, by unfold sg_copy; rw [if_pos ⟨bi_1.mp h4, bi_1.mp h11⟩, if_pos ⟨Int32.not_lt.mp h27, h36⟩, if_pos h58, if_neg (fun q => absurd q.2.1 (Int32.not_le.mpr h92))]⟩
                  · refine r_iload dX6_copy_95 rfl ?_
                    refine r_aloadn dX6_copy_97 rfl (by decide) ?_
                    refine r_getfr dX6_copy_98 kf_RX6_28 rfl rfl ?_
                    refine r_iloadn dX6_copy_101 rfl ?_
                    refine r_ialdL (j := k_v u) dX6_copy_102 rfl eu ⟨lu, by decide⟩ ?_
                    refine r_iload dX6_copy_103 rfl ?_
                    refine r_isub dX6_copy_105 ?_
                    refine r_icmp_le 116 dX6_copy_106 (fun h106 => ?_) (fun h106 => ?_)
                    · obtain ⟨ef, en, ln⟩ := g_len zt40 ezt (Int32.not_lt.mp h69) (Int32.not_lt.mp h79) (Int32.not_lt.mp h92)
                      obtain ⟨eo, _, lo⟩ := g_len zu40 ezu (Int32.not_lt.mp h74) (Int32.not_lt.mp h79) h106
                      refine r_bp (40) dX6_copy_116 ?_
                      refine r_iloadn dX6_copy_118 rfl ?_
                      refine r_imul dX6_copy_119 ?_
                      refine r_iloadn dX6_copy_120 rfl ?_
                      refine r_iadd dX6_copy_121 ?_
                      refine r_istore6 dX6_copy_122 ?_
                      refine r_bp (40) dX6_copy_124 ?_
                      refine r_iloadn dX6_copy_126 rfl ?_
                      refine r_imul dX6_copy_127 ?_
                      refine r_iload dX6_copy_128 rfl ?_
                      refine r_iadd dX6_copy_130 ?_
                      refine r_istore7 dX6_copy_131 ?_
                      refine r_ic (0) dX6_copy_133 ?_
                      refine r_istore8 dX6_copy_134 ?_
                      have eA : (40 : Int32) * t + f = nI (40 * k_v t + k_v f) := (congr (congrArg (fun u w : Int32 => 40 * u + w) et) ef).trans (g_40x _ lt _ (by omega))
                      have eB : (40 : Int32) * u + o = nI (40 * k_v u + k_v o) := (congr (congrArg (fun u w : Int32 => 40 * u + w) eu) eo).trans (g_40x _ lu _ (by omega))
                      have e := lp_X6_copy (X := X) (t := t) (f := f) (u := u) (o := o) (A := 40 * k_v t + k_v f) (B := 40 * k_v u + k_v o) (n := k_v n) (by omega) (by omega) (k_v n) 0 (by omega) M none
                      rw [← en] at e
                      have e2 : sg_copy M t f u o n = (n, k_it (g_cps (40 * k_v t + k_v f) (40 * k_v u + k_v o) (k_v n)) (k_v n) 0 M) := by
                        unfold sg_copy
                        rw [if_pos ⟨bi_1.mp h4, bi_1.mp h11⟩, if_pos ⟨Int32.not_lt.mp h27, h36⟩, if_pos h58, if_pos ⟨⟨Int32.not_lt.mp h69, Int32.not_lt.mp h74, Int32.not_lt.mp h79⟩, Int32.not_lt.mp h92, h106⟩]
                      rw [e2, eA, eB]
                      exact e
                    · refine r_aloadn dX6_copy_109 rfl (by decide) ?_
                      refine r_ldc dX6_copy_110 kc_RX6_37 ?_
                      refine c_V1 (μz := mX6_finds) dX6_copy_112 kl_RX6_47 mv_X6_finds rfl (ok_X6_finds (w := 0) (by decide) (by decide)) ?_
                      exact r_iret dX6_copy_115 ⟨by unfold sg_copy; rw [if_pos ⟨bi_1.mp h4, bi_1.mp h11⟩, if_pos ⟨Int32.not_lt.mp h27, h36⟩, if_pos h58, if_neg (fun q => h106 q.2.2)], rfl, by unfold sg_copy; rw [if_pos ⟨bi_1.mp h4, bi_1.mp h11⟩, if_pos ⟨Int32.not_lt.mp h27, h36⟩, if_pos h58, if_neg (fun q => h106 q.2.2)]⟩
          · refine r_aloadn dX6_copy_61 rfl (by decide) ?_
            refine r_ldc dX6_copy_62 kc_RX6_254 ?_
            refine c_V1 (μz := mX6_finds) dX6_copy_64 kl_RX6_47 mv_X6_finds rfl (ok_X6_finds (w := 2) (by decide) (by decide)) ?_
            exact r_iret dX6_copy_67 ⟨by unfold sg_copy; rw [if_pos ⟨bi_1.mp h4, bi_1.mp h11⟩, if_pos ⟨Int32.not_lt.mp h27, h36⟩, if_neg h58], rfl, by unfold sg_copy; rw [if_pos ⟨bi_1.mp h4, bi_1.mp h11⟩, if_pos ⟨Int32.not_lt.mp h27, h36⟩, if_neg h58]⟩
        · refine r_aloadn dX6_copy_39 rfl (by decide) ?_
          refine r_ldc dX6_copy_40 kc_RX6_250 ?_
          refine c_V1 (μz := mX6_finds) dX6_copy_42 kl_RX6_47 mv_X6_finds rfl (ok_X6_finds (w := 5) (by decide) (by decide)) ?_
          exact r_iret dX6_copy_45 ⟨by unfold sg_copy; rw [if_pos ⟨bi_1.mp h4, bi_1.mp h11⟩, if_neg (fun q => h36 q.2)], rfl, by unfold sg_copy; rw [if_pos ⟨bi_1.mp h4, bi_1.mp h11⟩, if_neg (fun q => h36 q.2)]⟩
    · refine r_aloadn dX6_copy_14 rfl (by decide) ?_
      refine r_ldc dX6_copy_15 kc_RX6_37 ?_
      refine c_V1 (μz := mX6_finds) dX6_copy_17 kl_RX6_47 mv_X6_finds rfl (ok_X6_finds (w := 0) (by decide) (by decide)) ?_
      exact r_iret dX6_copy_20 ⟨by unfold sg_copy; rw [if_neg (fun q => bi_0.mp h11 q.2)], rfl, by unfold sg_copy; rw [if_neg (fun q => bi_0.mp h11 q.2)]⟩
def g_red : Nat → Nat × Nat → Nat × Nat
  | 0, s => s
  | f + 1, s => if s.1 % 2 = 0 ∧ s.2 % 2 = 0 then g_red f (s.1 / 2, s.2 / 2) else s
theorem g_red_no {f a b : Nat} (h : ¬ (a % 2 = 0 ∧ b % 2 = 0)) : g_red (f + 1) (a, b) = (a, b) := if_neg h
theorem g_red_ye {f a b : Nat} (h : a % 2 = 0 ∧ b % 2 = 0) : g_red (f + 1) (a, b) = g_red f (a / 2, b / 2) := if_pos h
def sg_odds (M : fp_M) (c : Nat) (n w : Int32) : Int64 × fp_M := if (0 ≤ n ∧ n ≤ 14) ∧ (0 ≤ w ∧ w ≤ 1) then (lN (if w = 0 then (g_red 60 ((16 - k_v (k_bc (g_cn M c))) ^ k_v n, 16 ^ k_v n)).1 else (g_red 60 ((16 - k_v (k_bc (g_cn M c))) ^ k_v n, 16 ^ k_v n)).2), M) else ((-1000001 : Int32).toInt64, g_fd M 0)
theorem g_l2 : lN 2 = 2 := by decide
theorem g_l0 : lN 0 = 0 := by decide
theorem g_lr {a : Nat} (h : a < 2 ^ 62) : lg_cmp (lN a - lN a / 2 * 2) 0 = 0 ↔ a % 2 = 0 := by
  rw [lg_cmp_eq, ← g_l2, pk_lRem (by omega) (by decide) (by decide), ← g_l0, pk_lEQ (by omega) (by decide)]
theorem g_ld2 {a : Nat} (h : a < 2 ^ 62) : lN a / 2 = lN (a / 2) := by
  rw [← g_l2, pk_lDiv (by omega) (by decide) (by decide)]
theorem lp_X6_odds2 {X : fp_X} {M : fp_M} {n0 w m k : Int32} : ∀ (f a b : Nat), a < 2 ^ 62 → b < 2 ^ 62 → 0 < b → b < 2 ^ f → fp_W X mX6_odds 77 [some (.ref 49), some (.int n0), some (.int w), some (.long (lN a)), none, some (.long (lN b)), none, some (.int m), some (.int k)] [] fp_sh M 0 0 (fun r s m => r = some (.long (lN (if w = 0 then (g_red f (a, b)).1 else (g_red f (a, b)).2))) ∧ s = fp_sh ∧ m = M) := by
  intro f
  induction f with
  | zero =>
    intro a b ha hb2 hb hf
    exact absurd hf (by omega)
  | succ f ih =>
    intro a b ha hb2 hb hf
    rw [Nat.pow_succ] at hf
    refine r_lloadn dX6_odds_77 rfl ?_
    refine r_ldc2 dX6_odds_78 kc_RX6_131 ?_
    refine r_lrem dX6_odds_81 (by decide) ?_
    refine r_lc 0 dX6_odds_82 ?_
    refine r_lcmp dX6_odds_83 ?_
    refine r_if_ne 115 dX6_odds_84 (fun h84 => ?_) (fun h84 => ?_)
    · refine r_iloadn dX6_odds_115 rfl ?_
      refine r_if_ne 123 dX6_odds_116 (fun h116 => ?_) (fun h116 => ?_)
      · refine r_lload dX6_odds_123 rfl ?_
        exact r_lret dX6_odds_125 ⟨by rw [g_red_no (fun q => h84 ((g_lr ha).mpr q.1)), if_neg h116], rfl, rfl⟩
      · refine r_lloadn dX6_odds_119 rfl ?_
        refine r_goto 125 dX6_odds_120 ?_
        exact r_lret dX6_odds_125 ⟨by rw [g_red_no (fun q => h84 ((g_lr ha).mpr q.1)), if_pos h116], rfl, rfl⟩
    · refine r_lload dX6_odds_87 rfl ?_
      refine r_ldc2 dX6_odds_89 kc_RX6_131 ?_
      refine r_lrem dX6_odds_92 (by decide) ?_
      refine r_lc 0 dX6_odds_93 ?_
      refine r_lcmp dX6_odds_94 ?_
      refine r_if_ne 115 dX6_odds_95 (fun h95 => ?_) (fun h95 => ?_)
      · refine r_iloadn dX6_odds_115 rfl ?_
        refine r_if_ne 123 dX6_odds_116 (fun h116 => ?_) (fun h116 => ?_)
        · refine r_lload dX6_odds_123 rfl ?_
          exact r_lret dX6_odds_125 ⟨by rw [g_red_no (fun q => h95 ((g_lr hb2).mpr q.2)), if_neg h116], rfl, rfl⟩
        · refine r_lloadn dX6_odds_119 rfl ?_
          refine r_goto 125 dX6_odds_120 ?_
          exact r_lret dX6_odds_125 ⟨by rw [g_red_no (fun q => h95 ((g_lr hb2).mpr q.2)), if_pos h116], rfl, rfl⟩
      · refine r_lloadn dX6_odds_98 rfl ?_
        refine r_ldc2 dX6_odds_99 kc_RX6_131 ?_
        refine r_ldiv dX6_odds_102 (by decide) ?_
        refine r_lstore3 dX6_odds_103 ?_
        refine r_lload dX6_odds_104 rfl ?_
        refine r_ldc2 dX6_odds_106 kc_RX6_131 ?_
        refine r_ldiv dX6_odds_109 (by decide) ?_
        refine r_lstore5 dX6_odds_110 ?_
        refine r_goto 77 dX6_odds_112 ?_
        rw [g_ld2 ha, g_ld2 hb2]
        rw [g_red_ye ⟨(g_lr ha).mp h84, (g_lr hb2).mp h95⟩]
        exact ih (a / 2) (b / 2) (by omega) (by omega) (by have := (g_lr hb2).mp h95; omega) (by omega)
theorem g_l16 : (16 : Int64) = lN 16 := by decide
theorem g_pw {m n : Nat} (hm : m ≤ 16) (hn : n ≤ 14) : m ^ n < 2 ^ 62 := by
  have h1 : m ^ n ≤ 16 ^ n := Nat.pow_le_pow_left hm n
  have h2 : 16 ^ n ≤ 16 ^ 14 := Nat.pow_le_pow_right (by decide) hn
  have h3 : (16 : Nat) ^ 14 < 2 ^ 62 := by decide
  omega
theorem lp_X6_odds1 {X : fp_X} {M : fp_M} {w : Int32} {n0 mm : Nat} (hm : mm ≤ 16) (hn : n0 ≤ 14) : ∀ (n i : Nat), i + n = n0 → fp_W X mX6_odds 51 [some (.ref 49), some (.int (nI n0)), some (.int w), some (.long (lN (mm ^ i))), none, some (.long (lN (16 ^ i))), none, some (.int (nI mm)), some (.int (nI i))] [] fp_sh M 0 0 (fun r s m => r = some (.long (lN (if w = 0 then (g_red 60 (mm ^ n0, 16 ^ n0)).1 else (g_red 60 (mm ^ n0, 16 ^ n0)).2))) ∧ s = fp_sh ∧ m = M) := by
  have tn : (nI n0).toInt = (n0 : Int) := nI_toInt (by omega)
  have em : (nI mm).toInt64 = lN mm := nI_l (by omega)
  intro n
  induction n with
  | zero =>
    intro i hi
    have ti : (nI i).toInt = (i : Int) := nI_toInt (by omega)
    refine r_iload dX6_odds_51 rfl ?_
    refine r_iloadn dX6_odds_53 rfl ?_
    refine r_icmp_ge 77 dX6_odds_54 (fun h54 => ?_) (fun h54 => ?_)
    · rw [show i = n0 by omega]
      exact lp_X6_odds2 60 _ _ (g_pw hm hn) (g_pw (by decide) hn) (Nat.pow_pos (by decide)) (Nat.lt_of_le_of_lt (Nat.pow_le_pow_right (by decide) hn) (by decide))
    · exfalso; simp only [Int32.le_iff_toInt_le, Int32.lt_iff_toInt_lt, Int32.reduceToInt] at h54; omega
  | succ n ih =>
    intro i hi
    have ti : (nI i).toInt = (i : Int) := nI_toInt (by omega)
    refine r_iload dX6_odds_51 rfl ?_
    refine r_iloadn dX6_odds_53 rfl ?_
    refine r_icmp_ge 77 dX6_odds_54 (fun h54 => ?_) (fun h54 => ?_)
    · exfalso; simp only [Int32.le_iff_toInt_le, Int32.lt_iff_toInt_lt, Int32.reduceToInt] at h54; omega
    · refine r_lloadn dX6_odds_57 rfl ?_
      refine r_iload dX6_odds_58 rfl ?_
      refine r_i2l dX6_odds_60 ?_
      refine r_lmul dX6_odds_61 ?_
      rw [em, lN_mul, ← Nat.pow_succ]
      refine r_lstore3 dX6_odds_62 ?_
      refine r_lload dX6_odds_63 rfl ?_
      refine r_ldc2 dX6_odds_65 kc_RX6_161 ?_
      refine r_lmul dX6_odds_68 ?_
      rw [show (16 : Int64) = lN 16 from g_l16, lN_mul, ← Nat.pow_succ]
      refine r_lstore5 dX6_odds_69 ?_
      refine r_iinc8 (1) dX6_odds_71 ?_
      refine r_goto 51 dX6_odds_74 ?_
      rw [nI_1]
      exact ih (i + 1) (by omega)
theorem g_bc16 : ∀ a, a < 256 → (16 : Int32) - k_bc (nI a) = nI (16 - k_v (k_bc (nI a))) := by decide +kernel
theorem ok_X6_odds {X : fp_X} {M : fp_M} {c : Nat} {n w : Int32} (hw : g_wf M c): fp_Ev X mX6_odds [.ref 49, .int n, .int w] fp_sh M (some (.long (sg_odds M c n w).1)) (sg_odds M c n w).2 := by
  refine fp_ok [some (.ref 49), some (.int n), some (.int w), none, none, none, none, none, none] ?_
  refine r_iloadn dX6_odds_0 rfl ?_
  refine r_i2l dX6_odds_1 ?_
  refine r_lc 0 dX6_odds_2 ?_
  refine r_ldc2 dX6_odds_3 kc_RX6_159 ?_
  refine c_S3 (μz := mX6_isIn) dX6_odds_6 kl_RX6_42 ms_X6_isIn (ok_X6_in (lo := 0) (hi := 14) (by decide) (by decide)) ?_
  refine r_if_eq 22 dX6_odds_9 (fun h9 => ?_) (fun h9 => ?_)
  · refine r_aloadn dX6_odds_22 rfl (by decide) ?_
    refine r_ldc dX6_odds_23 kc_RX6_37 ?_
    refine c_V1 (μz := mX6_finds) dX6_odds_25 kl_RX6_47 mv_X6_finds rfl (ok_X6_finds (w := 0) (by decide) (by decide)) ?_
    refine r_i2l dX6_odds_28 ?_
    exact r_lret dX6_odds_29 ⟨by unfold sg_odds; rw [if_neg (fun q => bi_0.mp h9 q.1)], rfl, by unfold sg_odds; rw [if_neg (fun q => bi_0.mp h9 q.1)]⟩
  · refine r_iloadn dX6_odds_12 rfl ?_
    refine r_i2l dX6_odds_13 ?_
    refine r_lc 0 dX6_odds_14 ?_
    refine r_lc 1 dX6_odds_15 ?_
    refine c_S3 (μz := mX6_isIn) dX6_odds_16 kl_RX6_42 ms_X6_isIn (ok_X6_in (lo := 0) (hi := 1) (by decide) (by decide)) ?_
    refine r_if_ne 30 dX6_odds_19 (fun h19 => ?_) (fun h19 => ?_)
    · obtain ⟨m, hm, rfl⟩ := k_rng (N := 14) rfl (bi_1.mp h9)
      have em : k_v (nI m) = m := nI_clamp (by omega)
      refine r_lc 1 dX6_odds_30 ?_
      refine r_lstore3 dX6_odds_31 ?_
      refine r_lc 1 dX6_odds_32 ?_
      refine r_lstore5 dX6_odds_33 ?_
      refine r_bp (16) dX6_odds_35 ?_
      refine r_aloadn dX6_odds_37 rfl (by decide) ?_
      refine r_ic (0) dX6_odds_38 ?_
      refine c_V1 (μz := mX6_countIn) dX6_odds_39 kl_RX6_96 mv_X6_countIn rfl (ok_X6_countIn hw) ?_
      refine c_S1 (μz := mX6_many) dX6_odds_42 kl_RX6_147 ms_X6_many (ok_X6_many (g_con_lt M _ hw.1)) ?_
      refine r_isub dX6_odds_45 ?_
      rw [g_bc16 _ (g_con_lt M _ hw.1)]
      refine r_istore7 dX6_odds_46 ?_
      refine r_ic (0) dX6_odds_48 ?_
      refine r_istore8 dX6_odds_49 ?_
      unfold sg_odds
      rw [if_pos ⟨bi_1.mp h9, bi_1.mp h19⟩, em]
      exact lp_X6_odds1 (Nat.sub_le _ _) hm m 0 (by omega)
    · refine r_aloadn dX6_odds_22 rfl (by decide) ?_
      refine r_ldc dX6_odds_23 kc_RX6_37 ?_
      refine c_V1 (μz := mX6_finds) dX6_odds_25 kl_RX6_47 mv_X6_finds rfl (ok_X6_finds (w := 0) (by decide) (by decide)) ?_
      refine r_i2l dX6_odds_28 ?_
      exact r_lret dX6_odds_29 ⟨by unfold sg_odds; rw [if_neg (fun q => bi_0.mp h19 q.2)], rfl, by unfold sg_odds; rw [if_neg (fun q => bi_0.mp h19 q.2)]⟩
