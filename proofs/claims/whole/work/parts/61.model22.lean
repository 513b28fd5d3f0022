/-! ===== the other one's reader: tokens ===== -/
def g_tk (M : fp_M) (t p b v : Int32) : fp_M := fp_wr (fp_wr (fp_wr (fp_wr M 49 12 t) 49 13 p) 49 14 b) 49 15 v
theorem g_tk_at {M : fp_M} {t p b v : Int32} (k j : Nat) : g_tk M t p b v k j = if k = 49 ∧ j = 15 then v else if k = 49 ∧ j = 14 then b else if k = 49 ∧ j = 13 then p else if k = 49 ∧ j = 12 then t else M k j := rfl
theorem g_tk_12 {M : fp_M} {t p b v : Int32} : g_tk M t p b v 49 12 = t := by rw [g_tk_at]; simp
theorem g_tk_13 {M : fp_M} {t p b v : Int32} : g_tk M t p b v 49 13 = p := by rw [g_tk_at]; simp
theorem g_tk_14 {M : fp_M} {t p b v : Int32} : g_tk M t p b v 49 14 = b := by rw [g_tk_at]; simp
theorem g_tk_15 {M : fp_M} {t p b v : Int32} : g_tk M t p b v 49 15 = v := by rw [g_tk_at]; simp
theorem g_tk_6 {M : fp_M} {t p b v : Int32} : g_tk M t p b v 49 6 = M 49 6 := by rw [g_tk_at]; simp
theorem g_tk_o {M : fp_M} {t p b v : Int32} {k j : Nat} (h : ¬ k = 49) : g_tk M t p b v k j = M k j := by rw [g_tk_at]; simp [h]
theorem g_tk_oj {M : fp_M} {t p b v : Int32} {k j : Nat} (h : ¬ (12 ≤ j ∧ j ≤ 15)) : g_tk M t p b v k j = M k j := by
  rw [g_tk_at, if_neg (by omega), if_neg (by omega), if_neg (by omega), if_neg (by omega)]
theorem g_tk_eta (M : fp_M) : g_tk M (M 49 12) (M 49 13) (M 49 14) (M 49 15) = M := by
  unfold g_tk
  rw [fp_wr_same, fp_wr_same, fp_wr_same, fp_wr_same]
theorem g_tk_w {M : fp_M} {t p b v : Int32} : (∀ x, fp_wr (g_tk M t p b v) 49 12 x = g_tk M x p b v) ∧ (∀ x, fp_wr (g_tk M t p b v) 49 13 x = g_tk M t x b v) ∧ (∀ x, fp_wr (g_tk M t p b v) 49 14 x = g_tk M t p x v) ∧ (∀ x, fp_wr (g_tk M t p b v) 49 15 x = g_tk M t p b x) := by
  refine ⟨fun x => ?_, fun x => ?_, fun x => ?_, fun x => ?_⟩ <;> (
    funext k j
    rw [g_tk_at]
    show (if k = 49 ∧ j = _ then x else g_tk M t p b v k j) = _
    rw [g_tk_at]
    by_cases hk : k = 49
    · subst hk
      by_cases h2 : j = 12
      · subst h2; simp
      · by_cases h3 : j = 13
        · subst h3; simp
        · by_cases h4 : j = 14
          · subst h4; simp
          · by_cases h5 : j = 15
            · subst h5; simp
            · simp [h2, h3, h4, h5]
    · simp [hk])
theorem g_tk_k {M : fp_M} {t p b v t' p' b' v' : Int32} : g_tk (g_tk M t p b v) t' p' b' v' = g_tk M t' p' b' v' := by
  show fp_wr (fp_wr (fp_wr (fp_wr (g_tk M t p b v) 49 12 t') 49 13 p') 49 14 b') 49 15 v' = _
  rw [g_tk_w.1, g_tk_w.2.1, g_tk_w.2.2.1, g_tk_w.2.2.2]
theorem ge_tb {M : fp_M} {z k : Nat} (h : k < z) : (if k < z then M 54 k else -1) = M 54 k := if_pos h
def g_val (B : Nat → Int32) : Nat → Nat → Int32 → Int32
  | 0, _, v => v
  | n + 1, b, v => if t_cls (B b) = 2 then g_val B n (b + 1) (if 999 < v then v else 10 * v + B b - 48) else v
def g_sw (t : Int32) : Int32 := if t = 4 then 5 else if t = 5 then 4 else t
theorem t_c1 {b : Int32} : t_cls b = 1 ↔ (97 ≤ b ∧ b ≤ 122) := by
  unfold t_cls
  by_cases h : 97 ≤ b ∧ b ≤ 122
  · rw [if_pos h]; exact ⟨fun _ => h, fun _ => rfl⟩
  · rw [if_neg h]
    refine ⟨fun q => ?_, fun q => absurd q h⟩
    split at q
    · cases q
    · split at q
      · cases q
      · split at q <;> cases q
theorem t_c2 {b : Int32} : t_cls b = 2 ↔ (48 ≤ b ∧ b ≤ 57) := by
  unfold t_cls
  by_cases h : 97 ≤ b ∧ b ≤ 122
  · rw [if_pos h]
    refine ⟨fun q => absurd q (by decide), fun q => ?_⟩
    exfalso
    have h1 := Int32.le_iff_toInt_le.mp h.1
    have h2 := Int32.le_iff_toInt_le.mp q.2
    simp only [Int32.reduceToInt] at h1 h2
    omega
  · rw [if_neg h]
    by_cases h2 : 48 ≤ b ∧ b ≤ 57
    · rw [if_pos h2]; exact ⟨fun _ => h2, fun _ => rfl⟩
    · rw [if_neg h2]
      refine ⟨fun q => ?_, fun q => absurd q h2⟩
      split at q
      · cases q
      · split at q <;> cases q
/-- the reader stands well -/
def g_by (M : fp_M) (z : Nat) : Prop := z ≤ 120 ∧ M 49 6 = nI z ∧ ∀ i, i < z → 0 ≤ M 54 i
theorem lp_X6_nt1 {X : fp_X} {M : fp_M} {z : Nat} (hg : g_by M z) {t b v : Int32} {w1 : Option Value} {Post : fp_Q} : ∀ (n i : Nat), i + n = z → fp_W X mX6_nextToken 34 [some (.ref 49), w1] [] fp_sh (g_tk M t (nI (t_sp (M 54) n i)) b v) 0 0 Post → fp_W X mX6_nextToken 8 [some (.ref 49), w1] [] fp_sh (g_tk M t (nI i) b v) 0 0 Post := by
  have hz1 := hg.1
  intro n
  induction n with
  | zero =>
    intro i hi out
    refine r_aloadn dX6_nextToken_8 rfl (by decide) ?_
    refine r_aloadn dX6_nextToken_9 rfl (by decide) ?_
    refine r_getfi dX6_nextToken_10 kf_RX6_171 rfl rfl ?_
    rw [g_tk_13]
    refine c_V1 (μz := mX6_byteAt) dX6_nextToken_13 kl_RX6_174 mv_X6_byteAt rfl (ok_X6_byteAt (z := z) (k := i) (g_tk_6.trans hg.2.1) hg.1 (by have := hg.1; omega)) ?_
    rw [if_neg (by omega)]
    refine r_bp (32) dX6_nextToken_16 ?_
    refine r_icmp_ne 34 dX6_nextToken_18 (fun h18 => ?_) (fun h18 => ?_)
    · exact out
    · exact absurd h18 (by decide)
  | succ n ih =>
    intro i hi out
    refine r_aloadn dX6_nextToken_8 rfl (by decide) ?_
    refine r_aloadn dX6_nextToken_9 rfl (by decide) ?_
    refine r_getfi dX6_nextToken_10 kf_RX6_171 rfl rfl ?_
    rw [g_tk_13]
    refine c_V1 (μz := mX6_byteAt) dX6_nextToken_13 kl_RX6_174 mv_X6_byteAt rfl (ok_X6_byteAt (z := z) (k := i) (g_tk_6.trans hg.2.1) hg.1 (by have := hg.1; omega)) ?_
    rw [if_pos (by omega), g_tk_o (k := 54) (by decide)]
    refine r_bp (32) dX6_nextToken_16 ?_
    refine r_icmp_ne 34 dX6_nextToken_18 (fun h18 => ?_) (fun h18 => ?_)
    · unfold t_sp at out
      rw [if_neg h18] at out
      exact out
    · refine r_aloadn dX6_nextToken_21 rfl (by decide) ?_
      refine r_dup dX6_nextToken_22 ?_
      refine r_getfi dX6_nextToken_23 kf_RX6_171 rfl rfl ?_
      refine r_ic (1) dX6_nextToken_26 ?_
      rw [g_tk_13]
      refine r_iadd dX6_nextToken_27 ?_
      refine r_putfi dX6_nextToken_28 kf_RX6_171 rfl rfl ?_
      refine r_goto 8 dX6_nextToken_31 ?_
      rw [nI_1, g_tk_w.2.1]
      unfold t_sp at out
      rw [if_pos h18] at out
      exact ih (i + 1) (by omega) out
theorem lp_X6_nt3 {X : fp_X} {M : fp_M} {z : Nat} (hg : g_by M z) {p : Int32} {w1 : Option Value} : ∀ (n b : Nat), b + n = z → ∀ (v : Int32), fp_W X mX6_nextToken 146 [some (.ref 49), w1] [] fp_sh (g_tk M 2 p (nI b) v) 0 0 (fun r s m => r = none ∧ s = fp_sh ∧ m = g_tk M 2 p (nI (t_te (M 54) 2 n b)) (g_val (M 54) n b v)) := by
  have hz1 := hg.1
  intro n
  induction n with
  | zero =>
    intro b hb v
    refine r_aloadn dX6_nextToken_146 rfl (by decide) ?_
    refine r_getfi dX6_nextToken_147 kf_RX6_183 rfl rfl ?_
    rw [g_tk_12]
    refine r_ic (2) dX6_nextToken_150 ?_
    refine r_icmp_ne 221 dX6_nextToken_151 (fun h151 => ?_) (fun h151 => ?_)
    · exact absurd rfl h151
    · refine r_aloadn dX6_nextToken_154 rfl (by decide) ?_
      refine r_aloadn dX6_nextToken_155 rfl (by decide) ?_
      refine r_getfi dX6_nextToken_156 kf_RX6_168 rfl rfl ?_
      rw [g_tk_14]
      refine c_V1 (μz := mX6_byteAt) dX6_nextToken_159 kl_RX6_174 mv_X6_byteAt rfl (ok_X6_byteAt (z := z) (k := b) (g_tk_6.trans hg.2.1) hg.1 (by have := hg.1; omega)) ?_
      rw [if_neg (by omega)]
      refine c_S1 (μz := mX6_isDigit) dX6_nextToken_162 kl_RX6_180 ms_X6_isDigit ok_X6_isDigit ?_
      refine r_if_eq 221 dX6_nextToken_165 (fun h165 => ?_) (fun h165 => ?_)
      · refine r_aloadn dX6_nextToken_221 rfl (by decide) ?_
        refine r_dup dX6_nextToken_222 ?_
        refine r_getfi dX6_nextToken_223 kf_RX6_168 rfl rfl ?_
        rw [g_tk_14]
        refine r_aloadn dX6_nextToken_226 rfl (by decide) ?_
        refine r_getfi dX6_nextToken_227 kf_RX6_183 rfl rfl ?_
        rw [g_tk_12]
        refine r_ic (2) dX6_nextToken_230 ?_
        refine r_icmp_le 238 dX6_nextToken_231 (fun h231 => ?_) (fun h231 => ?_)
        · refine r_ic (0) dX6_nextToken_238 ?_
          refine r_iadd dX6_nextToken_239 ?_
          refine r_putfi dX6_nextToken_240 kf_RX6_168 rfl rfl ?_
          exact r_vret dX6_nextToken_243 ⟨rfl, rfl, by rw [g_tk_w.2.2.1, Int32.add_zero]; rfl⟩
        · exact absurd (by decide) h231
      · exact absurd (bi_1.mp h165) (by decide)
  | succ n ih =>
    intro b hb v
    refine r_aloadn dX6_nextToken_146 rfl (by decide) ?_
    refine r_getfi dX6_nextToken_147 kf_RX6_183 rfl rfl ?_
    rw [g_tk_12]
    refine r_ic (2) dX6_nextToken_150 ?_
    refine r_icmp_ne 221 dX6_nextToken_151 (fun h151 => ?_) (fun h151 => ?_)
    · exact absurd rfl h151
    · refine r_aloadn dX6_nextToken_154 rfl (by decide) ?_
      refine r_aloadn dX6_nextToken_155 rfl (by decide) ?_
      refine r_getfi dX6_nextToken_156 kf_RX6_168 rfl rfl ?_
      rw [g_tk_14]
      refine c_V1 (μz := mX6_byteAt) dX6_nextToken_159 kl_RX6_174 mv_X6_byteAt rfl (ok_X6_byteAt (z := z) (k := b) (g_tk_6.trans hg.2.1) hg.1 (by have := hg.1; omega)) ?_
      rw [if_pos (by omega), g_tk_o (k := 54) (by decide)]
      refine c_S1 (μz := mX6_isDigit) dX6_nextToken_162 kl_RX6_180 ms_X6_isDigit ok_X6_isDigit ?_
      refine r_if_eq 221 dX6_nextToken_165 (fun h165 => ?_) (fun h165 => ?_)
      · refine r_aloadn dX6_nextToken_221 rfl (by decide) ?_
        refine r_dup dX6_nextToken_222 ?_
        refine r_getfi dX6_nextToken_223 kf_RX6_168 rfl rfl ?_
        rw [g_tk_14]
        refine r_aloadn dX6_nextToken_226 rfl (by decide) ?_
        refine r_getfi dX6_nextToken_227 kf_RX6_183 rfl rfl ?_
        rw [g_tk_12]
        refine r_ic (2) dX6_nextToken_230 ?_
        refine r_icmp_le 238 dX6_nextToken_231 (fun h231 => ?_) (fun h231 => ?_)
        · refine r_ic (0) dX6_nextToken_238 ?_
          refine r_iadd dX6_nextToken_239 ?_
          refine r_putfi dX6_nextToken_240 kf_RX6_168 rfl rfl ?_
          exact r_vret dX6_nextToken_243 ⟨rfl, rfl, by unfold g_val t_te; rw [if_neg (fun q => bi_0.mp h165 (t_c2.mp q)), if_neg (fun q => bi_0.mp h165 (t_c2.mp q)), g_tk_w.2.2.1, Int32.add_zero]⟩
        · exact absurd (by decide) h231
      · refine r_aloadn dX6_nextToken_168 rfl (by decide) ?_
        refine r_aloadn dX6_nextToken_169 rfl (by decide) ?_
        refine r_getfi dX6_nextToken_170 kf_RX6_186 rfl rfl ?_
        rw [g_tk_15]
        refine r_sp (999) dX6_nextToken_173 ?_
        refine r_icmp_le 186 dX6_nextToken_176 (fun h176 => ?_) (fun h176 => ?_)
        · refine r_bp (10) dX6_nextToken_186 ?_
          refine r_aloadn dX6_nextToken_188 rfl (by decide) ?_
          refine r_getfi dX6_nextToken_189 kf_RX6_186 rfl rfl ?_
          rw [g_tk_15]
          refine r_imul dX6_nextToken_192 ?_
          refine r_aloadn dX6_nextToken_193 rfl (by decide) ?_
          refine r_aloadn dX6_nextToken_194 rfl (by decide) ?_
          refine r_getfi dX6_nextToken_195 kf_RX6_168 rfl rfl ?_
          rw [g_tk_14]
          refine c_V1 (μz := mX6_byteAt) dX6_nextToken_198 kl_RX6_174 mv_X6_byteAt rfl (ok_X6_byteAt (z := z) (k := b) (g_tk_6.trans hg.2.1) hg.1 (by have := hg.1; omega)) ?_
          rw [if_pos (by omega), g_tk_o (k := 54) (by decide)]
          refine r_iadd dX6_nextToken_201 ?_
          refine r_bp (48) dX6_nextToken_202 ?_
          refine r_isub dX6_nextToken_204 ?_
          refine r_putfi dX6_nextToken_205 kf_RX6_186 rfl rfl ?_
          rw [g_tk_w.2.2.2]
          refine r_aloadn dX6_nextToken_208 rfl (by decide) ?_
          refine r_dup dX6_nextToken_209 ?_
          refine r_getfi dX6_nextToken_210 kf_RX6_168 rfl rfl ?_
          rw [g_tk_14]
          refine r_ic (1) dX6_nextToken_213 ?_
          refine r_iadd dX6_nextToken_214 ?_
          refine r_putfi dX6_nextToken_215 kf_RX6_168 rfl rfl ?_
          refine r_goto 146 dX6_nextToken_218 ?_
          rw [nI_1, g_tk_w.2.2.1]
          unfold g_val t_te
          rw [if_pos (t_c2.mpr (bi_1.mp h165)), if_pos (t_c2.mpr (bi_1.mp h165)), if_neg (Int32.not_lt.mpr h176)]
          exact ih (b + 1) (by omega) _
        · refine r_aloadn dX6_nextToken_179 rfl (by decide) ?_
          refine r_getfi dX6_nextToken_180 kf_RX6_186 rfl rfl ?_
          rw [g_tk_15]
          refine r_goto 205 dX6_nextToken_183 ?_
          refine r_putfi dX6_nextToken_205 kf_RX6_186 rfl rfl ?_
          rw [g_tk_w.2.2.2]
          refine r_aloadn dX6_nextToken_208 rfl (by decide) ?_
          refine r_dup dX6_nextToken_209 ?_
          refine r_getfi dX6_nextToken_210 kf_RX6_168 rfl rfl ?_
          rw [g_tk_14]
          refine r_ic (1) dX6_nextToken_213 ?_
          refine r_iadd dX6_nextToken_214 ?_
          refine r_putfi dX6_nextToken_215 kf_RX6_168 rfl rfl ?_
          refine r_goto 146 dX6_nextToken_218 ?_
          rw [nI_1, g_tk_w.2.2.1]
          unfold g_val t_te
          rw [if_pos (t_c2.mpr (bi_1.mp h165)), if_pos (t_c2.mpr (bi_1.mp h165)), if_pos (Int32.not_le.mp h176)]
          exact ih (b + 1) (by omega) _
theorem lp_X6_nt2 {X : fp_X} {M : fp_M} {z : Nat} (hg : g_by M z) {p v : Int32} {w1 : Option Value} : ∀ (n b : Nat), b + n = z → fp_W X mX6_nextToken 111 [some (.ref 49), w1] [] fp_sh (g_tk M 1 p (nI b) v) 0 0 (fun r s m => r = none ∧ s = fp_sh ∧ m = g_tk M 1 p (nI (t_te (M 54) 1 n b)) v) := by
  have hz1 := hg.1
  intro n
  induction n with
  | zero =>
    intro b hb
    refine r_aloadn dX6_nextToken_111 rfl (by decide) ?_
    refine r_getfi dX6_nextToken_112 kf_RX6_183 rfl rfl ?_
    rw [g_tk_12]
    refine r_ic (1) dX6_nextToken_115 ?_
    refine r_icmp_ne 146 dX6_nextToken_116 (fun h116 => ?_) (fun h116 => ?_)
    · exact absurd rfl h116
    · refine r_aloadn dX6_nextToken_119 rfl (by decide) ?_
      refine r_aloadn dX6_nextToken_120 rfl (by decide) ?_
      refine r_getfi dX6_nextToken_121 kf_RX6_168 rfl rfl ?_
      rw [g_tk_14]
      refine c_V1 (μz := mX6_byteAt) dX6_nextToken_124 kl_RX6_174 mv_X6_byteAt rfl (ok_X6_byteAt (z := z) (k := b) (g_tk_6.trans hg.2.1) hg.1 (by have := hg.1; omega)) ?_
      rw [if_neg (by omega)]
      refine c_S1 (μz := mX6_isAlpha) dX6_nextToken_127 kl_RX6_177 ms_X6_isAlpha ok_X6_isAlpha ?_
      refine r_if_eq 146 dX6_nextToken_130 (fun h130 => ?_) (fun h130 => ?_)
      · refine r_aloadn dX6_nextToken_146 rfl (by decide) ?_
        refine r_getfi dX6_nextToken_147 kf_RX6_183 rfl rfl ?_
        rw [g_tk_12]
        refine r_ic (2) dX6_nextToken_150 ?_
        refine r_icmp_ne 221 dX6_nextToken_151 (fun h151 => ?_) (fun h151 => ?_)
        · refine r_aloadn dX6_nextToken_221 rfl (by decide) ?_
          refine r_dup dX6_nextToken_222 ?_
          refine r_getfi dX6_nextToken_223 kf_RX6_168 rfl rfl ?_
          rw [g_tk_14]
          refine r_aloadn dX6_nextToken_226 rfl (by decide) ?_
          refine r_getfi dX6_nextToken_227 kf_RX6_183 rfl rfl ?_
          rw [g_tk_12]
          refine r_ic (2) dX6_nextToken_230 ?_
          refine r_icmp_le 238 dX6_nextToken_231 (fun h231 => ?_) (fun h231 => ?_)
          · refine r_ic (0) dX6_nextToken_238 ?_
            refine r_iadd dX6_nextToken_239 ?_
            refine r_putfi dX6_nextToken_240 kf_RX6_168 rfl rfl ?_
            exact r_vret dX6_nextToken_243 ⟨rfl, rfl, by rw [g_tk_w.2.2.1, Int32.add_zero]; rfl⟩
          · exact absurd (by decide) h231
        · exact absurd h151 (by decide)
      · exact absurd (bi_1.mp h130) (by decide)
  | succ n ih =>
    intro b hb
    refine r_aloadn dX6_nextToken_111 rfl (by decide) ?_
    refine r_getfi dX6_nextToken_112 kf_RX6_183 rfl rfl ?_
    rw [g_tk_12]
    refine r_ic (1) dX6_nextToken_115 ?_
    refine r_icmp_ne 146 dX6_nextToken_116 (fun h116 => ?_) (fun h116 => ?_)
    · exact absurd rfl h116
    · refine r_aloadn dX6_nextToken_119 rfl (by decide) ?_
      refine r_aloadn dX6_nextToken_120 rfl (by decide) ?_
      refine r_getfi dX6_nextToken_121 kf_RX6_168 rfl rfl ?_
      rw [g_tk_14]
      refine c_V1 (μz := mX6_byteAt) dX6_nextToken_124 kl_RX6_174 mv_X6_byteAt rfl (ok_X6_byteAt (z := z) (k := b) (g_tk_6.trans hg.2.1) hg.1 (by have := hg.1; omega)) ?_
      rw [if_pos (by omega), g_tk_o (k := 54) (by decide)]
      refine c_S1 (μz := mX6_isAlpha) dX6_nextToken_127 kl_RX6_177 ms_X6_isAlpha ok_X6_isAlpha ?_
      refine r_if_eq 146 dX6_nextToken_130 (fun h130 => ?_) (fun h130 => ?_)
      · refine r_aloadn dX6_nextToken_146 rfl (by decide) ?_
        refine r_getfi dX6_nextToken_147 kf_RX6_183 rfl rfl ?_
        rw [g_tk_12]
        refine r_ic (2) dX6_nextToken_150 ?_
        refine r_icmp_ne 221 dX6_nextToken_151 (fun h151 => ?_) (fun h151 => ?_)
        · refine r_aloadn dX6_nextToken_221 rfl (by decide) ?_
          refine r_dup dX6_nextToken_222 ?_
          refine r_getfi dX6_nextToken_223 kf_RX6_168 rfl rfl ?_
          rw [g_tk_14]
          refine r_aloadn dX6_nextToken_226 rfl (by decide) ?_
          refine r_getfi dX6_nextToken_227 kf_RX6_183 rfl rfl ?_
          rw [g_tk_12]
          refine r_ic (2) dX6_nextToken_230 ?_
          refine r_icmp_le 238 dX6_nextToken_231 (fun h231 => ?_) (fun h231 => ?_)
          · refine r_ic (0) dX6_nextToken_238 ?_
            refine r_iadd dX6_nextToken_239 ?_
            refine r_putfi dX6_nextToken_240 kf_RX6_168 rfl rfl ?_
            exact r_vret dX6_nextToken_243 ⟨rfl, rfl, by unfold t_te; rw [if_neg (fun q => bi_0.mp h130 (t_c1.mp q)), g_tk_w.2.2.1, Int32.add_zero]⟩
          · exact absurd (by decide) h231
        · exact absurd h151 (by decide)
      · refine r_aloadn dX6_nextToken_133 rfl (by decide) ?_
        refine r_dup dX6_nextToken_134 ?_
        refine r_getfi dX6_nextToken_135 kf_RX6_168 rfl rfl ?_
        rw [g_tk_14]
        refine r_ic (1) dX6_nextToken_138 ?_
        refine r_iadd dX6_nextToken_139 ?_
        refine r_putfi dX6_nextToken_140 kf_RX6_168 rfl rfl ?_
        refine r_goto 111 dX6_nextToken_143 ?_
        rw [nI_1, g_tk_w.2.2.1]
        unfold t_te
        rw [if_pos (t_c1.mpr (bi_1.mp h130))]
        exact ih (b + 1) (by omega)
/-- the next token -/
def g_nx (M : fp_M) : fp_M := g_tk M (g_sw (t_nx (M 54) (k_v (M 49 6)) (k_v (M 49 14))).1) (nI (t_nx (M 54) (k_v (M 49 6)) (k_v (M 49 14))).2.1) (nI (t_nx (M 54) (k_v (M 49 6)) (k_v (M 49 14))).2.2) (if (t_nx (M 54) (k_v (M 49 6)) (k_v (M 49 14))).1 = 2 then g_val (M 54) (k_v (M 49 6) - (t_nx (M 54) (k_v (M 49 6)) (k_v (M 49 14))).2.1) (t_nx (M 54) (k_v (M 49 6)) (k_v (M 49 14))).2.1 0 else 0)
theorem t_te_s {B : Nat → Int32} {t : Int32} {z p : Nat} (hp : p < z) (h : t_cls (B p) = t) : t_te B t (z - p) p = t_te B t (z - (p + 1)) (p + 1) := by
  rw [show z - p = (z - (p + 1)) + 1 by omega]
  show (if t_cls (B p) = t then _ else _) = _
  rw [if_pos h]
theorem lp_X6_nt {X : fp_X} {M : fp_M} {z : Nat} (hg : g_by M z) {t b v : Int32} {w1 : Option Value} {p : Nat} (hp : p < z) : fp_W X mX6_nextToken 34 [some (.ref 49), w1] [] fp_sh (g_tk M t (nI p) b v) 0 0 (fun r s m => r = none ∧ s = fp_sh ∧ m = g_tk M (g_sw (t_cls (M 54 p))) (nI p) (nI (if t_cls (M 54 p) = 1 ∨ t_cls (M 54 p) = 2 then t_te (M 54) (t_cls (M 54 p)) (z - (p + 1)) (p + 1) else p + 1)) (if t_cls (M 54 p) = 2 then g_val (M 54) (z - p) p 0 else 0)) := by
  have hz1 := hg.1
  refine r_aloadn dX6_nextToken_34 rfl (by decide) ?_
  refine r_aloadn dX6_nextToken_35 rfl (by decide) ?_
  refine r_getfi dX6_nextToken_36 kf_RX6_171 rfl rfl ?_
  rw [g_tk_13]
  refine r_putfi dX6_nextToken_39 kf_RX6_168 rfl rfl ?_
  rw [g_tk_w.2.2.1]
  refine r_aloadn dX6_nextToken_42 rfl (by decide) ?_
  refine r_aloadn dX6_nextToken_43 rfl (by decide) ?_
  refine r_getfi dX6_nextToken_44 kf_RX6_171 rfl rfl ?_
  rw [g_tk_13]
  refine c_V1 (μz := mX6_byteAt) dX6_nextToken_47 kl_RX6_174 mv_X6_byteAt rfl (ok_X6_byteAt (z := z) (k := p) (g_tk_6.trans hg.2.1) hg.1 (by have := hg.1; omega)) ?_
  rw [if_pos hp, g_tk_o (k := 54) (by decide)]
  refine r_istore1 dX6_nextToken_50 ?_
  refine r_aloadn dX6_nextToken_51 rfl (by decide) ?_
  refine r_iloadn dX6_nextToken_52 rfl ?_
  refine r_if_ge 60 dX6_nextToken_53 (fun h53 => ?_) (fun h53 => ?_)
  · refine r_iloadn dX6_nextToken_60 rfl ?_
    refine c_S1 (μz := mX6_isAlpha) dX6_nextToken_61 kl_RX6_177 ms_X6_isAlpha ok_X6_isAlpha ?_
    refine r_if_eq 71 dX6_nextToken_64 (fun h64 => ?_) (fun h64 => ?_)
    · refine r_iloadn dX6_nextToken_71 rfl ?_
      refine c_S1 (μz := mX6_isDigit) dX6_nextToken_72 kl_RX6_180 ms_X6_isDigit ok_X6_isDigit ?_
      refine r_if_eq 82 dX6_nextToken_75 (fun h75 => ?_) (fun h75 => ?_)
      · refine r_iloadn dX6_nextToken_82 rfl ?_
        refine r_bp (59) dX6_nextToken_83 ?_
        refine r_icmp_ne 92 dX6_nextToken_85 (fun h85 => ?_) (fun h85 => ?_)
        · refine r_iloadn dX6_nextToken_92 rfl ?_
          refine r_bp (45) dX6_nextToken_93 ?_
          refine r_icmp_ne 102 dX6_nextToken_95 (fun h95 => ?_) (fun h95 => ?_)
          · refine r_ic (4) dX6_nextToken_102 ?_
            refine r_putfi dX6_nextToken_103 kf_RX6_183 rfl rfl ?_
            rw [g_tk_w.1]
            refine r_aloadn dX6_nextToken_106 rfl (by decide) ?_
            refine r_ic (0) dX6_nextToken_107 ?_
            refine r_putfi dX6_nextToken_108 kf_RX6_186 rfl rfl ?_
            rw [g_tk_w.2.2.2]
            have et : t_cls (M 54 p) = 5 := by unfold t_cls; rw [if_neg (bi_0.mp h64), if_neg (bi_0.mp h75), if_neg h85, if_neg h95]
            rw [show (if t_cls (M 54 p) = 1 ∨ t_cls (M 54 p) = 2 then t_te (M 54) (t_cls (M 54 p)) (z - (p + 1)) (p + 1) else p + 1) = p + 1 from by rw [et]; rfl, et]
            refine r_aloadn dX6_nextToken_111 rfl (by decide) ?_
            refine r_getfi dX6_nextToken_112 kf_RX6_183 rfl rfl ?_
            rw [g_tk_12]
            refine r_ic (1) dX6_nextToken_115 ?_
            refine r_icmp_ne 146 dX6_nextToken_116 (fun h116 => ?_) (fun h116 => ?_)
            · refine r_aloadn dX6_nextToken_146 rfl (by decide) ?_
              refine r_getfi dX6_nextToken_147 kf_RX6_183 rfl rfl ?_
              rw [g_tk_12]
              refine r_ic (2) dX6_nextToken_150 ?_
              refine r_icmp_ne 221 dX6_nextToken_151 (fun h151 => ?_) (fun h151 => ?_)
              · refine r_aloadn dX6_nextToken_221 rfl (by decide) ?_
                refine r_dup dX6_nextToken_222 ?_
                refine r_getfi dX6_nextToken_223 kf_RX6_168 rfl rfl ?_
                rw [g_tk_14]
                refine r_aloadn dX6_nextToken_226 rfl (by decide) ?_
                refine r_getfi dX6_nextToken_227 kf_RX6_183 rfl rfl ?_
                rw [g_tk_12]
                refine r_ic (2) dX6_nextToken_230 ?_
                refine r_icmp_le 238 dX6_nextToken_231 (fun h231 => ?_) (fun h231 => ?_)
                · exact absurd h231 (by decide)
                · refine r_ic (1) dX6_nextToken_234 ?_
                  refine r_goto 239 dX6_nextToken_235 ?_
                  refine r_iadd dX6_nextToken_239 ?_
                  refine r_putfi dX6_nextToken_240 kf_RX6_168 rfl rfl ?_
                  exact r_vret dX6_nextToken_243 ⟨rfl, rfl, by rw [g_tk_w.2.2.1, nI_1]; rfl⟩
              · exact absurd h151 (by decide)
            · exact absurd h116 (by decide)
          · refine r_ic (5) dX6_nextToken_98 ?_
            refine r_goto 103 dX6_nextToken_99 ?_
            refine r_putfi dX6_nextToken_103 kf_RX6_183 rfl rfl ?_
            rw [g_tk_w.1]
            refine r_aloadn dX6_nextToken_106 rfl (by decide) ?_
            refine r_ic (0) dX6_nextToken_107 ?_
            refine r_putfi dX6_nextToken_108 kf_RX6_186 rfl rfl ?_
            rw [g_tk_w.2.2.2]
            have et : t_cls (M 54 p) = 4 := by unfold t_cls; rw [if_neg (bi_0.mp h64), if_neg (bi_0.mp h75), if_neg h85, if_pos h95]
            rw [show (if t_cls (M 54 p) = 1 ∨ t_cls (M 54 p) = 2 then t_te (M 54) (t_cls (M 54 p)) (z - (p + 1)) (p + 1) else p + 1) = p + 1 from by rw [et]; rfl, et]
            refine r_aloadn dX6_nextToken_111 rfl (by decide) ?_
            refine r_getfi dX6_nextToken_112 kf_RX6_183 rfl rfl ?_
            rw [g_tk_12]
            refine r_ic (1) dX6_nextToken_115 ?_
            refine r_icmp_ne 146 dX6_nextToken_116 (fun h116 => ?_) (fun h116 => ?_)
            · refine r_aloadn dX6_nextToken_146 rfl (by decide) ?_
              refine r_getfi dX6_nextToken_147 kf_RX6_183 rfl rfl ?_
              rw [g_tk_12]
              refine r_ic (2) dX6_nextToken_150 ?_
              refine r_icmp_ne 221 dX6_nextToken_151 (fun h151 => ?_) (fun h151 => ?_)
              · refine r_aloadn dX6_nextToken_221 rfl (by decide) ?_
                refine r_dup dX6_nextToken_222 ?_
                refine r_getfi dX6_nextToken_223 kf_RX6_168 rfl rfl ?_
                rw [g_tk_14]
                refine r_aloadn dX6_nextToken_226 rfl (by decide) ?_
                refine r_getfi dX6_nextToken_227 kf_RX6_183 rfl rfl ?_
                rw [g_tk_12]
                refine r_ic (2) dX6_nextToken_230 ?_
                refine r_icmp_le 238 dX6_nextToken_231 (fun h231 => ?_) (fun h231 => ?_)
                · exact absurd h231 (by decide)
                · refine r_ic (1) dX6_nextToken_234 ?_
                  refine r_goto 239 dX6_nextToken_235 ?_
                  refine r_iadd dX6_nextToken_239 ?_
                  refine r_putfi dX6_nextToken_240 kf_RX6_168 rfl rfl ?_
                  exact r_vret dX6_nextToken_243 ⟨rfl, rfl, by rw [g_tk_w.2.2.1, nI_1]; rfl⟩
              · exact absurd h151 (by decide)
            · exact absurd h116 (by decide)
        · refine r_ic (3) dX6_nextToken_88 ?_
          refine r_goto 103 dX6_nextToken_89 ?_
          refine r_putfi dX6_nextToken_103 kf_RX6_183 rfl rfl ?_
          rw [g_tk_w.1]
          refine r_aloadn dX6_nextToken_106 rfl (by decide) ?_
          refine r_ic (0) dX6_nextToken_107 ?_
          refine r_putfi dX6_nextToken_108 kf_RX6_186 rfl rfl ?_
          rw [g_tk_w.2.2.2]
          have et : t_cls (M 54 p) = 3 := by unfold t_cls; rw [if_neg (bi_0.mp h64), if_neg (bi_0.mp h75), if_pos h85]
          rw [show (if t_cls (M 54 p) = 1 ∨ t_cls (M 54 p) = 2 then t_te (M 54) (t_cls (M 54 p)) (z - (p + 1)) (p + 1) else p + 1) = p + 1 from by rw [et]; rfl, et]
          refine r_aloadn dX6_nextToken_111 rfl (by decide) ?_
          refine r_getfi dX6_nextToken_112 kf_RX6_183 rfl rfl ?_
          rw [g_tk_12]
          refine r_ic (1) dX6_nextToken_115 ?_
          refine r_icmp_ne 146 dX6_nextToken_116 (fun h116 => ?_) (fun h116 => ?_)
          · refine r_aloadn dX6_nextToken_146 rfl (by decide) ?_
            refine r_getfi dX6_nextToken_147 kf_RX6_183 rfl rfl ?_
            rw [g_tk_12]
            refine r_ic (2) dX6_nextToken_150 ?_
            refine r_icmp_ne 221 dX6_nextToken_151 (fun h151 => ?_) (fun h151 => ?_)
            · refine r_aloadn dX6_nextToken_221 rfl (by decide) ?_
              refine r_dup dX6_nextToken_222 ?_
              refine r_getfi dX6_nextToken_223 kf_RX6_168 rfl rfl ?_
              rw [g_tk_14]
              refine r_aloadn dX6_nextToken_226 rfl (by decide) ?_
              refine r_getfi dX6_nextToken_227 kf_RX6_183 rfl rfl ?_
              rw [g_tk_12]
              refine r_ic (2) dX6_nextToken_230 ?_
              refine r_icmp_le 238 dX6_nextToken_231 (fun h231 => ?_) (fun h231 => ?_)
              · exact absurd h231 (by decide)
              · refine r_ic (1) dX6_nextToken_234 ?_
                refine r_goto 239 dX6_nextToken_235 ?_
                refine r_iadd dX6_nextToken_239 ?_
                refine r_putfi dX6_nextToken_240 kf_RX6_168 rfl rfl ?_
                exact r_vret dX6_nextToken_243 ⟨rfl, rfl, by rw [g_tk_w.2.2.1, nI_1]; rfl⟩
            · exact absurd h151 (by decide)
          · exact absurd h116 (by decide)
      · refine r_ic (2) dX6_nextToken_78 ?_
        refine r_goto 103 dX6_nextToken_79 ?_
        refine r_putfi dX6_nextToken_103 kf_RX6_183 rfl rfl ?_
        rw [g_tk_w.1]
        refine r_aloadn dX6_nextToken_106 rfl (by decide) ?_
        refine r_ic (0) dX6_nextToken_107 ?_
        refine r_putfi dX6_nextToken_108 kf_RX6_186 rfl rfl ?_
        rw [g_tk_w.2.2.2]
        have et : t_cls (M 54 p) = 2 := by unfold t_cls; rw [if_neg (bi_0.mp h64), if_pos (bi_1.mp h75)]
        rw [show (if t_cls (M 54 p) = 1 ∨ t_cls (M 54 p) = 2 then t_te (M 54) (t_cls (M 54 p)) (z - (p + 1)) (p + 1) else p + 1) = t_te (M 54) 2 (z - p) p from by rw [if_pos (Or.inr et), et, t_te_s hp et], et]
        refine r_aloadn dX6_nextToken_111 rfl (by decide) ?_
        refine r_getfi dX6_nextToken_112 kf_RX6_183 rfl rfl ?_
        refine r_ic (1) dX6_nextToken_115 ?_
        rw [g_tk_12]
        refine r_icmp_ne 146 dX6_nextToken_116 (fun h116 => ?_) (fun h116 => ?_)
        · exact lp_X6_nt3 hg (z - p) p (by omega) 0
        · exact absurd h116 (by decide)
    · refine r_ic (1) dX6_nextToken_67 ?_
      refine r_goto 103 dX6_nextToken_68 ?_
      refine r_putfi dX6_nextToken_103 kf_RX6_183 rfl rfl ?_
      rw [g_tk_w.1]
      refine r_aloadn dX6_nextToken_106 rfl (by decide) ?_
      refine r_ic (0) dX6_nextToken_107 ?_
      refine r_putfi dX6_nextToken_108 kf_RX6_186 rfl rfl ?_
      rw [g_tk_w.2.2.2]
      have et : t_cls (M 54 p) = 1 := by unfold t_cls; rw [if_pos (bi_1.mp h64)]
      rw [show (if t_cls (M 54 p) = 1 ∨ t_cls (M 54 p) = 2 then t_te (M 54) (t_cls (M 54 p)) (z - (p + 1)) (p + 1) else p + 1) = t_te (M 54) 1 (z - p) p from by rw [if_pos (Or.inl et), et, t_te_s hp et], et]
      exact lp_X6_nt2 hg (z - p) p (by omega)
  · exact absurd (hg.2.2 p hp) h53
theorem lp_X6_nt0 {X : fp_X} {M : fp_M} {z : Nat} (hg : g_by M z) {t b v : Int32} {w1 : Option Value} : fp_W X mX6_nextToken 34 [some (.ref 49), w1] [] fp_sh (g_tk M t (nI z) b v) 0 0 (fun r s m => r = none ∧ s = fp_sh ∧ m = g_tk M 0 (nI z) (nI z) 0) := by
  have hz1 := hg.1
  refine r_aloadn dX6_nextToken_34 rfl (by decide) ?_
  refine r_aloadn dX6_nextToken_35 rfl (by decide) ?_
  refine r_getfi dX6_nextToken_36 kf_RX6_171 rfl rfl ?_
  rw [g_tk_13]
  refine r_putfi dX6_nextToken_39 kf_RX6_168 rfl rfl ?_
  rw [g_tk_w.2.2.1]
  refine r_aloadn dX6_nextToken_42 rfl (by decide) ?_
  refine r_aloadn dX6_nextToken_43 rfl (by decide) ?_
  refine r_getfi dX6_nextToken_44 kf_RX6_171 rfl rfl ?_
  rw [g_tk_13]
  refine c_V1 (μz := mX6_byteAt) dX6_nextToken_47 kl_RX6_174 mv_X6_byteAt rfl (ok_X6_byteAt (z := z) (k := z) (g_tk_6.trans hg.2.1) hg.1 (by have := hg.1; omega)) ?_
  rw [if_neg (by omega)]
  refine r_istore1 dX6_nextToken_50 ?_
  refine r_aloadn dX6_nextToken_51 rfl (by decide) ?_
  refine r_iloadn dX6_nextToken_52 rfl ?_
  refine r_if_ge 60 dX6_nextToken_53 (fun h53 => ?_) (fun h53 => ?_)
  · exact absurd h53 (by decide)
  · refine r_ic (0) dX6_nextToken_56 ?_
    refine r_goto 103 dX6_nextToken_57 ?_
    refine r_putfi dX6_nextToken_103 kf_RX6_183 rfl rfl ?_
    rw [g_tk_w.1]
    refine r_aloadn dX6_nextToken_106 rfl (by decide) ?_
    refine r_ic (0) dX6_nextToken_107 ?_
    refine r_putfi dX6_nextToken_108 kf_RX6_186 rfl rfl ?_
    rw [g_tk_w.2.2.2]
    refine r_aloadn dX6_nextToken_111 rfl (by decide) ?_
    refine r_getfi dX6_nextToken_112 kf_RX6_183 rfl rfl ?_
    rw [g_tk_12]
    refine r_ic (1) dX6_nextToken_115 ?_
    refine r_icmp_ne 146 dX6_nextToken_116 (fun h116 => ?_) (fun h116 => ?_)
    · refine r_aloadn dX6_nextToken_146 rfl (by decide) ?_
      refine r_getfi dX6_nextToken_147 kf_RX6_183 rfl rfl ?_
      rw [g_tk_12]
      refine r_ic (2) dX6_nextToken_150 ?_
      refine r_icmp_ne 221 dX6_nextToken_151 (fun h151 => ?_) (fun h151 => ?_)
      · refine r_aloadn dX6_nextToken_221 rfl (by decide) ?_
        refine r_dup dX6_nextToken_222 ?_
        refine r_getfi dX6_nextToken_223 kf_RX6_168 rfl rfl ?_
        rw [g_tk_14]
        refine r_aloadn dX6_nextToken_226 rfl (by decide) ?_
        refine r_getfi dX6_nextToken_227 kf_RX6_183 rfl rfl ?_
        rw [g_tk_12]
        refine r_ic (2) dX6_nextToken_230 ?_
        refine r_icmp_le 238 dX6_nextToken_231 (fun h231 => ?_) (fun h231 => ?_)
        · refine r_ic (0) dX6_nextToken_238 ?_
          refine r_iadd dX6_nextToken_239 ?_
          refine r_putfi dX6_nextToken_240 kf_RX6_168 rfl rfl ?_
          exact r_vret dX6_nextToken_243 ⟨rfl, rfl, by rw [g_tk_w.2.2.1, Int32.add_zero]⟩
        · exact absurd (by decide) h231
      · exact absurd h151 (by decide)
    · exact absurd h116 (by decide)
theorem ok_X6_nextToken {X : fp_X} {M : fp_M} {z : Nat} (hg : g_by M z) {b : Nat} (hb : M 49 14 = nI b) (hbz : b ≤ z) : fp_Ev X mX6_nextToken [.ref 49] fp_sh M none (g_nx M) := by
  refine fp_ok [some (.ref 49), none] ?_
  have hz1 := hg.1
  have ez : k_v (M 49 6) = z := by show (M 49 6).toNatClampNeg = z; rw [hg.2.1]; exact nI_clamp (by omega)
  have eb : k_v (M 49 14) = b := by show (M 49 14).toNatClampNeg = b; rw [hb]; exact nI_clamp (by omega)
  have hs := t_sp_le (M 54) (z - b) b
  refine r_aloadn dX6_nextToken_0 rfl (by decide) ?_
  refine r_aloadn dX6_nextToken_1 rfl (by decide) ?_
  refine r_getfi dX6_nextToken_2 kf_RX6_168 rfl rfl ?_
  refine r_putfi dX6_nextToken_5 kf_RX6_171 rfl rfl ?_
  have e0 : fp_wr M 49 13 (M 49 14) = g_tk M (M 49 12) (nI b) (M 49 14) (M 49 15) := by
    have e := (g_tk_w (M := M) (t := M 49 12) (p := M 49 13) (b := M 49 14) (v := M 49 15)).2.1 (nI b)
    rw [g_tk_eta] at e
    rw [← e, hb]
  rw [e0]
  refine lp_X6_nt1 hg (z - b) b (by omega) ?_
  unfold g_nx
  rw [ez, eb]
  unfold t_nx
  by_cases hp : t_sp (M 54) (z - b) b < z
  · rw [if_pos hp]
    exact lp_X6_nt hg hp
  · rw [if_neg hp]
    rw [show t_sp (M 54) (z - b) b = z by omega]
    exact lp_X6_nt0 hg
