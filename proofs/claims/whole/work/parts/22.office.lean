/-! ===== the office's methods ===== -/
/-- a set of numbers, told as bits -/
def k_bn (p : Nat → Bool) : Nat → Nat
  | 0 => 0
  | n + 1 => k_bn p n + (if p n = true then 2 ^ n else 0)
theorem k_bn_lt (p : Nat → Bool) : ∀ n, k_bn p n < 2 ^ n
  | 0 => by simp [k_bn]
  | n + 1 => by
    have := k_bn_lt p n
    unfold k_bn
    rw [Nat.pow_succ]
    split <;> omega
theorem k_or8 : ∀ i, i < 8 → ∀ a, a < 2 ^ i → nI a ||| ((1 : Int32) <<< (nI i &&& 31)) = nI (a + 2 ^ i) := by decide +kernel
theorem k_or80 : ∀ i, i < 8 → ∀ a, a < 2 ^ i → nI a ||| ((0 : Int32) <<< (nI i &&& 31)) = nI a := by decide +kernel
theorem k_bn_or {p : Nat → Bool} {i : Nat} (hi : i < 8) (h : p i = true) : nI (k_bn p i) ||| ((1 : Int32) <<< (nI i &&& 31)) = nI (k_bn p (i + 1)) := by
  rw [k_or8 i hi _ (k_bn_lt p i)]
  show _ = nI (k_bn p i + (if p i = true then 2 ^ i else 0))
  rw [if_pos h]
theorem k_bn_no {p : Nat → Bool} {i : Nat} (h : p i = false) : k_bn p (i + 1) = k_bn p i := by
  show k_bn p i + (if p i = true then 2 ^ i else 0) = k_bn p i
  rw [h]
  simp
/-- does the letter at L count on a day -/
abbrev k_cnt (M : fp_M) (L : Nat) (f day : Int32) : Prop := M L 5 = 0 ∧ k_comes (M L 0) (M L 4) (M L 3) f ≤ day
/-- sets of letters of the office at o -/
def k_con (M : fp_M) (o c : Nat) (day : Int32) : Nat := k_bn (fun i => decide (k_cnt M (o + 2 + i) (M o 3) day)) c
def k_tco (M : fp_M) (o c : Nat) : Nat := k_bn (fun i => decide (M o 4 < k_comes (M (o + 2 + i) 0) (M (o + 2 + i) 4) (M (o + 2 + i) 3) (M o 3))) c
def k_str (M : fp_M) (o c : Nat) : Nat := k_bn (fun i => decide (M (o + 2 + i) 5 = 1)) c
def k_days (M : fp_M) (o : Nat) : Nat → Int32
  | 0 => 0
  | n + 1 => k_days M o n + M (o + 2 + n) 3
def k_held (M : fp_M) (o : Nat) : Nat → Int32
  | 0 => 0
  | n + 1 => if M (o + 10) n = -1 then k_held M o n else k_held M o n + 1
theorem ok_X2_has {X : fp_X} {M : fp_M} {o : Nat} {a : Int32} (ho : fp_of o): fp_Ev X mX2_has [.ref o, .int a] fp_sh M (some (.int (bi (0 ≤ a ∧ a < M o 1)))) M := by
  refine fp_ok [some (.ref o), some (.int a)] ?_
  refine r_iloadn dX2_has_0 rfl ?_
  refine r_if_lt 16 dX2_has_1 (fun h1 => ?_) (fun h1 => ?_)
  · refine r_ic (0) dX2_has_16 ?_
    exact r_iret dX2_has_17 ⟨by first | rw [bi_f (by simp only [Int32.le_iff_toInt_le, Int32.lt_iff_toInt_lt, ← Int32.toInt_inj, Int32.reduceToInt] at *; omega)] | rw [bi_t (by simp only [Int32.le_iff_toInt_le, Int32.lt_iff_toInt_lt, ← Int32.toInt_inj, Int32.reduceToInt] at *; omega)], rfl, rfl⟩
  · refine r_iloadn dX2_has_4 rfl ?_
    refine r_aloadn dX2_has_5 rfl (Or.inl ⟨(by have := ho.lt; omega), (by have := ho.lt; omega)⟩) ?_
    refine r_getfi dX2_has_6 kf_RX2_17 (sh_o ho) rfl ?_
    refine r_icmp_ge 16 dX2_has_9 (fun h9 => ?_) (fun h9 => ?_)
    · refine r_ic (0) dX2_has_16 ?_
      exact r_iret dX2_has_17 ⟨by first | rw [bi_f (by simp only [Int32.le_iff_toInt_le, Int32.lt_iff_toInt_lt, ← Int32.toInt_inj, Int32.reduceToInt] at *; omega)] | rw [bi_t (by simp only [Int32.le_iff_toInt_le, Int32.lt_iff_toInt_lt, ← Int32.toInt_inj, Int32.reduceToInt] at *; omega)], rfl, rfl⟩
    · refine r_ic (1) dX2_has_12 ?_
      refine r_goto 17 dX2_has_13 ?_
      exact r_iret dX2_has_17 ⟨by first | rw [bi_f (by simp only [Int32.le_iff_toInt_le, Int32.lt_iff_toInt_lt, ← Int32.toInt_inj, Int32.reduceToInt] at *; omega)] | rw [bi_t (by simp only [Int32.le_iff_toInt_le, Int32.lt_iff_toInt_lt, ← Int32.toInt_inj, Int32.reduceToInt] at *; omega)], rfl, rfl⟩
theorem ok_X2_hasAll {X : fp_X} {M : fp_M} {o : Nat} {a : Int32} (ho : fp_of o): fp_Ev X mX2_hasAll [.ref o, .int a] fp_sh M (some (.int (bi (0 ≤ a ∧ a < 1 <<< (M o 1 &&& 31))))) M := by
  refine fp_ok [some (.ref o), some (.int a)] ?_
  refine r_iloadn dX2_hasAll_0 rfl ?_
  refine r_if_lt 18 dX2_hasAll_1 (fun h1 => ?_) (fun h1 => ?_)
  · refine r_ic (0) dX2_hasAll_18 ?_
    exact r_iret dX2_hasAll_19 ⟨by first | rw [bi_f (by simp only [Int32.le_iff_toInt_le, Int32.lt_iff_toInt_lt, ← Int32.toInt_inj, Int32.reduceToInt] at *; omega)] | rw [bi_t (by simp only [Int32.le_iff_toInt_le, Int32.lt_iff_toInt_lt, ← Int32.toInt_inj, Int32.reduceToInt] at *; omega)], rfl, rfl⟩
  · refine r_iloadn dX2_hasAll_4 rfl ?_
    refine r_ic (1) dX2_hasAll_5 ?_
    refine r_aloadn dX2_hasAll_6 rfl (Or.inl ⟨(by have := ho.lt; omega), (by have := ho.lt; omega)⟩) ?_
    refine r_getfi dX2_hasAll_7 kf_RX2_17 (sh_o ho) rfl ?_
    refine r_ishl dX2_hasAll_10 ?_
    refine r_icmp_ge 18 dX2_hasAll_11 (fun h11 => ?_) (fun h11 => ?_)
    · refine r_ic (0) dX2_hasAll_18 ?_
      exact r_iret dX2_hasAll_19 ⟨by first | rw [bi_f (by simp only [Int32.le_iff_toInt_le, Int32.lt_iff_toInt_lt, ← Int32.toInt_inj, Int32.reduceToInt] at *; omega)] | rw [bi_t (by simp only [Int32.le_iff_toInt_le, Int32.lt_iff_toInt_lt, ← Int32.toInt_inj, Int32.reduceToInt] at *; omega)], rfl, rfl⟩
    · refine r_ic (1) dX2_hasAll_14 ?_
      refine r_goto 19 dX2_hasAll_15 ?_
      exact r_iret dX2_hasAll_19 ⟨by first | rw [bi_f (by simp only [Int32.le_iff_toInt_le, Int32.lt_iff_toInt_lt, ← Int32.toInt_inj, Int32.reduceToInt] at *; omega)] | rw [bi_t (by simp only [Int32.le_iff_toInt_le, Int32.lt_iff_toInt_lt, ← Int32.toInt_inj, Int32.reduceToInt] at *; omega)], rfl, rfl⟩
theorem ok_X2_draw {X : fp_X} {M : fp_M} {o : Nat} (ho : fp_of o): fp_Ev X mX2_draw [.ref o] fp_sh M (some (.int ((M o 5 * 1103515245 + 12345).toUInt32 >>> ((8 : Int32).toUInt32 &&& Int32.toUInt32 31)).toInt32)) (fp_wr M o 5 (M o 5 * 1103515245 + 12345)) := by
  refine fp_ok [some (.ref o)] ?_
  refine r_aloadn dX2_draw_0 rfl (Or.inl ⟨(by have := ho.lt; omega), (by have := ho.lt; omega)⟩) ?_
  refine r_aloadn dX2_draw_1 rfl (Or.inl ⟨(by have := ho.lt; omega), (by have := ho.lt; omega)⟩) ?_
  refine r_getfi dX2_draw_2 kf_RX2_30 (sh_o ho) rfl ?_
  refine r_ldc dX2_draw_5 kc_RX2_80 ?_
  refine r_imul dX2_draw_7 ?_
  refine r_sp (12345) dX2_draw_8 ?_
  refine r_iadd dX2_draw_11 ?_
  refine r_putfi dX2_draw_12 kf_RX2_30 (sh_o ho) rfl ?_
  refine r_aloadn dX2_draw_15 rfl (Or.inl ⟨(by have := ho.lt; omega), (by have := ho.lt; omega)⟩) ?_
  refine r_getfi dX2_draw_16 kf_RX2_30 (sh_o ho) rfl ?_
  refine r_bp (8) dX2_draw_19 ?_
  refine r_iushr dX2_draw_21 ?_
  exact r_iret dX2_draw_22 ⟨by simp [fp_wr], rfl, rfl⟩
theorem ok_X2_counts {X : fp_X} {M : fp_M} {o L : Nat} {d : Int32} (ho : fp_of o) (hL : fp_isL L): fp_Ev X mX2_counts [.ref o, .ref L, .int d] fp_sh M (some (.int (bi (k_cnt M L (M o 3) d)))) M := by
  refine fp_ok [some (.ref o), some (.ref L), some (.int d)] ?_
  refine r_aloadn dX2_counts_0 rfl (Or.inl ⟨Nat.lt_of_lt_of_le hL.lt (by decide), by have := hL.lt; omega⟩) ?_
  refine r_getfi dX2_counts_1 kf_RX2_69 hL rfl ?_
  refine r_if_ne 23 dX2_counts_4 (fun h4 => ?_) (fun h4 => ?_)
  · refine r_ic (0) dX2_counts_23 ?_
    exact r_iret dX2_counts_24 ⟨by first | rw [bi_t ⟨by assumption, Int32.not_lt.mp (by assumption)⟩] | rw [bi_f (fun q => absurd q.1 (by assumption))] | rw [bi_f (fun q => absurd q.2 (Int32.not_le.mpr (by assumption)))], rfl, rfl⟩
  · refine r_aloadn dX2_counts_7 rfl (Or.inl ⟨Nat.lt_of_lt_of_le hL.lt (by decide), by have := hL.lt; omega⟩) ?_
    refine r_aloadn dX2_counts_8 rfl (Or.inl ⟨(by have := ho.lt; omega), (by have := ho.lt; omega)⟩) ?_
    refine r_getfi dX2_counts_9 kf_RX2_24 (sh_o ho) rfl ?_
    refine c_V1 (μz := mX1_comes) dX2_counts_12 kl_RX2_72 mv_X1_comes hL (ok_X1_comes hL) ?_
    refine r_iloadn dX2_counts_15 rfl ?_
    refine r_icmp_gt 23 dX2_counts_16 (fun h16 => ?_) (fun h16 => ?_)
    · refine r_ic (0) dX2_counts_23 ?_
      exact r_iret dX2_counts_24 ⟨by first | rw [bi_t ⟨by assumption, Int32.not_lt.mp (by assumption)⟩] | rw [bi_f (fun q => absurd q.1 (by assumption))] | rw [bi_f (fun q => absurd q.2 (Int32.not_le.mpr (by assumption)))], rfl, rfl⟩
    · refine r_ic (1) dX2_counts_19 ?_
      refine r_goto 24 dX2_counts_20 ?_
      exact r_iret dX2_counts_24 ⟨by first | rw [bi_t ⟨by assumption, Int32.not_lt.mp (by assumption)⟩] | rw [bi_f (fun q => absurd q.1 (by assumption))] | rw [bi_f (fun q => absurd q.2 (Int32.not_le.mpr (by assumption)))], rfl, rfl⟩
theorem lp_X2_countingOn {X : fp_X} {M : fp_M} {o c : Nat} (ho : fp_of o) (hc : M o 1 = nI c) (h8 : c ≤ 8) {d : Int32} : ∀ (n i : Nat), i + n = c → fp_W X mX2_countingOn 4 [some (.ref o), some (.int d), some (.int (nI (k_con M o i d))), some (.int (nI i))] [] fp_sh M 0 0 (fun r s m => r = some (.int (nI (k_con M o c d))) ∧ s = fp_sh ∧ m = M) := by
  intro n
  induction n with
  | zero =>
    intro i hi 
    have ti : (nI i).toInt = (i : Int) := nI_toInt (by omega)
    have tc : (M o 1).toInt = (c : Int) := by rw [hc]; exact nI_toInt (by omega)
    refine r_iloadn dX2_countingOn_4 rfl ?_
    refine r_aloadn dX2_countingOn_5 rfl (Or.inl ⟨(by have := ho.lt; omega), (by have := ho.lt; omega)⟩) ?_
    refine r_getfi dX2_countingOn_6 kf_RX2_17 (sh_o ho) rfl ?_
    refine r_icmp_ge 38 dX2_countingOn_9 (fun h9 => ?_) (fun h9 => ?_)
    · refine r_iloadn dX2_countingOn_38 rfl ?_
      exact r_iret dX2_countingOn_39 ⟨by rw [show i = c by omega], rfl, rfl⟩
    · exfalso; simp only [Int32.le_iff_toInt_le, Int32.lt_iff_toInt_lt, Int32.reduceToInt] at h9; omega
  | succ n ih =>
    intro i hi 
    have ti : (nI i).toInt = (i : Int) := nI_toInt (by omega)
    have tc : (M o 1).toInt = (c : Int) := by rw [hc]; exact nI_toInt (by omega)
    refine r_iloadn dX2_countingOn_4 rfl ?_
    refine r_aloadn dX2_countingOn_5 rfl (Or.inl ⟨(by have := ho.lt; omega), (by have := ho.lt; omega)⟩) ?_
    refine r_getfi dX2_countingOn_6 kf_RX2_17 (sh_o ho) rfl ?_
    refine r_icmp_ge 38 dX2_countingOn_9 (fun h9 => ?_) (fun h9 => ?_)
    · exfalso; simp only [Int32.le_iff_toInt_le, Int32.lt_iff_toInt_lt, Int32.reduceToInt] at h9; omega
    · refine r_aloadn dX2_countingOn_12 rfl (Or.inl ⟨(by have := ho.lt; omega), (by have := ho.lt; omega)⟩) ?_
      refine r_aloadn dX2_countingOn_13 rfl (Or.inl ⟨(by have := ho.lt; omega), (by have := ho.lt; omega)⟩) ?_
      refine r_getfr dX2_countingOn_14 kf_RX2_11 (sh_o ho) rfl ?_ (by have := ho.lt; omega)
      refine r_iloadn dX2_countingOn_17 rfl ?_
      refine r_aaldL (j := i) dX2_countingOn_18 (sh_r ho) rfl (sh_rr (by omega)) (by have := ho.lt; omega) (Nat.le_of_ble_eq_true rfl) ?_
      refine r_iloadn dX2_countingOn_19 rfl ?_
      refine c_V2 (μz := mX2_counts) dX2_countingOn_20 kl_RX2_76 mv_X2_counts (sh_o ho) (ok_X2_counts ho (sh_l ho (by omega))) ?_
      refine r_if_eq 32 dX2_countingOn_23 (fun h23 => ?_) (fun h23 => ?_)
      · refine r_iinc3 (1) dX2_countingOn_32 ?_
        refine r_goto 4 dX2_countingOn_35 ?_
        rw [nI_1]
        first | (rw [show nI (k_con M o i d) ||| _ = nI (k_con M o (i + 1) d) from k_bn_or (by omega) (decide_eq_true (bi_1.mp h23))]; exact ih (i + 1) (by omega)) | (have e := ih (i + 1) (by omega); rw [show k_con M o (i + 1) d = k_con M o i d from k_bn_no (decide_eq_false (bi_0.mp h23))] at e; exact e)
      · refine r_iloadn dX2_countingOn_26 rfl ?_
        refine r_ic (1) dX2_countingOn_27 ?_
        refine r_iloadn dX2_countingOn_28 rfl ?_
        refine r_ishl dX2_countingOn_29 ?_
        refine r_ior dX2_countingOn_30 ?_
        refine r_istore2 dX2_countingOn_31 ?_
        refine r_iinc3 (1) dX2_countingOn_32 ?_
        refine r_goto 4 dX2_countingOn_35 ?_
        rw [nI_1]
        first | (rw [show nI (k_con M o i d) ||| _ = nI (k_con M o (i + 1) d) from k_bn_or (by omega) (decide_eq_true (bi_1.mp h23))]; exact ih (i + 1) (by omega)) | (have e := ih (i + 1) (by omega); rw [show k_con M o (i + 1) d = k_con M o i d from k_bn_no (decide_eq_false (bi_0.mp h23))] at e; exact e)

theorem ok_X2_countingOn {X : fp_X} {M : fp_M} {o c : Nat} {d : Int32} (ho : fp_of o) (hc : M o 1 = nI c) (h8 : c ≤ 8): fp_Ev X mX2_countingOn [.ref o, .int d] fp_sh M (some (.int (nI (k_con M o c d)))) M := by
  refine fp_ok [some (.ref o), some (.int d), none, none] ?_
  refine r_ic (0) dX2_countingOn_0 ?_
  refine r_istore2 dX2_countingOn_1 ?_
  refine r_ic (0) dX2_countingOn_2 ?_
  refine r_istore3 dX2_countingOn_3 ?_
  exact lp_X2_countingOn ho hc h8 c 0 (by omega)
theorem lp_X2_toCome {X : fp_X} {M : fp_M} {o c : Nat} (ho : fp_of o) (hc : M o 1 = nI c) (h8 : c ≤ 8) : ∀ (n i : Nat), i + n = c → fp_W X mX2_toCome 4 [some (.ref o), some (.int (nI (k_tco M o i))), some (.int (nI i))] [] fp_sh M 0 0 (fun r s m => r = some (.int (nI (k_tco M o c))) ∧ s = fp_sh ∧ m = M) := by
  intro n
  induction n with
  | zero =>
    intro i hi 
    have ti : (nI i).toInt = (i : Int) := nI_toInt (by omega)
    have tc : (M o 1).toInt = (c : Int) := by rw [hc]; exact nI_toInt (by omega)
    refine r_iloadn dX2_toCome_4 rfl ?_
    refine r_aloadn dX2_toCome_5 rfl (Or.inl ⟨(by have := ho.lt; omega), (by have := ho.lt; omega)⟩) ?_
    refine r_getfi dX2_toCome_6 kf_RX2_17 (sh_o ho) rfl ?_
    refine r_icmp_ge 44 dX2_toCome_9 (fun h9 => ?_) (fun h9 => ?_)
    · refine r_iloadn dX2_toCome_44 rfl ?_
      exact r_iret dX2_toCome_45 ⟨by rw [show i = c by omega], rfl, rfl⟩
    · exfalso; simp only [Int32.le_iff_toInt_le, Int32.lt_iff_toInt_lt, Int32.reduceToInt] at h9; omega
  | succ n ih =>
    intro i hi 
    have ti : (nI i).toInt = (i : Int) := nI_toInt (by omega)
    have tc : (M o 1).toInt = (c : Int) := by rw [hc]; exact nI_toInt (by omega)
    refine r_iloadn dX2_toCome_4 rfl ?_
    refine r_aloadn dX2_toCome_5 rfl (Or.inl ⟨(by have := ho.lt; omega), (by have := ho.lt; omega)⟩) ?_
    refine r_getfi dX2_toCome_6 kf_RX2_17 (sh_o ho) rfl ?_
    refine r_icmp_ge 44 dX2_toCome_9 (fun h9 => ?_) (fun h9 => ?_)
    · exfalso; simp only [Int32.le_iff_toInt_le, Int32.lt_iff_toInt_lt, Int32.reduceToInt] at h9; omega
    · refine r_aloadn dX2_toCome_12 rfl (Or.inl ⟨(by have := ho.lt; omega), (by have := ho.lt; omega)⟩) ?_
      refine r_getfr dX2_toCome_13 kf_RX2_11 (sh_o ho) rfl ?_ (by have := ho.lt; omega)
      refine r_iloadn dX2_toCome_16 rfl ?_
      refine r_aaldL (j := i) dX2_toCome_17 (sh_r ho) rfl (sh_rr (by omega)) (by have := ho.lt; omega) (Nat.le_of_ble_eq_true rfl) ?_
      refine r_aloadn dX2_toCome_18 rfl (Or.inl ⟨(by have := ho.lt; omega), (by have := ho.lt; omega)⟩) ?_
      refine r_getfi dX2_toCome_19 kf_RX2_24 (sh_o ho) rfl ?_
      refine c_V1 (μz := mX1_comes) dX2_toCome_22 kl_RX2_72 mv_X1_comes (sh_l ho (by omega)) (ok_X1_comes (sh_l ho (by omega))) ?_
      refine r_aloadn dX2_toCome_25 rfl (Or.inl ⟨(by have := ho.lt; omega), (by have := ho.lt; omega)⟩) ?_
      refine r_getfi dX2_toCome_26 kf_RX2_27 (sh_o ho) rfl ?_
      refine r_icmp_le 38 dX2_toCome_29 (fun h29 => ?_) (fun h29 => ?_)
      · refine r_iinc2 (1) dX2_toCome_38 ?_
        refine r_goto 4 dX2_toCome_41 ?_
        rw [nI_1]
        first | (rw [show nI (k_tco M o i) ||| _ = nI (k_tco M o (i + 1)) from k_bn_or (by omega) (decide_eq_true (Int32.not_le.mp h29))]; exact ih (i + 1) (by omega)) | (have e := ih (i + 1) (by omega); rw [show k_tco M o (i + 1) = k_tco M o i from k_bn_no (decide_eq_false (Int32.not_lt.mpr h29))] at e; exact e)
      · refine r_iloadn dX2_toCome_32 rfl ?_
        refine r_ic (1) dX2_toCome_33 ?_
        refine r_iloadn dX2_toCome_34 rfl ?_
        refine r_ishl dX2_toCome_35 ?_
        refine r_ior dX2_toCome_36 ?_
        refine r_istore1 dX2_toCome_37 ?_
        refine r_iinc2 (1) dX2_toCome_38 ?_
        refine r_goto 4 dX2_toCome_41 ?_
        rw [nI_1]
        first | (rw [show nI (k_tco M o i) ||| _ = nI (k_tco M o (i + 1)) from k_bn_or (by omega) (decide_eq_true (Int32.not_le.mp h29))]; exact ih (i + 1) (by omega)) | (have e := ih (i + 1) (by omega); rw [show k_tco M o (i + 1) = k_tco M o i from k_bn_no (decide_eq_false (Int32.not_lt.mpr h29))] at e; exact e)

theorem ok_X2_toCome {X : fp_X} {M : fp_M} {o c : Nat} (ho : fp_of o) (hc : M o 1 = nI c) (h8 : c ≤ 8): fp_Ev X mX2_toCome [.ref o] fp_sh M (some (.int (nI (k_tco M o c)))) M := by
  refine fp_ok [some (.ref o), none, none] ?_
  refine r_ic (0) dX2_toCome_0 ?_
  refine r_istore1 dX2_toCome_1 ?_
  refine r_ic (0) dX2_toCome_2 ?_
  refine r_istore2 dX2_toCome_3 ?_
  exact lp_X2_toCome ho hc h8 c 0 (by omega)
theorem lp_X2_struckOnes {X : fp_X} {M : fp_M} {o c : Nat} (ho : fp_of o) (hc : M o 1 = nI c) (h8 : c ≤ 8) (h01 : ∀ i, i < c → M (o + 2 + i) 5 = 0 ∨ M (o + 2 + i) 5 = 1) : ∀ (n i : Nat), i + n = c → fp_W X mX2_struckOnes 4 [some (.ref o), some (.int (nI (k_str M o i))), some (.int (nI i))] [] fp_sh M 0 0 (fun r s m => r = some (.int (nI (k_str M o c))) ∧ s = fp_sh ∧ m = M) := by
  intro n
  induction n with
  | zero =>
    intro i hi 
    have ti : (nI i).toInt = (i : Int) := nI_toInt (by omega)
    have tc : (M o 1).toInt = (c : Int) := by rw [hc]; exact nI_toInt (by omega)
    refine r_iloadn dX2_struckOnes_4 rfl ?_
    refine r_aloadn dX2_struckOnes_5 rfl (Or.inl ⟨(by have := ho.lt; omega), (by have := ho.lt; omega)⟩) ?_
    refine r_getfi dX2_struckOnes_6 kf_RX2_17 (sh_o ho) rfl ?_
    refine r_icmp_ge 32 dX2_struckOnes_9 (fun h9 => ?_) (fun h9 => ?_)
    · refine r_iloadn dX2_struckOnes_32 rfl ?_
      exact r_iret dX2_struckOnes_33 ⟨by rw [show i = c by omega], rfl, rfl⟩
    · exfalso; simp only [Int32.le_iff_toInt_le, Int32.lt_iff_toInt_lt, Int32.reduceToInt] at h9; omega
  | succ n ih =>
    intro i hi 
    have ti : (nI i).toInt = (i : Int) := nI_toInt (by omega)
    have tc : (M o 1).toInt = (c : Int) := by rw [hc]; exact nI_toInt (by omega)
    refine r_iloadn dX2_struckOnes_4 rfl ?_
    refine r_aloadn dX2_struckOnes_5 rfl (Or.inl ⟨(by have := ho.lt; omega), (by have := ho.lt; omega)⟩) ?_
    refine r_getfi dX2_struckOnes_6 kf_RX2_17 (sh_o ho) rfl ?_
    refine r_icmp_ge 32 dX2_struckOnes_9 (fun h9 => ?_) (fun h9 => ?_)
    · exfalso; simp only [Int32.le_iff_toInt_le, Int32.lt_iff_toInt_lt, Int32.reduceToInt] at h9; omega
    · refine r_iloadn dX2_struckOnes_12 rfl ?_
      refine r_aloadn dX2_struckOnes_13 rfl (Or.inl ⟨(by have := ho.lt; omega), (by have := ho.lt; omega)⟩) ?_
      refine r_getfr dX2_struckOnes_14 kf_RX2_11 (sh_o ho) rfl ?_ (by have := ho.lt; omega)
      refine r_iloadn dX2_struckOnes_17 rfl ?_
      refine r_aaldL (j := i) dX2_struckOnes_18 (sh_r ho) rfl (sh_rr (by omega)) (by have := ho.lt; omega) (Nat.le_of_ble_eq_true rfl) ?_
      refine r_getfi dX2_struckOnes_19 kf_RX2_69 (sh_l ho (by omega)) rfl ?_
      refine r_iloadn dX2_struckOnes_22 rfl ?_
      refine r_ishl dX2_struckOnes_23 ?_
      refine r_ior dX2_struckOnes_24 ?_
      refine r_istore1 dX2_struckOnes_25 ?_
      refine r_iinc2 (1) dX2_struckOnes_26 ?_
      refine r_goto 4 dX2_struckOnes_29 ?_
      rw [nI_1]
      rcases h01 i (by omega) with h | h
      · rw [h, show nI (k_str M o i) ||| _ = nI (k_str M o i) from k_or80 i (by omega) _ (k_bn_lt _ i)]
        have e := ih (i + 1) (by omega)
        rw [show k_str M o (i + 1) = k_str M o i from k_bn_no (decide_eq_false (by rw [h]; decide))] at e
        exact e
      · rw [h, show nI (k_str M o i) ||| _ = nI (k_str M o (i + 1)) from k_bn_or (by omega) (decide_eq_true h)]
        exact ih (i + 1) (by omega)

theorem ok_X2_struckOnes {X : fp_X} {M : fp_M} {o c : Nat} (ho : fp_of o) (hc : M o 1 = nI c) (h8 : c ≤ 8) (h01 : ∀ i, i < c → M (o + 2 + i) 5 = 0 ∨ M (o + 2 + i) 5 = 1): fp_Ev X mX2_struckOnes [.ref o] fp_sh M (some (.int (nI (k_str M o c)))) M := by
  refine fp_ok [some (.ref o), none, none] ?_
  refine r_ic (0) dX2_struckOnes_0 ?_
  refine r_istore1 dX2_struckOnes_1 ?_
  refine r_ic (0) dX2_struckOnes_2 ?_
  refine r_istore2 dX2_struckOnes_3 ?_
  exact lp_X2_struckOnes ho hc h8 h01 c 0 (by omega)
theorem lp_X2_allDays {X : fp_X} {M : fp_M} {o c : Nat} (ho : fp_of o) (hc : M o 1 = nI c) (h8 : c ≤ 8) : ∀ (n i : Nat), i + n = c → fp_W X mX2_allDays 4 [some (.ref o), some (.int (k_days M o i)), some (.int (nI i))] [] fp_sh M 0 0 (fun r s m => r = some (.int (k_days M o c)) ∧ s = fp_sh ∧ m = M) := by
  intro n
  induction n with
  | zero =>
    intro i hi 
    have ti : (nI i).toInt = (i : Int) := nI_toInt (by omega)
    have tc : (M o 1).toInt = (c : Int) := by rw [hc]; exact nI_toInt (by omega)
    refine r_iloadn dX2_allDays_4 rfl ?_
    refine r_aloadn dX2_allDays_5 rfl (Or.inl ⟨(by have := ho.lt; omega), (by have := ho.lt; omega)⟩) ?_
    refine r_getfi dX2_allDays_6 kf_RX2_17 (sh_o ho) rfl ?_
    refine r_icmp_ge 30 dX2_allDays_9 (fun h9 => ?_) (fun h9 => ?_)
    · refine r_iloadn dX2_allDays_30 rfl ?_
      exact r_iret dX2_allDays_31 ⟨by rw [show i = c by omega], rfl, rfl⟩
    · exfalso; simp only [Int32.le_iff_toInt_le, Int32.lt_iff_toInt_lt, Int32.reduceToInt] at h9; omega
  | succ n ih =>
    intro i hi 
    have ti : (nI i).toInt = (i : Int) := nI_toInt (by omega)
    have tc : (M o 1).toInt = (c : Int) := by rw [hc]; exact nI_toInt (by omega)
    refine r_iloadn dX2_allDays_4 rfl ?_
    refine r_aloadn dX2_allDays_5 rfl (Or.inl ⟨(by have := ho.lt; omega), (by have := ho.lt; omega)⟩) ?_
    refine r_getfi dX2_allDays_6 kf_RX2_17 (sh_o ho) rfl ?_
    refine r_icmp_ge 30 dX2_allDays_9 (fun h9 => ?_) (fun h9 => ?_)
    · exfalso; simp only [Int32.le_iff_toInt_le, Int32.lt_iff_toInt_lt, Int32.reduceToInt] at h9; omega
    · refine r_iloadn dX2_allDays_12 rfl ?_
      refine r_aloadn dX2_allDays_13 rfl (Or.inl ⟨(by have := ho.lt; omega), (by have := ho.lt; omega)⟩) ?_
      refine r_getfr dX2_allDays_14 kf_RX2_11 (sh_o ho) rfl ?_ (by have := ho.lt; omega)
      refine r_iloadn dX2_allDays_17 rfl ?_
      refine r_aaldL (j := i) dX2_allDays_18 (sh_r ho) rfl (sh_rr (by omega)) (by have := ho.lt; omega) (Nat.le_of_ble_eq_true rfl) ?_
      refine r_getfi dX2_allDays_19 kf_RX2_63 (sh_l ho (by omega)) rfl ?_
      refine r_iadd dX2_allDays_22 ?_
      refine r_istore1 dX2_allDays_23 ?_
      refine r_iinc2 (1) dX2_allDays_24 ?_
      refine r_goto 4 dX2_allDays_27 ?_
      rw [nI_1]
      exact ih (i + 1) (by omega)

theorem ok_X2_allDays {X : fp_X} {M : fp_M} {o c : Nat} (ho : fp_of o) (hc : M o 1 = nI c) (h8 : c ≤ 8): fp_Ev X mX2_allDays [.ref o] fp_sh M (some (.int (k_days M o c))) M := by
  refine fp_ok [some (.ref o), none, none] ?_
  refine r_ic (0) dX2_allDays_0 ?_
  refine r_istore1 dX2_allDays_1 ?_
  refine r_ic (0) dX2_allDays_2 ?_
  refine r_istore2 dX2_allDays_3 ?_
  exact lp_X2_allDays ho hc h8 c 0 (by omega)
theorem lp_X2_heldSpots {X : fp_X} {M : fp_M} {o : Nat} (ho : fp_of o) : ∀ (n i : Nat), i + n = 10 → fp_W X mX2_heldSpots 4 [some (.ref o), some (.int (k_held M o i)), some (.int (nI i))] [] fp_sh M 0 0 (fun r s m => r = some (.int (k_held M o 10)) ∧ s = fp_sh ∧ m = M) := by
  intro n
  induction n with
  | zero =>
    intro i hi 
    have ti : (nI i).toInt = (i : Int) := nI_toInt (by omega)
    refine r_iloadn dX2_heldSpots_4 rfl ?_
    refine r_bp (10) dX2_heldSpots_5 ?_
    refine r_icmp_ge 29 dX2_heldSpots_7 (fun h7 => ?_) (fun h7 => ?_)
    · refine r_iloadn dX2_heldSpots_29 rfl ?_
      exact r_iret dX2_heldSpots_30 ⟨by rw [show i = 10 by omega], rfl, rfl⟩
    · exfalso; simp only [Int32.le_iff_toInt_le, Int32.lt_iff_toInt_lt, Int32.reduceToInt] at h7; omega
  | succ n ih =>
    intro i hi 
    have ti : (nI i).toInt = (i : Int) := nI_toInt (by omega)
    refine r_iloadn dX2_heldSpots_4 rfl ?_
    refine r_bp (10) dX2_heldSpots_5 ?_
    refine r_icmp_ge 29 dX2_heldSpots_7 (fun h7 => ?_) (fun h7 => ?_)
    · exfalso; simp only [Int32.le_iff_toInt_le, Int32.lt_iff_toInt_lt, Int32.reduceToInt] at h7; omega
    · refine r_aloadn dX2_heldSpots_10 rfl (Or.inl ⟨(by have := ho.lt; omega), (by have := ho.lt; omega)⟩) ?_
      refine r_getfr dX2_heldSpots_11 kf_RX2_33 (sh_o ho) rfl ?_ (by have := ho.lt; omega)
      refine r_iloadn dX2_heldSpots_14 rfl ?_
      refine r_ialdL (j := i) dX2_heldSpots_15 (sh_p ho) rfl ⟨by omega, by decide⟩ ?_
      refine r_ic (-1) dX2_heldSpots_16 ?_
      refine r_icmp_eq 23 dX2_heldSpots_17 (fun h17 => ?_) (fun h17 => ?_)
      · refine r_iinc2 (1) dX2_heldSpots_23 ?_
        refine r_goto 4 dX2_heldSpots_26 ?_
        rw [nI_1]
        have e := ih (i + 1) (by omega)
        unfold k_held at e
        first | (rw [if_pos h17] at e; exact e) | (rw [if_neg h17] at e; exact e)
      · refine r_iinc1 (1) dX2_heldSpots_20 ?_
        refine r_iinc2 (1) dX2_heldSpots_23 ?_
        refine r_goto 4 dX2_heldSpots_26 ?_
        rw [nI_1]
        have e := ih (i + 1) (by omega)
        unfold k_held at e
        first | (rw [if_pos h17] at e; exact e) | (rw [if_neg h17] at e; exact e)

theorem ok_X2_heldSpots {X : fp_X} {M : fp_M} {o : Nat} (ho : fp_of o): fp_Ev X mX2_heldSpots [.ref o] fp_sh M (some (.int (k_held M o 10))) M := by
  refine fp_ok [some (.ref o), none, none] ?_
  refine r_ic (0) dX2_heldSpots_0 ?_
  refine r_istore1 dX2_heldSpots_1 ?_
  refine r_ic (0) dX2_heldSpots_2 ?_
  refine r_istore2 dX2_heldSpots_3 ?_
  exact lp_X2_heldSpots ho 10 0 (by omega)
/-- a new letter -/
def k_recv (M : fp_M) (o c : Nat) (v0 v1 v2 v3 v4 : Int32) : fp_M := fp_wr (fp_wr (fp_wr (fp_wr (fp_wr (fp_wr (fp_wr M (o + 2 + c) 0 v0) (o + 2 + c) 1 v1) (o + 2 + c) 2 v2) (o + 2 + c) 3 v3) (o + 2 + c) 4 v4) (o + 2 + c) 5 0) o 1 (nI (c + 1))
theorem k_nI1 (c : Nat) : nI (c + 1) - 1 = nI c := nI_pred c
/-- the office at a becomes what that at b is -/
def k_offi (M : fp_M) (a b i : Nat) : fp_M := fun k j => if (a + 2 ≤ k ∧ k < a + 2 + i) ∧ j < 6 then M (k - a + b) j else M k j
def k_off (M : fp_M) (a b : Nat) : fp_M := fun k j => if (a + 2 ≤ k ∧ k < a + 10) ∧ j < 6 then M (k - a + b) j else if k = a ∧ 1 ≤ j ∧ j ≤ 5 then M b j else if k = a + 10 ∧ j < 10 then M (b + 10) j else M k j
theorem k_offi_0 (M : fp_M) (a b : Nat) : k_offi M a b 0 = M := by
  funext k j
  unfold k_offi
  rw [if_neg (by omega)]
theorem fp_of.sep {a b : Nat} (ha : fp_of a) (hb : fp_of b) (h : ¬ a = b) : a + 11 ≤ b ∨ b + 11 ≤ a := by
  rcases ha with rfl | rfl | rfl <;> rcases hb with rfl | rfl | rfl <;> first | exact absurd rfl h | decide
theorem k_offi_s {M : fp_M} {a b i : Nat} (hs : a + 11 ≤ b ∨ b + 11 ≤ a) (hi : i < 8) : k_let (k_offi M a b i) (a + 2 + i) (b + 2 + i) = k_offi M a b (i + 1) := by
  funext k j
  unfold k_let
  by_cases h1 : k = a + 2 + i ∧ j < 6
  · rw [if_pos h1]
    unfold k_offi
    rw [if_neg (by omega), if_pos (by omega), h1.1]
    congr 1
    omega
  · rw [if_neg h1]
    unfold k_offi
    by_cases h2 : (a + 2 ≤ k ∧ k < a + 2 + i) ∧ j < 6
    · rw [if_pos h2, if_pos (by omega)]
    · rw [if_neg h2, if_neg (by omega)]
theorem k_off_eq {M : fp_M} {a b : Nat} (hs : a + 11 ≤ b ∨ b + 11 ≤ a) : fp_cp (fp_wr (fp_wr (fp_wr (fp_wr (fp_wr (k_offi M a b 8) a 1 (M b 1)) a 2 (M b 2)) a 3 (M b 3)) a 4 (M b 4)) a 5 (M b 5)) (b + 10) 0 (a + 10) 0 10 = k_off M a b := by
  funext k j
  unfold k_off
  by_cases h1 : k = a + 10
  · subst h1
    unfold fp_cp
    rw [if_pos rfl, if_neg (by omega), if_neg (by omega)]
    unfold va_cpy
    by_cases hj : j < 10
    · rw [if_pos (by omega), if_pos ⟨rfl, hj⟩]
      unfold fp_wr
      rw [if_neg (by omega), if_neg (by omega), if_neg (by omega), if_neg (by omega), if_neg (by omega)]
      unfold k_offi
      rw [if_neg (by omega)]
      congr 1
      omega
    · rw [if_neg (by omega), if_neg (by omega)]
      unfold fp_wr
      rw [if_neg (by omega), if_neg (by omega), if_neg (by omega), if_neg (by omega), if_neg (by omega)]
      unfold k_offi
      rw [if_neg (by omega)]
  · rw [fp_cp_row h1]
    by_cases h2 : k = a
    · subst h2
      rw [if_neg (by omega)]
      by_cases hj : 1 ≤ j ∧ j ≤ 5
      · rw [if_pos ⟨rfl, hj⟩]
        unfold fp_wr
        rcases (show j = 1 ∨ j = 2 ∨ j = 3 ∨ j = 4 ∨ j = 5 by omega) with rfl | rfl | rfl | rfl | rfl <;> simp
      · rw [if_neg (by omega), if_neg (by omega)]
        unfold fp_wr
        rw [if_neg (by omega), if_neg (by omega), if_neg (by omega), if_neg (by omega), if_neg (by omega)]
        unfold k_offi
        rw [if_neg (by omega)]
    · unfold fp_wr
      rw [if_neg (by omega), if_neg (by omega), if_neg (by omega), if_neg (by omega), if_neg (by omega)]
      unfold k_offi
      by_cases h3 : (a + 2 ≤ k ∧ k < a + 10) ∧ j < 6
      · rw [if_pos h3, if_pos h3]
      · rw [if_neg h3, if_neg h3, if_neg (by omega), if_neg (by omega)]
theorem ok_X2_receive {X : fp_X} {M : fp_M} {o c : Nat} {v0 v1 v2 v3 v4 : Int32} (ho : fp_of o) (hc : M o 1 = nI c) (hc8 : c < 8): fp_Ev X mX2_receive [.ref o, .int v0, .int v1, .int v2, .int v3, .int v4] fp_sh M (some (.int (nI c))) (k_recv M o c v0 v1 v2 v3 v4) := by
  refine fp_ok [some (.ref o), some (.int v0), some (.int v1), some (.int v2), some (.int v3), some (.int v4), none] ?_
  refine r_aloadn dX2_receive_0 rfl (Or.inl ⟨(by have := ho.lt; omega), (by have := ho.lt; omega)⟩) ?_
  refine r_getfr dX2_receive_1 kf_RX2_11 (sh_o ho) rfl ?_ (by have := ho.lt; omega)
  refine r_aloadn dX2_receive_4 rfl (Or.inl ⟨(by have := ho.lt; omega), (by have := ho.lt; omega)⟩) ?_
  refine r_getfi dX2_receive_5 kf_RX2_17 (sh_o ho) rfl ?_
  refine r_aaldL (j := c) dX2_receive_8 (sh_r ho) hc (sh_rr hc8) (by have := ho.lt; omega) (Nat.le_of_ble_eq_true rfl) ?_
  refine r_astore6 dX2_receive_9 (Or.inl ⟨(by have := ho.lt; omega), (by have := ho.lt; omega)⟩) ?_
  refine r_aload dX2_receive_11 rfl (Or.inl ⟨(by have := ho.lt; omega), (by have := ho.lt; omega)⟩) ?_
  refine r_iloadn dX2_receive_13 rfl ?_
  refine r_putfi dX2_receive_14 kf_RX2_54 (sh_l ho hc8) rfl ?_
  refine r_aload dX2_receive_17 rfl (Or.inl ⟨(by have := ho.lt; omega), (by have := ho.lt; omega)⟩) ?_
  refine r_iloadn dX2_receive_19 rfl ?_
  refine r_putfi dX2_receive_20 kf_RX2_57 (sh_l ho hc8) rfl ?_
  refine r_aload dX2_receive_23 rfl (Or.inl ⟨(by have := ho.lt; omega), (by have := ho.lt; omega)⟩) ?_
  refine r_iloadn dX2_receive_25 rfl ?_
  refine r_putfi dX2_receive_26 kf_RX2_60 (sh_l ho hc8) rfl ?_
  refine r_aload dX2_receive_29 rfl (Or.inl ⟨(by have := ho.lt; omega), (by have := ho.lt; omega)⟩) ?_
  refine r_iload dX2_receive_31 rfl ?_
  refine r_putfi dX2_receive_33 kf_RX2_63 (sh_l ho hc8) rfl ?_
  refine r_aload dX2_receive_36 rfl (Or.inl ⟨(by have := ho.lt; omega), (by have := ho.lt; omega)⟩) ?_
  refine r_iload dX2_receive_38 rfl ?_
  refine r_putfi dX2_receive_40 kf_RX2_66 (sh_l ho hc8) rfl ?_
  refine r_aload dX2_receive_43 rfl (Or.inl ⟨(by have := ho.lt; omega), (by have := ho.lt; omega)⟩) ?_
  refine r_ic (0) dX2_receive_45 ?_
  refine r_putfi dX2_receive_46 kf_RX2_69 (sh_l ho hc8) rfl ?_
  refine r_aloadn dX2_receive_49 rfl (Or.inl ⟨(by have := ho.lt; omega), (by have := ho.lt; omega)⟩) ?_
  refine r_dup dX2_receive_50 ?_
  refine r_getfi dX2_receive_51 kf_RX2_17 (sh_o ho) rfl ?_
  refine r_ic (1) dX2_receive_54 ?_
  refine r_iadd dX2_receive_55 ?_
  have ne : ¬ o = o + 2 + c := by omega
  simp only [fp_wr_ne ne, hc, nI_1]
  refine r_putfi dX2_receive_56 kf_RX2_17 (sh_o ho) rfl ?_
  refine r_aloadn dX2_receive_59 rfl (Or.inl ⟨(by have := ho.lt; omega), (by have := ho.lt; omega)⟩) ?_
  refine r_getfi dX2_receive_60 kf_RX2_17 (sh_o ho) rfl ?_
  refine r_ic (1) dX2_receive_63 ?_
  refine r_isub dX2_receive_64 ?_
  exact r_iret dX2_receive_65 ⟨by rw [show fp_wr _ o 1 (nI (c + 1)) o 1 = nI (c + 1) from by simp [fp_wr], nI_pred], rfl, rfl⟩
theorem lp_X2_become {X : fp_X} {M : fp_M} {a b : Nat} (ha : fp_of a) (hb : fp_of b) (hne : ¬ a = b) : ∀ (n i : Nat), i + n = 8 → fp_W X mX2_become 2 [some (.ref a), some (.ref b), some (.int (nI i))] [] fp_sh (k_offi M a b i) 0 0 (fun r s m => r = none ∧ s = fp_sh ∧ m = k_off M a b) := by
  intro n
  induction n with
  | zero =>
    intro i hi 
    have ti : (nI i).toInt = (i : Int) := nI_toInt (by omega)
    have hs := ha.sep hb hne
    refine r_iloadn dX2_become_2 rfl ?_
    refine r_bp (8) dX2_become_3 ?_
    refine r_icmp_ge 29 dX2_become_5 (fun h5 => ?_) (fun h5 => ?_)
    · refine r_aloadn dX2_become_29 rfl (Or.inl ⟨by have := ha.lt; have := hb.lt; omega, by have := ha.lt; have := hb.lt; omega⟩) ?_
      refine r_aloadn dX2_become_30 rfl (Or.inl ⟨by have := ha.lt; have := hb.lt; omega, by have := ha.lt; have := hb.lt; omega⟩) ?_
      refine r_getfi dX2_become_31 kf_RX2_17 (sh_o hb) rfl ?_
      refine r_putfi dX2_become_34 kf_RX2_17 (sh_o ha) rfl ?_
      refine r_aloadn dX2_become_37 rfl (Or.inl ⟨by have := ha.lt; have := hb.lt; omega, by have := ha.lt; have := hb.lt; omega⟩) ?_
      refine r_aloadn dX2_become_38 rfl (Or.inl ⟨by have := ha.lt; have := hb.lt; omega, by have := ha.lt; have := hb.lt; omega⟩) ?_
      refine r_getfi dX2_become_39 kf_RX2_21 (sh_o hb) rfl ?_
      refine r_putfi dX2_become_42 kf_RX2_21 (sh_o ha) rfl ?_
      refine r_aloadn dX2_become_45 rfl (Or.inl ⟨by have := ha.lt; have := hb.lt; omega, by have := ha.lt; have := hb.lt; omega⟩) ?_
      refine r_aloadn dX2_become_46 rfl (Or.inl ⟨by have := ha.lt; have := hb.lt; omega, by have := ha.lt; have := hb.lt; omega⟩) ?_
      refine r_getfi dX2_become_47 kf_RX2_24 (sh_o hb) rfl ?_
      refine r_putfi dX2_become_50 kf_RX2_24 (sh_o ha) rfl ?_
      refine r_aloadn dX2_become_53 rfl (Or.inl ⟨by have := ha.lt; have := hb.lt; omega, by have := ha.lt; have := hb.lt; omega⟩) ?_
      refine r_aloadn dX2_become_54 rfl (Or.inl ⟨by have := ha.lt; have := hb.lt; omega, by have := ha.lt; have := hb.lt; omega⟩) ?_
      refine r_getfi dX2_become_55 kf_RX2_27 (sh_o hb) rfl ?_
      refine r_putfi dX2_become_58 kf_RX2_27 (sh_o ha) rfl ?_
      refine r_aloadn dX2_become_61 rfl (Or.inl ⟨by have := ha.lt; have := hb.lt; omega, by have := ha.lt; have := hb.lt; omega⟩) ?_
      refine r_aloadn dX2_become_62 rfl (Or.inl ⟨by have := ha.lt; have := hb.lt; omega, by have := ha.lt; have := hb.lt; omega⟩) ?_
      refine r_getfi dX2_become_63 kf_RX2_30 (sh_o hb) rfl ?_
      refine r_putfi dX2_become_66 kf_RX2_30 (sh_o ha) rfl ?_
      refine r_aloadn dX2_become_69 rfl (Or.inl ⟨by have := ha.lt; have := hb.lt; omega, by have := ha.lt; have := hb.lt; omega⟩) ?_
      refine r_getfr dX2_become_70 kf_RX2_33 (sh_o hb) rfl ?_ (by have := ha.lt; have := hb.lt; omega)
      refine r_ic (0) dX2_become_73 ?_
      refine r_aloadn dX2_become_74 rfl (Or.inl ⟨by have := ha.lt; have := hb.lt; omega, by have := ha.lt; have := hb.lt; omega⟩) ?_
      refine r_getfr dX2_become_75 kf_RX2_33 (sh_o ha) rfl ?_ (by have := ha.lt; have := hb.lt; omega)
      refine r_ic (0) dX2_become_78 ?_
      refine r_bp (10) dX2_become_79 ?_
      refine r_acopy dX2_become_81 kl_RX2_48 wn_acopy ws_acopy wi_RJ10 (sh_p hb) (sh_p ha) (by decide) (by decide) (by decide) (by decide) (by decide) (by decide) (by decide) ?_
      exact r_vret dX2_become_84 ⟨rfl, rfl, by
        obtain rfl : i = 8 := by omega
        have ne : ¬ b = a := fun e => hne e.symm
        have ob : ∀ j, k_offi M a b 8 b j = M b j := fun j => by
          unfold k_offi
          rw [if_neg (by omega)]
        simp only [fp_wr_ne ne, ob]
        exact k_off_eq hs⟩
    · exfalso; simp only [Int32.le_iff_toInt_le, Int32.lt_iff_toInt_lt, Int32.reduceToInt] at h5; omega
  | succ n ih =>
    intro i hi 
    have ti : (nI i).toInt = (i : Int) := nI_toInt (by omega)
    have hs := ha.sep hb hne
    refine r_iloadn dX2_become_2 rfl ?_
    refine r_bp (8) dX2_become_3 ?_
    refine r_icmp_ge 29 dX2_become_5 (fun h5 => ?_) (fun h5 => ?_)
    · exfalso; simp only [Int32.le_iff_toInt_le, Int32.lt_iff_toInt_lt, Int32.reduceToInt] at h5; omega
    · refine r_aloadn dX2_become_8 rfl (Or.inl ⟨by have := ha.lt; have := hb.lt; omega, by have := ha.lt; have := hb.lt; omega⟩) ?_
      refine r_getfr dX2_become_9 kf_RX2_11 (sh_o ha) rfl ?_ (by have := ha.lt; have := hb.lt; omega)
      refine r_iloadn dX2_become_12 rfl ?_
      refine r_aaldL (j := i) dX2_become_13 (sh_r ha) rfl (sh_rr (by omega)) (by have := ha.lt; omega) (Nat.le_of_ble_eq_true rfl) ?_
      refine r_aloadn dX2_become_14 rfl (Or.inl ⟨by have := ha.lt; have := hb.lt; omega, by have := ha.lt; have := hb.lt; omega⟩) ?_
      refine r_getfr dX2_become_15 kf_RX2_11 (sh_o hb) rfl ?_ (by have := ha.lt; have := hb.lt; omega)
      refine r_iloadn dX2_become_18 rfl ?_
      refine r_aaldL (j := i) dX2_become_19 (sh_r hb) rfl (sh_rr (by omega)) (by have := hb.lt; omega) (Nat.le_of_ble_eq_true rfl) ?_
      refine c_V1v (μz := mX1_become) dX2_become_20 kl_RX2_44 mv_X1_become (sh_l ha (by omega)) (ok_X1_become (sh_l ha (by omega)) (sh_l hb (by omega)) (by omega)) ?_
      refine r_iinc2 (1) dX2_become_23 ?_
      refine r_goto 2 dX2_become_26 ?_
      rw [nI_1, k_offi_s hs (by omega)]
      exact ih (i + 1) (by omega)

theorem ok_X2_become {X : fp_X} {M : fp_M} {a b : Nat} (ha : fp_of a) (hb : fp_of b) (hne : ¬ a = b): fp_Ev X mX2_become [.ref a, .ref b] fp_sh M none (k_off M a b) := by
  refine fp_ok [some (.ref a), some (.ref b), none] ?_
  refine r_ic (0) dX2_become_0 ?_
  refine r_istore2 dX2_become_1 ?_
  have e := lp_X2_become (X := X) (M := M) ha hb hne 8 0 (by omega)
  rw [k_offi_0] at e
  exact e
