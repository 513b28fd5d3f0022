/-! ===== the other one: told, bytes, under ===== -/
theorem g_40 : ∀ t, t < 4 → ∀ b, b < 40 → (40 : Int32) * nI t + nI b = nI (40 * t + b) := by decide +kernel
abbrev g_und (own kind : Int32) : Prop := kind = 0 ∨ own = kind ∨ (kind = 2 ∧ (own = 3 ∨ own = 4)) ∨ (kind = 3 ∧ own = 4) ∨ (kind = 1 ∧ own = 6)
theorem ok_X6_toldBy {X : fp_X} {M : fp_M} {x y z : Int32} {t a b : Nat} (ht : x = nI t) (ha : y = nI a) (hb : z = nI b) (lt : t < 4) (la : a < 40) (lb : b < 40): fp_Ev X mX6_toldBy [.ref 49, .int x, .int y, .int z] fp_sh M (some (.long ((M 57 (40 * t + b)).toInt64 - (M 57 (40 * t + a)).toInt64))) M := by
  refine fp_ok [some (.ref 49), some (.int x), some (.int y), some (.int z)] ?_
  refine r_aloadn dX6_toldBy_0 rfl (by decide) ?_
  refine r_getfr dX6_toldBy_1 kf_RX6_31 rfl rfl ?_
  refine r_bp (40) dX6_toldBy_4 ?_
  refine r_iloadn dX6_toldBy_6 rfl ?_
  refine r_imul dX6_toldBy_7 ?_
  refine r_iloadn dX6_toldBy_8 rfl ?_
  refine r_iadd dX6_toldBy_9 ?_
  refine r_ialdL (j := 40 * t + b) dX6_toldBy_10 rfl ((congr (congrArg (fun u v : Int32 => 40 * u + v) ht) hb).trans (g_40 t lt b lb)) ⟨by omega, by decide⟩ ?_
  refine r_i2l dX6_toldBy_11 ?_
  refine r_aloadn dX6_toldBy_12 rfl (by decide) ?_
  refine r_getfr dX6_toldBy_13 kf_RX6_31 rfl rfl ?_
  refine r_bp (40) dX6_toldBy_16 ?_
  refine r_iloadn dX6_toldBy_18 rfl ?_
  refine r_imul dX6_toldBy_19 ?_
  refine r_iloadn dX6_toldBy_20 rfl ?_
  refine r_iadd dX6_toldBy_21 ?_
  refine r_ialdL (j := 40 * t + a) dX6_toldBy_22 rfl ((congr (congrArg (fun u v : Int32 => 40 * u + v) ht) ha).trans (g_40 t lt a la)) ⟨by omega, by decide⟩ ?_
  refine r_i2l dX6_toldBy_23 ?_
  refine r_lsub dX6_toldBy_24 ?_
  exact r_lret dX6_toldBy_25 ⟨rfl, rfl, rfl⟩
theorem ok_X6_byteAt {X : fp_X} {M : fp_M} {z k : Nat} (hz : M 49 6 = nI z) (hz1 : z ≤ 120) (hk : k < 1000): fp_Ev X mX6_byteAt [.ref 49, .int (nI k)] fp_sh M (some (.int (if k < z then M 54 k else -1))) M := by
  have tz : (M 49 6).toInt = (z : Int) := by rw [hz]; exact nI_toInt (by omega)
  have tk : (nI k).toInt = (k : Int) := nI_toInt (by omega)
  refine fp_ok [some (.ref 49), some (.int (nI k))] ?_
  refine r_iloadn dX6_byteAt_0 rfl ?_
  refine r_aloadn dX6_byteAt_1 rfl (by decide) ?_
  refine r_getfi dX6_byteAt_2 kf_RX6_165 rfl rfl ?_
  refine r_icmp_ge 17 dX6_byteAt_5 (fun h5 => ?_) (fun h5 => ?_)
  · refine r_ic (-1) dX6_byteAt_17 ?_
    exact r_iret dX6_byteAt_18 ⟨by rw [if_neg (by simp only [Int32.le_iff_toInt_le] at h5; omega)], rfl, rfl⟩
  · have hkz : k < z := by simp only [Int32.le_iff_toInt_le] at h5; omega
    refine r_aloadn dX6_byteAt_8 rfl (by decide) ?_
    refine r_getfr dX6_byteAt_9 kf_RX6_22 rfl rfl ?_
    refine r_iloadn dX6_byteAt_12 rfl ?_
    refine r_ialdL (j := k) dX6_byteAt_13 rfl rfl ⟨by omega, by decide⟩ ?_
    refine r_goto 18 dX6_byteAt_14 ?_
    exact r_iret dX6_byteAt_18 ⟨by rw [if_pos hkz], rfl, rfl⟩
theorem ok_X6_isUnder {X : fp_X} {M : fp_M} {a b : Int32} : fp_Ev X mX6_isUnder [.int a, .int b] fp_sh M (some (.int (bi (g_und a b)))) M := by
  refine fp_ok [some (.int a), some (.int b)] ?_
  refine r_iloadn dX6_isUnder_0 rfl ?_
  refine r_if_eq 45 dX6_isUnder_1 (fun h1 => ?_) (fun h1 => ?_)
  · refine r_ic (1) dX6_isUnder_45 ?_
    refine r_goto 50 dX6_isUnder_46 ?_
    exact r_iret dX6_isUnder_50 ⟨by rw [bi_t (Or.inl h1)], rfl, rfl⟩
  · refine r_iloadn dX6_isUnder_4 rfl ?_
    refine r_iloadn dX6_isUnder_5 rfl ?_
    refine r_icmp_eq 45 dX6_isUnder_6 (fun h6 => ?_) (fun h6 => ?_)
    · refine r_ic (1) dX6_isUnder_45 ?_
      refine r_goto 50 dX6_isUnder_46 ?_
      exact r_iret dX6_isUnder_50 ⟨by rw [bi_t (Or.inr (Or.inl h6))], rfl, rfl⟩
    · refine r_iloadn dX6_isUnder_9 rfl ?_
      refine r_ic (2) dX6_isUnder_10 ?_
      refine r_icmp_ne 24 dX6_isUnder_11 (fun h11 => ?_) (fun h11 => ?_)
      · refine r_iloadn dX6_isUnder_24 rfl ?_
        refine r_ic (3) dX6_isUnder_25 ?_
        refine r_icmp_ne 34 dX6_isUnder_26 (fun h26 => ?_) (fun h26 => ?_)
        · refine r_iloadn dX6_isUnder_34 rfl ?_
          refine r_ic (1) dX6_isUnder_35 ?_
          refine r_icmp_ne 49 dX6_isUnder_36 (fun h36 => ?_) (fun h36 => ?_)
          · refine r_ic (0) dX6_isUnder_49 ?_
            exact r_iret dX6_isUnder_50 ⟨by rw [bi_f (fun q => q.elim h1 (fun q => q.elim h6 (fun q => q.elim (fun q => h11 q.1) (fun q => q.elim (fun q => h26 q.1) (fun q => h36 q.1)))))], rfl, rfl⟩
          · refine r_iloadn dX6_isUnder_39 rfl ?_
            refine r_bp (6) dX6_isUnder_40 ?_
            refine r_icmp_ne 49 dX6_isUnder_42 (fun h42 => ?_) (fun h42 => ?_)
            · refine r_ic (0) dX6_isUnder_49 ?_
              exact r_iret dX6_isUnder_50 ⟨by rw [bi_f (fun q => q.elim h1 (fun q => q.elim h6 (fun q => q.elim (fun q => h11 q.1) (fun q => q.elim (fun q => h26 q.1) (fun q => h42 q.2)))))], rfl, rfl⟩
            · refine r_ic (1) dX6_isUnder_45 ?_
              refine r_goto 50 dX6_isUnder_46 ?_
              exact r_iret dX6_isUnder_50 ⟨by rw [bi_t (Or.inr (Or.inr (Or.inr (Or.inr ⟨h36, h42⟩))))], rfl, rfl⟩
        · refine r_iloadn dX6_isUnder_29 rfl ?_
          refine r_ic (4) dX6_isUnder_30 ?_
          refine r_icmp_eq 45 dX6_isUnder_31 (fun h31 => ?_) (fun h31 => ?_)
          · refine r_ic (1) dX6_isUnder_45 ?_
            refine r_goto 50 dX6_isUnder_46 ?_
            exact r_iret dX6_isUnder_50 ⟨by rw [bi_t (Or.inr (Or.inr (Or.inr (Or.inl ⟨h26, h31⟩))))], rfl, rfl⟩
          · refine r_iloadn dX6_isUnder_34 rfl ?_
            refine r_ic (1) dX6_isUnder_35 ?_
            refine r_icmp_ne 49 dX6_isUnder_36 (fun h36 => ?_) (fun h36 => ?_)
            · refine r_ic (0) dX6_isUnder_49 ?_
              exact r_iret dX6_isUnder_50 ⟨by rw [bi_f (fun q => q.elim h1 (fun q => q.elim h6 (fun q => q.elim (fun q => h11 q.1) (fun q => q.elim (fun q => h31 q.2) (fun q => h36 q.1)))))], rfl, rfl⟩
            · refine r_iloadn dX6_isUnder_39 rfl ?_
              refine r_bp (6) dX6_isUnder_40 ?_
              refine r_icmp_ne 49 dX6_isUnder_42 (fun h42 => ?_) (fun h42 => ?_)
              · refine r_ic (0) dX6_isUnder_49 ?_
                exact r_iret dX6_isUnder_50 ⟨by rw [bi_f (fun q => q.elim h1 (fun q => q.elim h6 (fun q => q.elim (fun q => h11 q.1) (fun q => q.elim (fun q => h31 q.2) (fun q => h42 q.2)))))], rfl, rfl⟩
              · refine r_ic (1) dX6_isUnder_45 ?_
                refine r_goto 50 dX6_isUnder_46 ?_
                exact r_iret dX6_isUnder_50 ⟨by rw [bi_t (Or.inr (Or.inr (Or.inr (Or.inr ⟨h36, h42⟩))))], rfl, rfl⟩
      · refine r_iloadn dX6_isUnder_14 rfl ?_
        refine r_ic (3) dX6_isUnder_15 ?_
        refine r_icmp_eq 45 dX6_isUnder_16 (fun h16 => ?_) (fun h16 => ?_)
        · refine r_ic (1) dX6_isUnder_45 ?_
          refine r_goto 50 dX6_isUnder_46 ?_
          exact r_iret dX6_isUnder_50 ⟨by rw [bi_t (Or.inr (Or.inr (Or.inl ⟨h11, Or.inl h16⟩)))], rfl, rfl⟩
        · refine r_iloadn dX6_isUnder_19 rfl ?_
          refine r_ic (4) dX6_isUnder_20 ?_
          refine r_icmp_eq 45 dX6_isUnder_21 (fun h21 => ?_) (fun h21 => ?_)
          · refine r_ic (1) dX6_isUnder_45 ?_
            refine r_goto 50 dX6_isUnder_46 ?_
            exact r_iret dX6_isUnder_50 ⟨by rw [bi_t (Or.inr (Or.inr (Or.inl ⟨h11, Or.inr h21⟩)))], rfl, rfl⟩
          · refine r_iloadn dX6_isUnder_24 rfl ?_
            refine r_ic (3) dX6_isUnder_25 ?_
            refine r_icmp_ne 34 dX6_isUnder_26 (fun h26 => ?_) (fun h26 => ?_)
            · refine r_iloadn dX6_isUnder_34 rfl ?_
              refine r_ic (1) dX6_isUnder_35 ?_
              refine r_icmp_ne 49 dX6_isUnder_36 (fun h36 => ?_) (fun h36 => ?_)
              · refine r_ic (0) dX6_isUnder_49 ?_
                exact r_iret dX6_isUnder_50 ⟨by rw [bi_f (fun q => q.elim h1 (fun q => q.elim h6 (fun q => q.elim (fun q => q.2.elim h16 h21) (fun q => q.elim (fun q => h26 q.1) (fun q => h36 q.1)))))], rfl, rfl⟩
              · refine r_iloadn dX6_isUnder_39 rfl ?_
                refine r_bp (6) dX6_isUnder_40 ?_
                refine r_icmp_ne 49 dX6_isUnder_42 (fun h42 => ?_) (fun h42 => ?_)
                · refine r_ic (0) dX6_isUnder_49 ?_
                  exact r_iret dX6_isUnder_50 ⟨by rw [bi_f (fun q => q.elim h1 (fun q => q.elim h6 (fun q => q.elim (fun q => q.2.elim h16 h21) (fun q => q.elim (fun q => h26 q.1) (fun q => h42 q.2)))))], rfl, rfl⟩
                · refine r_ic (1) dX6_isUnder_45 ?_
                  refine r_goto 50 dX6_isUnder_46 ?_
                  exact r_iret dX6_isUnder_50 ⟨by rw [bi_t (Or.inr (Or.inr (Or.inr (Or.inr ⟨h36, h42⟩))))], rfl, rfl⟩
            · refine r_iloadn dX6_isUnder_29 rfl ?_
              refine r_ic (4) dX6_isUnder_30 ?_
              refine r_icmp_eq 45 dX6_isUnder_31 (fun h31 => ?_) (fun h31 => ?_)
              · refine r_ic (1) dX6_isUnder_45 ?_
                refine r_goto 50 dX6_isUnder_46 ?_
                exact r_iret dX6_isUnder_50 ⟨by rw [bi_t (Or.inr (Or.inr (Or.inr (Or.inl ⟨h26, h31⟩))))], rfl, rfl⟩
              · refine r_iloadn dX6_isUnder_34 rfl ?_
                refine r_ic (1) dX6_isUnder_35 ?_
                refine r_icmp_ne 49 dX6_isUnder_36 (fun h36 => ?_) (fun h36 => ?_)
                · refine r_ic (0) dX6_isUnder_49 ?_
                  exact r_iret dX6_isUnder_50 ⟨by rw [bi_f (fun q => q.elim h1 (fun q => q.elim h6 (fun q => q.elim (fun q => q.2.elim h16 h21) (fun q => q.elim (fun q => h31 q.2) (fun q => h36 q.1)))))], rfl, rfl⟩
                · refine r_iloadn dX6_isUnder_39 rfl ?_
                  refine r_bp (6) dX6_isUnder_40 ?_
                  refine r_icmp_ne 49 dX6_isUnder_42 (fun h42 => ?_) (fun h42 => ?_)
                  · refine r_ic (0) dX6_isUnder_49 ?_
                    exact r_iret dX6_isUnder_50 ⟨by rw [bi_f (fun q => q.elim h1 (fun q => q.elim h6 (fun q => q.elim (fun q => q.2.elim h16 h21) (fun q => q.elim (fun q => h31 q.2) (fun q => h42 q.2)))))], rfl, rfl⟩
                  · refine r_ic (1) dX6_isUnder_45 ?_
                    refine r_goto 50 dX6_isUnder_46 ?_
                    exact r_iret dX6_isUnder_50 ⟨by rw [bi_t (Or.inr (Or.inr (Or.inr (Or.inr ⟨h36, h42⟩))))], rfl, rfl⟩
