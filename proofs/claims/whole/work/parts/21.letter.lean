/-- what a letter says: its least and most, when it comes -/
def k_least (k d s : Int32) : Int32 := if k = 1 ∨ k = 6 then -999 else if k = 2 then d else if k = 3 then -d else if k = 4 then -d - 1 else if k = 5 then d - s - s else d - s
def k_most (k d s : Int32) : Int32 := if k = 6 then d + s + 5 else if k = 5 then d + s + s else if k = 2 then d else if k = 3 then -d else if k = 4 then -d + 1 else d + s
def k_abs (d : Int32) : Int32 := if 0 ≤ d then d else -d
def k_comes (k m d f : Int32) : Int32 := if k = 1 then m + k_abs d / 2 else if k = 6 then m + k_abs d / 2 + 10 else if k = 2 then m + k_abs d + f + 1 else if k = 3 then m else if k = 4 then m + 2 else m + k_abs d + f
def k_above (k : Int32) : Int32 := if k = 1 ∨ k = 2 ∨ k = 5 then 0 else if k = 3 then 2 else if k = 4 then 3 else if k = 6 then 1 else -1
def k_kname (k : Int32) : Nat := if k = 1 then 101 else if k = 2 then 102 else if k = 3 then 103 else if k = 4 then 104 else if k = 5 then 105 else if k = 6 then 106 else 100
def k_part (M : fp_M) (L : Nat) (w : Int32) : Int32 := if w = 0 then M L 0 else if w = 1 then M L 1 else if w = 2 then M L 2 else if w = 3 then M L 3 else if w = 4 then M L 4 else M L 5
def k_setp (M : fp_M) (L : Nat) (w v : Int32) : fp_M := if w = 0 then fp_wr M L 0 v else if w = 1 then fp_wr M L 1 v else if w = 2 then fp_wr M L 2 v else if w = 3 then fp_wr M L 3 v else if w = 4 then fp_wr M L 4 v else fp_wr M L 5 v
/-- all numbers of a letter copied (of another one) -/
def k_let (M : fp_M) (L K : Nat) : fp_M := fun k j => if k = L ∧ j < 6 then M K j else M k j
theorem fp_wr_ne {M : fp_M} {k j k' j' : Nat} {v : Int32} (h : ¬ k' = k) : fp_wr M k j v k' j' = M k' j' := by
  unfold fp_wr
  rw [if_neg (fun q => h q.1)]
theorem k_let_eq (M : fp_M) (L K : Nat) : k_let M L K = fp_wr (fp_wr (fp_wr (fp_wr (fp_wr (fp_wr M L 0 (M K 0)) L 1 (M K 1)) L 2 (M K 2)) L 3 (M K 3)) L 4 (M K 4)) L 5 (M K 5) := by
  funext k j
  unfold k_let fp_wr
  by_cases hk : k = L
  · subst hk
    by_cases hj : j < 6
    · rcases (show j = 0 ∨ j = 1 ∨ j = 2 ∨ j = 3 ∨ j = 4 ∨ j = 5 by omega) with rfl | rfl | rfl | rfl | rfl | rfl <;> simp
    · rw [if_neg (fun q => hj q.2), if_neg (by omega), if_neg (by omega), if_neg (by omega), if_neg (by omega), if_neg (by omega), if_neg (by omega)]
  · simp [hk]
theorem ok_X1_kindAbove {X : fp_X} {M : fp_M} {a : Int32} : fp_Ev X mX1_kindAbove [.int a] fp_sh M (some (.int (k_above a))) M := by
  refine fp_ok [some (.int a)] ?_
  refine r_iloadn dX1_kindAbove_0 rfl ?_
  refine r_tsw [(1, 40), (2, 40), (3, 42), (4, 44), (5, 40), (6, 46)] 48 dX1_kindAbove_1 (And.intro (fun h1 => ?_) (And.intro (fun h1 => ?_) (And.intro (fun h1 => ?_) (And.intro (fun h1 => ?_) (And.intro (fun h1 => ?_) (And.intro (fun h1 => ?_) (trivial))))))) (fun h1 => ?_)
  · refine r_ic (0) dX1_kindAbove_40 ?_
    exact r_iret dX1_kindAbove_41 ⟨by simp only [fp_tn] at *; simp [k_above, *], rfl, rfl⟩
  · refine r_ic (0) dX1_kindAbove_40 ?_
    exact r_iret dX1_kindAbove_41 ⟨by simp only [fp_tn] at *; simp [k_above, *], rfl, rfl⟩
  · refine r_ic (2) dX1_kindAbove_42 ?_
    exact r_iret dX1_kindAbove_43 ⟨by simp only [fp_tn] at *; simp [k_above, *], rfl, rfl⟩
  · refine r_ic (3) dX1_kindAbove_44 ?_
    exact r_iret dX1_kindAbove_45 ⟨by simp only [fp_tn] at *; simp [k_above, *], rfl, rfl⟩
  · refine r_ic (0) dX1_kindAbove_40 ?_
    exact r_iret dX1_kindAbove_41 ⟨by simp only [fp_tn] at *; simp [k_above, *], rfl, rfl⟩
  · refine r_ic (1) dX1_kindAbove_46 ?_
    exact r_iret dX1_kindAbove_47 ⟨by simp only [fp_tn] at *; simp [k_above, *], rfl, rfl⟩
  · refine r_ic (-1) dX1_kindAbove_48 ?_
    exact r_iret dX1_kindAbove_49 ⟨by simp only [fp_tn] at *; simp [k_above, *], rfl, rfl⟩
theorem ok_X1_kindName {X : fp_X} {M : fp_M} {a : Int32} : fp_Ev X mX1_kindName [.int a] fp_sh M (some (.ref (k_kname a))) M := by
  refine fp_ok [some (.int a)] ?_
  refine r_iloadn dX1_kindName_0 rfl ?_
  refine r_tsw [(1, 40), (2, 43), (3, 46), (4, 49), (5, 52), (6, 55)] 58 dX1_kindName_1 (And.intro (fun h1 => ?_) (And.intro (fun h1 => ?_) (And.intro (fun h1 => ?_) (And.intro (fun h1 => ?_) (And.intro (fun h1 => ?_) (And.intro (fun h1 => ?_) (trivial))))))) (fun h1 => ?_)
  · refine r_ldcS (i := 1) dX1_kindName_40 (by decide) rfl rfl ?_
    exact r_aret dX1_kindName_42 ⟨by simp only [fp_tn] at *; simp [k_kname, *], rfl, rfl⟩
  · refine r_ldcS (i := 2) dX1_kindName_43 (by decide) rfl rfl ?_
    exact r_aret dX1_kindName_45 ⟨by simp only [fp_tn] at *; simp [k_kname, *], rfl, rfl⟩
  · refine r_ldcS (i := 3) dX1_kindName_46 (by decide) rfl rfl ?_
    exact r_aret dX1_kindName_48 ⟨by simp only [fp_tn] at *; simp [k_kname, *], rfl, rfl⟩
  · refine r_ldcS (i := 4) dX1_kindName_49 (by decide) rfl rfl ?_
    exact r_aret dX1_kindName_51 ⟨by simp only [fp_tn] at *; simp [k_kname, *], rfl, rfl⟩
  · refine r_ldcS (i := 5) dX1_kindName_52 (by decide) rfl rfl ?_
    exact r_aret dX1_kindName_54 ⟨by simp only [fp_tn] at *; simp [k_kname, *], rfl, rfl⟩
  · refine r_ldcS (i := 6) dX1_kindName_55 (by decide) rfl rfl ?_
    exact r_aret dX1_kindName_57 ⟨by simp only [fp_tn] at *; simp [k_kname, *], rfl, rfl⟩
  · refine r_ldcS (i := 0) dX1_kindName_58 (by decide) rfl rfl ?_
    exact r_aret dX1_kindName_60 ⟨by simp only [fp_tn] at *; simp [k_kname, *], rfl, rfl⟩
theorem ok_X1_least {X : fp_X} {M : fp_M} {L : Nat} {s : Int32} (hL : fp_isL L): fp_Ev X mX1_least [.ref L, .int s] fp_sh M (some (.int (k_least (M L 0) (M L 3) s))) M := by
  refine fp_ok [some (.ref L), some (.int s)] ?_
  refine r_aloadn dX1_least_0 rfl (Or.inl ⟨Nat.lt_of_lt_of_le hL.lt (by decide), by have := hL.lt; omega⟩) ?_
  refine r_getfi dX1_least_1 kf_RX1_11 hL rfl ?_
  refine r_tsw [(1, 44), (2, 57), (3, 62), (4, 68), (5, 48), (6, 44)] 76 dX1_least_4 (And.intro (fun h4 => ?_) (And.intro (fun h4 => ?_) (And.intro (fun h4 => ?_) (And.intro (fun h4 => ?_) (And.intro (fun h4 => ?_) (And.intro (fun h4 => ?_) (trivial))))))) (fun h4 => ?_)
  · refine r_sp (-999) dX1_least_44 ?_
    exact r_iret dX1_least_47 ⟨by simp only [fp_tn] at *; simp [k_least, *], rfl, rfl⟩
  · refine r_aloadn dX1_least_57 rfl (Or.inl ⟨Nat.lt_of_lt_of_le hL.lt (by decide), by have := hL.lt; omega⟩) ?_
    refine r_getfi dX1_least_58 kf_RX1_21 hL rfl ?_
    exact r_iret dX1_least_61 ⟨by simp only [fp_tn] at *; simp [k_least, *], rfl, rfl⟩
  · refine r_aloadn dX1_least_62 rfl (Or.inl ⟨Nat.lt_of_lt_of_le hL.lt (by decide), by have := hL.lt; omega⟩) ?_
    refine r_getfi dX1_least_63 kf_RX1_21 hL rfl ?_
    refine r_ineg dX1_least_66 ?_
    exact r_iret dX1_least_67 ⟨by simp only [fp_tn] at *; simp [k_least, *], rfl, rfl⟩
  · refine r_aloadn dX1_least_68 rfl (Or.inl ⟨Nat.lt_of_lt_of_le hL.lt (by decide), by have := hL.lt; omega⟩) ?_
    refine r_getfi dX1_least_69 kf_RX1_21 hL rfl ?_
    refine r_ineg dX1_least_72 ?_
    refine r_ic (1) dX1_least_73 ?_
    refine r_isub dX1_least_74 ?_
    exact r_iret dX1_least_75 ⟨by simp only [fp_tn] at *; simp [k_least, *], rfl, rfl⟩
  · refine r_aloadn dX1_least_48 rfl (Or.inl ⟨Nat.lt_of_lt_of_le hL.lt (by decide), by have := hL.lt; omega⟩) ?_
    refine r_getfi dX1_least_49 kf_RX1_21 hL rfl ?_
    refine r_iloadn dX1_least_52 rfl ?_
    refine r_isub dX1_least_53 ?_
    refine r_iloadn dX1_least_54 rfl ?_
    refine r_isub dX1_least_55 ?_
    exact r_iret dX1_least_56 ⟨by simp only [fp_tn] at *; simp [k_least, *], rfl, rfl⟩
  · refine r_sp (-999) dX1_least_44 ?_
    exact r_iret dX1_least_47 ⟨by simp only [fp_tn] at *; simp [k_least, *], rfl, rfl⟩
  · refine r_aloadn dX1_least_76 rfl (Or.inl ⟨Nat.lt_of_lt_of_le hL.lt (by decide), by have := hL.lt; omega⟩) ?_
    refine r_getfi dX1_least_77 kf_RX1_21 hL rfl ?_
    refine r_iloadn dX1_least_80 rfl ?_
    refine r_isub dX1_least_81 ?_
    exact r_iret dX1_least_82 ⟨by simp only [fp_tn] at *; simp [k_least, *], rfl, rfl⟩
theorem ok_X1_most {X : fp_X} {M : fp_M} {L : Nat} {s : Int32} (hL : fp_isL L): fp_Ev X mX1_most [.ref L, .int s] fp_sh M (some (.int (k_most (M L 0) (M L 3) s))) M := by
  refine fp_ok [some (.ref L), some (.int s)] ?_
  refine r_aloadn dX1_most_0 rfl (Or.inl ⟨Nat.lt_of_lt_of_le hL.lt (by decide), by have := hL.lt; omega⟩) ?_
  refine r_getfi dX1_most_1 kf_RX1_11 hL rfl ?_
  refine r_tsw [(2, 58), (3, 63), (4, 69), (5, 49), (6, 40)] 77 dX1_most_4 (And.intro (fun h4 => ?_) (And.intro (fun h4 => ?_) (And.intro (fun h4 => ?_) (And.intro (fun h4 => ?_) (And.intro (fun h4 => ?_) (trivial)))))) (fun h4 => ?_)
  · refine r_aloadn dX1_most_58 rfl (Or.inl ⟨Nat.lt_of_lt_of_le hL.lt (by decide), by have := hL.lt; omega⟩) ?_
    refine r_getfi dX1_most_59 kf_RX1_21 hL rfl ?_
    exact r_iret dX1_most_62 ⟨by simp only [fp_tn] at *; simp [k_most, *], rfl, rfl⟩
  · refine r_aloadn dX1_most_63 rfl (Or.inl ⟨Nat.lt_of_lt_of_le hL.lt (by decide), by have := hL.lt; omega⟩) ?_
    refine r_getfi dX1_most_64 kf_RX1_21 hL rfl ?_
    refine r_ineg dX1_most_67 ?_
    exact r_iret dX1_most_68 ⟨by simp only [fp_tn] at *; simp [k_most, *], rfl, rfl⟩
  · refine r_aloadn dX1_most_69 rfl (Or.inl ⟨Nat.lt_of_lt_of_le hL.lt (by decide), by have := hL.lt; omega⟩) ?_
    refine r_getfi dX1_most_70 kf_RX1_21 hL rfl ?_
    refine r_ineg dX1_most_73 ?_
    refine r_ic (1) dX1_most_74 ?_
    refine r_iadd dX1_most_75 ?_
    exact r_iret dX1_most_76 ⟨by simp only [fp_tn] at *; simp [k_most, *], rfl, rfl⟩
  · refine r_aloadn dX1_most_49 rfl (Or.inl ⟨Nat.lt_of_lt_of_le hL.lt (by decide), by have := hL.lt; omega⟩) ?_
    refine r_getfi dX1_most_50 kf_RX1_21 hL rfl ?_
    refine r_iloadn dX1_most_53 rfl ?_
    refine r_iadd dX1_most_54 ?_
    refine r_iloadn dX1_most_55 rfl ?_
    refine r_iadd dX1_most_56 ?_
    exact r_iret dX1_most_57 ⟨by simp only [fp_tn] at *; simp [k_most, *], rfl, rfl⟩
  · refine r_aloadn dX1_most_40 rfl (Or.inl ⟨Nat.lt_of_lt_of_le hL.lt (by decide), by have := hL.lt; omega⟩) ?_
    refine r_getfi dX1_most_41 kf_RX1_21 hL rfl ?_
    refine r_iloadn dX1_most_44 rfl ?_
    refine r_iadd dX1_most_45 ?_
    refine r_ic (5) dX1_most_46 ?_
    refine r_iadd dX1_most_47 ?_
    exact r_iret dX1_most_48 ⟨by simp only [fp_tn] at *; simp [k_most, *], rfl, rfl⟩
  · refine r_aloadn dX1_most_77 rfl (Or.inl ⟨Nat.lt_of_lt_of_le hL.lt (by decide), by have := hL.lt; omega⟩) ?_
    refine r_getfi dX1_most_78 kf_RX1_21 hL rfl ?_
    refine r_iloadn dX1_most_81 rfl ?_
    refine r_iadd dX1_most_82 ?_
    exact r_iret dX1_most_83 ⟨by simp only [fp_tn] at *; simp [k_most, *], rfl, rfl⟩
theorem ok_X1_comes {X : fp_X} {M : fp_M} {L : Nat} {f : Int32} (hL : fp_isL L): fp_Ev X mX1_comes [.ref L, .int f] fp_sh M (some (.int (k_comes (M L 0) (M L 4) (M L 3) f))) M := by
  refine fp_ok [some (.ref L), some (.int f), none] ?_
  refine r_aloadn dX1_comes_0 rfl (Or.inl ⟨Nat.lt_of_lt_of_le hL.lt (by decide), by have := hL.lt; omega⟩) ?_
  refine r_getfi dX1_comes_1 kf_RX1_21 hL rfl ?_
  refine c_S1 (μz := mJ9_abs_0f7a4) dX1_comes_4 kl_RX1_44 ms_J9_abs_0f7a4 ok_J9_abs_0f7a4 ?_
  refine r_istore2 dX1_comes_7 ?_
  refine r_aloadn dX1_comes_8 rfl (Or.inl ⟨Nat.lt_of_lt_of_le hL.lt (by decide), by have := hL.lt; omega⟩) ?_
  refine r_getfi dX1_comes_9 kf_RX1_11 hL rfl ?_
  refine r_tsw [(1, 52), (2, 73), (3, 84), (4, 89), (5, 96), (6, 61)] 96 dX1_comes_12 (And.intro (fun h12 => ?_) (And.intro (fun h12 => ?_) (And.intro (fun h12 => ?_) (And.intro (fun h12 => ?_) (And.intro (fun h12 => ?_) (And.intro (fun h12 => ?_) (trivial))))))) (fun h12 => ?_)
  · refine r_aloadn dX1_comes_52 rfl (Or.inl ⟨Nat.lt_of_lt_of_le hL.lt (by decide), by have := hL.lt; omega⟩) ?_
    refine r_getfi dX1_comes_53 kf_RX1_24 hL rfl ?_
    refine r_iloadn dX1_comes_56 rfl ?_
    refine r_ic (2) dX1_comes_57 ?_
    refine r_idiv dX1_comes_58 (by decide) ?_
    refine r_iadd dX1_comes_59 ?_
    exact r_iret dX1_comes_60 ⟨by simp only [fp_tn] at *; simp [k_comes, k_abs, *], rfl, rfl⟩
  · refine r_aloadn dX1_comes_73 rfl (Or.inl ⟨Nat.lt_of_lt_of_le hL.lt (by decide), by have := hL.lt; omega⟩) ?_
    refine r_getfi dX1_comes_74 kf_RX1_24 hL rfl ?_
    refine r_iloadn dX1_comes_77 rfl ?_
    refine r_iadd dX1_comes_78 ?_
    refine r_iloadn dX1_comes_79 rfl ?_
    refine r_iadd dX1_comes_80 ?_
    refine r_ic (1) dX1_comes_81 ?_
    refine r_iadd dX1_comes_82 ?_
    exact r_iret dX1_comes_83 ⟨by simp only [fp_tn] at *; simp [k_comes, k_abs, *], rfl, rfl⟩
  · refine r_aloadn dX1_comes_84 rfl (Or.inl ⟨Nat.lt_of_lt_of_le hL.lt (by decide), by have := hL.lt; omega⟩) ?_
    refine r_getfi dX1_comes_85 kf_RX1_24 hL rfl ?_
    exact r_iret dX1_comes_88 ⟨by simp only [fp_tn] at *; simp [k_comes, k_abs, *], rfl, rfl⟩
  · refine r_aloadn dX1_comes_89 rfl (Or.inl ⟨Nat.lt_of_lt_of_le hL.lt (by decide), by have := hL.lt; omega⟩) ?_
    refine r_getfi dX1_comes_90 kf_RX1_24 hL rfl ?_
    refine r_ic (2) dX1_comes_93 ?_
    refine r_iadd dX1_comes_94 ?_
    exact r_iret dX1_comes_95 ⟨by simp only [fp_tn] at *; simp [k_comes, k_abs, *], rfl, rfl⟩
  · refine r_aloadn dX1_comes_96 rfl (Or.inl ⟨Nat.lt_of_lt_of_le hL.lt (by decide), by have := hL.lt; omega⟩) ?_
    refine r_getfi dX1_comes_97 kf_RX1_24 hL rfl ?_
    refine r_iloadn dX1_comes_100 rfl ?_
    refine r_iadd dX1_comes_101 ?_
    refine r_iloadn dX1_comes_102 rfl ?_
    refine r_iadd dX1_comes_103 ?_
    exact r_iret dX1_comes_104 ⟨by simp only [fp_tn] at *; simp [k_comes, k_abs, *], rfl, rfl⟩
  · refine r_aloadn dX1_comes_61 rfl (Or.inl ⟨Nat.lt_of_lt_of_le hL.lt (by decide), by have := hL.lt; omega⟩) ?_
    refine r_getfi dX1_comes_62 kf_RX1_24 hL rfl ?_
    refine r_iloadn dX1_comes_65 rfl ?_
    refine r_ic (2) dX1_comes_66 ?_
    refine r_idiv dX1_comes_67 (by decide) ?_
    refine r_iadd dX1_comes_68 ?_
    refine r_bp (10) dX1_comes_69 ?_
    refine r_iadd dX1_comes_71 ?_
    exact r_iret dX1_comes_72 ⟨by simp only [fp_tn] at *; simp [k_comes, k_abs, *], rfl, rfl⟩
  · refine r_aloadn dX1_comes_96 rfl (Or.inl ⟨Nat.lt_of_lt_of_le hL.lt (by decide), by have := hL.lt; omega⟩) ?_
    refine r_getfi dX1_comes_97 kf_RX1_24 hL rfl ?_
    refine r_iloadn dX1_comes_100 rfl ?_
    refine r_iadd dX1_comes_101 ?_
    refine r_iloadn dX1_comes_102 rfl ?_
    refine r_iadd dX1_comes_103 ?_
    exact r_iret dX1_comes_104 ⟨by simp only [fp_tn] at *; simp [k_comes, k_abs, *], rfl, rfl⟩
theorem ok_X1_part {X : fp_X} {M : fp_M} {L : Nat} {w : Int32} (hL : fp_isL L): fp_Ev X mX1_part [.ref L, .int w] fp_sh M (some (.int (k_part M L w))) M := by
  refine fp_ok [some (.ref L), some (.int w)] ?_
  refine r_iloadn dX1_part_0 rfl ?_
  refine r_tsw [(0, 36), (1, 41), (2, 46), (3, 51), (4, 56)] 61 dX1_part_1 (And.intro (fun h1 => ?_) (And.intro (fun h1 => ?_) (And.intro (fun h1 => ?_) (And.intro (fun h1 => ?_) (And.intro (fun h1 => ?_) (trivial)))))) (fun h1 => ?_)
  · refine r_aloadn dX1_part_36 rfl (Or.inl ⟨Nat.lt_of_lt_of_le hL.lt (by decide), by have := hL.lt; omega⟩) ?_
    refine r_getfi dX1_part_37 kf_RX1_11 hL rfl ?_
    exact r_iret dX1_part_40 ⟨by simp only [fp_tn] at *; simp [k_part, *], rfl, rfl⟩
  · refine r_aloadn dX1_part_41 rfl (Or.inl ⟨Nat.lt_of_lt_of_le hL.lt (by decide), by have := hL.lt; omega⟩) ?_
    refine r_getfi dX1_part_42 kf_RX1_15 hL rfl ?_
    exact r_iret dX1_part_45 ⟨by simp only [fp_tn] at *; simp [k_part, *], rfl, rfl⟩
  · refine r_aloadn dX1_part_46 rfl (Or.inl ⟨Nat.lt_of_lt_of_le hL.lt (by decide), by have := hL.lt; omega⟩) ?_
    refine r_getfi dX1_part_47 kf_RX1_18 hL rfl ?_
    exact r_iret dX1_part_50 ⟨by simp only [fp_tn] at *; simp [k_part, *], rfl, rfl⟩
  · refine r_aloadn dX1_part_51 rfl (Or.inl ⟨Nat.lt_of_lt_of_le hL.lt (by decide), by have := hL.lt; omega⟩) ?_
    refine r_getfi dX1_part_52 kf_RX1_21 hL rfl ?_
    exact r_iret dX1_part_55 ⟨by simp only [fp_tn] at *; simp [k_part, *], rfl, rfl⟩
  · refine r_aloadn dX1_part_56 rfl (Or.inl ⟨Nat.lt_of_lt_of_le hL.lt (by decide), by have := hL.lt; omega⟩) ?_
    refine r_getfi dX1_part_57 kf_RX1_24 hL rfl ?_
    exact r_iret dX1_part_60 ⟨by simp only [fp_tn] at *; simp [k_part, *], rfl, rfl⟩
  · refine r_aloadn dX1_part_61 rfl (Or.inl ⟨Nat.lt_of_lt_of_le hL.lt (by decide), by have := hL.lt; omega⟩) ?_
    refine r_getfi dX1_part_62 kf_RX1_27 hL rfl ?_
    exact r_iret dX1_part_65 ⟨by simp only [fp_tn] at *; simp [k_part, *], rfl, rfl⟩
theorem ok_X1_setPart {X : fp_X} {M : fp_M} {L : Nat} {w v : Int32} (hL : fp_isL L): fp_Ev X mX1_setPart [.ref L, .int w, .int v] fp_sh M none (k_setp M L w v) := by
  refine fp_ok [some (.ref L), some (.int w), some (.int v)] ?_
  refine r_iloadn dX1_setPart_0 rfl ?_
  refine r_tsw [(0, 36), (1, 44), (2, 52), (3, 60), (4, 68)] 76 dX1_setPart_1 (And.intro (fun h1 => ?_) (And.intro (fun h1 => ?_) (And.intro (fun h1 => ?_) (And.intro (fun h1 => ?_) (And.intro (fun h1 => ?_) (trivial)))))) (fun h1 => ?_)
  · refine r_aloadn dX1_setPart_36 rfl (Or.inl ⟨Nat.lt_of_lt_of_le hL.lt (by decide), by have := hL.lt; omega⟩) ?_
    refine r_iloadn dX1_setPart_37 rfl ?_
    refine r_putfi dX1_setPart_38 kf_RX1_11 hL rfl ?_
    refine r_goto 81 dX1_setPart_41 ?_
    exact r_vret dX1_setPart_81 ⟨rfl, rfl, by simp only [fp_tn] at *; simp [k_setp, *]⟩
  · refine r_aloadn dX1_setPart_44 rfl (Or.inl ⟨Nat.lt_of_lt_of_le hL.lt (by decide), by have := hL.lt; omega⟩) ?_
    refine r_iloadn dX1_setPart_45 rfl ?_
    refine r_putfi dX1_setPart_46 kf_RX1_15 hL rfl ?_
    refine r_goto 81 dX1_setPart_49 ?_
    exact r_vret dX1_setPart_81 ⟨rfl, rfl, by simp only [fp_tn] at *; simp [k_setp, *]⟩
  · refine r_aloadn dX1_setPart_52 rfl (Or.inl ⟨Nat.lt_of_lt_of_le hL.lt (by decide), by have := hL.lt; omega⟩) ?_
    refine r_iloadn dX1_setPart_53 rfl ?_
    refine r_putfi dX1_setPart_54 kf_RX1_18 hL rfl ?_
    refine r_goto 81 dX1_setPart_57 ?_
    exact r_vret dX1_setPart_81 ⟨rfl, rfl, by simp only [fp_tn] at *; simp [k_setp, *]⟩
  · refine r_aloadn dX1_setPart_60 rfl (Or.inl ⟨Nat.lt_of_lt_of_le hL.lt (by decide), by have := hL.lt; omega⟩) ?_
    refine r_iloadn dX1_setPart_61 rfl ?_
    refine r_putfi dX1_setPart_62 kf_RX1_21 hL rfl ?_
    refine r_goto 81 dX1_setPart_65 ?_
    exact r_vret dX1_setPart_81 ⟨rfl, rfl, by simp only [fp_tn] at *; simp [k_setp, *]⟩
  · refine r_aloadn dX1_setPart_68 rfl (Or.inl ⟨Nat.lt_of_lt_of_le hL.lt (by decide), by have := hL.lt; omega⟩) ?_
    refine r_iloadn dX1_setPart_69 rfl ?_
    refine r_putfi dX1_setPart_70 kf_RX1_24 hL rfl ?_
    refine r_goto 81 dX1_setPart_73 ?_
    exact r_vret dX1_setPart_81 ⟨rfl, rfl, by simp only [fp_tn] at *; simp [k_setp, *]⟩
  · refine r_aloadn dX1_setPart_76 rfl (Or.inl ⟨Nat.lt_of_lt_of_le hL.lt (by decide), by have := hL.lt; omega⟩) ?_
    refine r_iloadn dX1_setPart_77 rfl ?_
    refine r_putfi dX1_setPart_78 kf_RX1_27 hL rfl ?_
    exact r_vret dX1_setPart_81 ⟨rfl, rfl, by simp only [fp_tn] at *; simp [k_setp, *]⟩
theorem ok_X1_become {X : fp_X} {M : fp_M} {L K : Nat} (hL : fp_isL L) (hK : fp_isL K) (hne : ¬ K = L) : fp_Ev X mX1_become [.ref L, .ref K] fp_sh M none (k_let M L K) := by
  refine fp_ok [some (.ref L), some (.ref K)] ?_
  refine r_aloadn dX1_become_0 rfl (by first | exact Or.inl ⟨Nat.lt_of_lt_of_le hL.lt (by decide), by have := hL.lt; omega⟩ | exact Or.inl ⟨Nat.lt_of_lt_of_le hK.lt (by decide), by have := hK.lt; omega⟩) ?_
  refine r_aloadn dX1_become_1 rfl (by first | exact Or.inl ⟨Nat.lt_of_lt_of_le hL.lt (by decide), by have := hL.lt; omega⟩ | exact Or.inl ⟨Nat.lt_of_lt_of_le hK.lt (by decide), by have := hK.lt; omega⟩) ?_
  refine r_getfi dX1_become_2 kf_RX1_11 (by first | exact hL | exact hK) rfl ?_
  refine r_putfi dX1_become_5 kf_RX1_11 (by first | exact hL | exact hK) rfl ?_
  refine r_aloadn dX1_become_8 rfl (by first | exact Or.inl ⟨Nat.lt_of_lt_of_le hL.lt (by decide), by have := hL.lt; omega⟩ | exact Or.inl ⟨Nat.lt_of_lt_of_le hK.lt (by decide), by have := hK.lt; omega⟩) ?_
  refine r_aloadn dX1_become_9 rfl (by first | exact Or.inl ⟨Nat.lt_of_lt_of_le hL.lt (by decide), by have := hL.lt; omega⟩ | exact Or.inl ⟨Nat.lt_of_lt_of_le hK.lt (by decide), by have := hK.lt; omega⟩) ?_
  refine r_getfi dX1_become_10 kf_RX1_15 (by first | exact hL | exact hK) rfl ?_
  refine r_putfi dX1_become_13 kf_RX1_15 (by first | exact hL | exact hK) rfl ?_
  refine r_aloadn dX1_become_16 rfl (by first | exact Or.inl ⟨Nat.lt_of_lt_of_le hL.lt (by decide), by have := hL.lt; omega⟩ | exact Or.inl ⟨Nat.lt_of_lt_of_le hK.lt (by decide), by have := hK.lt; omega⟩) ?_
  refine r_aloadn dX1_become_17 rfl (by first | exact Or.inl ⟨Nat.lt_of_lt_of_le hL.lt (by decide), by have := hL.lt; omega⟩ | exact Or.inl ⟨Nat.lt_of_lt_of_le hK.lt (by decide), by have := hK.lt; omega⟩) ?_
  refine r_getfi dX1_become_18 kf_RX1_18 (by first | exact hL | exact hK) rfl ?_
  refine r_putfi dX1_become_21 kf_RX1_18 (by first | exact hL | exact hK) rfl ?_
  refine r_aloadn dX1_become_24 rfl (by first | exact Or.inl ⟨Nat.lt_of_lt_of_le hL.lt (by decide), by have := hL.lt; omega⟩ | exact Or.inl ⟨Nat.lt_of_lt_of_le hK.lt (by decide), by have := hK.lt; omega⟩) ?_
  refine r_aloadn dX1_become_25 rfl (by first | exact Or.inl ⟨Nat.lt_of_lt_of_le hL.lt (by decide), by have := hL.lt; omega⟩ | exact Or.inl ⟨Nat.lt_of_lt_of_le hK.lt (by decide), by have := hK.lt; omega⟩) ?_
  refine r_getfi dX1_become_26 kf_RX1_21 (by first | exact hL | exact hK) rfl ?_
  refine r_putfi dX1_become_29 kf_RX1_21 (by first | exact hL | exact hK) rfl ?_
  refine r_aloadn dX1_become_32 rfl (by first | exact Or.inl ⟨Nat.lt_of_lt_of_le hL.lt (by decide), by have := hL.lt; omega⟩ | exact Or.inl ⟨Nat.lt_of_lt_of_le hK.lt (by decide), by have := hK.lt; omega⟩) ?_
  refine r_aloadn dX1_become_33 rfl (by first | exact Or.inl ⟨Nat.lt_of_lt_of_le hL.lt (by decide), by have := hL.lt; omega⟩ | exact Or.inl ⟨Nat.lt_of_lt_of_le hK.lt (by decide), by have := hK.lt; omega⟩) ?_
  refine r_getfi dX1_become_34 kf_RX1_24 (by first | exact hL | exact hK) rfl ?_
  refine r_putfi dX1_become_37 kf_RX1_24 (by first | exact hL | exact hK) rfl ?_
  refine r_aloadn dX1_become_40 rfl (by first | exact Or.inl ⟨Nat.lt_of_lt_of_le hL.lt (by decide), by have := hL.lt; omega⟩ | exact Or.inl ⟨Nat.lt_of_lt_of_le hK.lt (by decide), by have := hK.lt; omega⟩) ?_
  refine r_aloadn dX1_become_41 rfl (by first | exact Or.inl ⟨Nat.lt_of_lt_of_le hL.lt (by decide), by have := hL.lt; omega⟩ | exact Or.inl ⟨Nat.lt_of_lt_of_le hK.lt (by decide), by have := hK.lt; omega⟩) ?_
  refine r_getfi dX1_become_42 kf_RX1_27 (by first | exact hL | exact hK) rfl ?_
  refine r_putfi dX1_become_45 kf_RX1_27 (by first | exact hL | exact hK) rfl ?_
  exact r_vret dX1_become_48 ⟨rfl, rfl, by simp only [fp_wr_ne hne]; exact (k_let_eq M L K).symm⟩
/-- may a part become v -/
abbrev k_ispart (M : fp_M) (L : Nat) (w v : Int32) : Prop := (w = 0 ∧ 0 ≤ v ∧ v ≤ 6) ∨ (w = 1 ∧ (0 ≤ v ∧ v ≤ 7) ∧ (0 ≤ M L 2 ∧ M L 2 ≤ 7) ∧ ¬ v = M L 2) ∨ (w = 2 ∧ (0 ≤ M L 1 ∧ M L 1 ≤ 7) ∧ (0 ≤ v ∧ v ≤ 7) ∧ ¬ M L 1 = v) ∨ (w = 3 ∧ -99 ≤ v ∧ v ≤ 99) ∨ (w = 4 ∧ 0 ≤ v ∧ v ≤ 999) ∨ (w = 5 ∧ 0 ≤ v ∧ v ≤ 1)
