/-! ===== from the order in which cells were made to the places ===== -/
def fz_pi (k : Nat) : Nat := if k = 11 then 3 else if 3 ≤ k ∧ k ≤ 10 then k + 1 else if k = 22 then 14 else if 14 ≤ k ∧ k ≤ 21 then k + 1 else if k = 33 then 25 else if 25 ≤ k ∧ k ≤ 32 then k + 1 else k
def fz_ip (k : Nat) : Nat := if k = 3 then 11 else if 4 ≤ k ∧ k ≤ 11 then k - 1 else if k = 14 then 22 else if 15 ≤ k ∧ k ≤ 22 then k - 1 else if k = 25 then 33 else if 26 ≤ k ∧ k ≤ 33 then k - 1 else k
theorem fz_far {k : Nat} (h : 34 ≤ k) : fz_pi k = k ∧ fz_ip k = k := by
  constructor
  · unfold fz_pi
    rw [if_neg (by omega), if_neg (by omega), if_neg (by omega), if_neg (by omega), if_neg (by omega), if_neg (by omega)]
  · unfold fz_ip
    rw [if_neg (by omega), if_neg (by omega), if_neg (by omega), if_neg (by omega), if_neg (by omega), if_neg (by omega)]
theorem fz_near : ∀ k, k < 34 → fz_ip (fz_pi k) = k ∧ fz_pi (fz_ip k) = k := by decide +kernel
theorem fz_ip_pi (k : Nat) : fz_ip (fz_pi k) = k := by
  rcases Nat.lt_or_ge k 34 with h | h
  · exact (fz_near k h).1
  · rw [(fz_far h).1, (fz_far h).2]
theorem fz_pi_ip (k : Nat) : fz_pi (fz_ip k) = k := by
  rcases Nat.lt_or_ge k 34 with h | h
  · exact (fz_near k h).2
  · rw [(fz_far h).2, (fz_far h).1]
theorem fz_pi_lt {k : Nat} : fz_pi k < 59 ↔ k < 59 := by
  unfold fz_pi
  repeat' split
  all_goals omega
def fz_ren : fp_C → fp_C
  | .inl o => .inl (o.1, o.2.map (Option.map (Option.map fz_pi)))
  | .inr (.inl n) => .inr (.inl n)
  | .inr (.inr a) => .inr (.inr (a.1, a.2.map (Option.map fz_pi)))
theorem fz_shape : ∀ k, k < 59 → fz_sh[fz_pi k]? = (fp_sh[k]?).map fz_ren := by
  intro k hk
  match k, hk with
  | 0, _ => rfl
  | 1, _ => rfl
  | 2, _ => rfl
  | 3, _ => rfl
  | 4, _ => rfl
  | 5, _ => rfl
  | 6, _ => rfl
  | 7, _ => rfl
  | 8, _ => rfl
  | 9, _ => rfl
  | 10, _ => rfl
  | 11, _ => rfl
  | 12, _ => rfl
  | 13, _ => rfl
  | 14, _ => rfl
  | 15, _ => rfl
  | 16, _ => rfl
  | 17, _ => rfl
  | 18, _ => rfl
  | 19, _ => rfl
  | 20, _ => rfl
  | 21, _ => rfl
  | 22, _ => rfl
  | 23, _ => rfl
  | 24, _ => rfl
  | 25, _ => rfl
  | 26, _ => rfl
  | 27, _ => rfl
  | 28, _ => rfl
  | 29, _ => rfl
  | 30, _ => rfl
  | 31, _ => rfl
  | 32, _ => rfl
  | 33, _ => rfl
  | 34, _ => rfl
  | 35, _ => rfl
  | 36, _ => rfl
  | 37, _ => rfl
  | 38, _ => rfl
  | 39, _ => rfl
  | 40, _ => rfl
  | 41, _ => rfl
  | 42, _ => rfl
  | 43, _ => rfl
  | 44, _ => rfl
  | 45, _ => rfl
  | 46, _ => rfl
  | 47, _ => rfl
  | 48, _ => rfl
  | 49, _ => rfl
  | 50, _ => rfl
  | 51, _ => rfl
  | 52, _ => rfl
  | 53, _ => rfl
  | 54, _ => rfl
  | 55, _ => rfl
  | 56, _ => rfl
  | 57, _ => rfl
  | 58, _ => rfl
  | n + 59, h => omega
section FT
variable {X X' : fp_X} {cs : Nat → ClassId} {base : Nat}
theorem fz_e (hX : ∀ k, X.2.2 k = k) (hX' : ∀ k, X'.2.2 k = fz_pi k) (M : fp_M) (k : Nat) (c : fp_C) : fp_e X cs base M (fz_pi k) (fz_ren c) = fp_e X' cs base (fun k j => M (fz_pi k) j) k c := by
  have had : ∀ r, fp_ad X base (fz_pi r) = fp_ad X' base r := fun r => by unfold fp_ad; rw [hX, hX']
  rcases c with o | n | a
  · show Sum.inr (o.1, (o.2.map (Option.map (Option.map fz_pi))).zipIdx.map (fp_fv X base M (fz_pi k))) = Sum.inr (o.1, o.2.zipIdx.map (fp_fv X' base (fun k j => M (fz_pi k) j) k))
    congr 2
    refine List.ext_getElem? fun i => ?_
    rw [List.getElem?_map, List.getElem?_zipIdx, List.getElem?_map, List.getElem?_map, List.getElem?_zipIdx]
    cases h : o.2[i]? with
    | none => rfl
    | some f =>
      rcases f with _ | _ | r
      · rfl
      · rfl
      · show some (Value.ref (fp_ad X base (fz_pi r))) = some (Value.ref (fp_ad X' base r))
        rw [had]
  · rfl
  · show Sum.inl (cs a.1, (a.2.map (Option.map fz_pi)).length, Sum.inr (Sum.inr (Sum.inr (Sum.inr (fun j => ((a.2.map (Option.map fz_pi)).getD j none).map (fun r => fp_ad X base r)))))) = Sum.inl (cs a.1, a.2.length, Sum.inr (Sum.inr (Sum.inr (Sum.inr (fun j => (a.2.getD j none).map (fun r => fp_ad X' base r))))))
    rw [List.length_map]
    have e : (fun j => ((a.2.map (Option.map fz_pi)).getD j none).map (fun r => fp_ad X base r)) = fun j => (a.2.getD j none).map (fun r => fp_ad X' base r) := by
      funext j
      rw [List.getD_eq_getElem?_getD, List.getD_eq_getElem?_getD, List.getElem?_map]
      cases h : a.2[j]? with
      | none => rfl
      | some f =>
        rcases f with _ | r
        · rfl
        · show some (fp_ad X base (fz_pi r)) = some (fp_ad X' base r)
          rw [had]
    rw [e]
theorem fz_w (hX : ∀ k, X.2.2 k = k) (hX' : ∀ k, X'.2.2 k = fz_pi k) (M : fp_M) (k : Nat) : (fp_w X' cs base fp_sh (fun k j => M (fz_pi k) j))[k]? = (fp_w X cs base fz_sh M)[fz_pi k]? := by
  rw [fp_w_at, fp_w_at]
  by_cases hk : k < 59
  · rw [fz_shape k hk]
    cases h : fp_sh[k]? with
    | none => rfl
    | some c =>
      show some (fp_ad X' base k, fp_e X' cs base (fun k j => M (fz_pi k) j) k c) = some (fp_ad X base (fz_pi k), fp_e X cs base M (fz_pi k) (fz_ren c))
      rw [fz_e hX hX']
      unfold fp_ad
      rw [hX, hX']
  · have h1 : fp_sh[k]? = none := List.getElem?_eq_none (by rw [fp_sh_len]; omega)
    have h2 : fz_sh[fz_pi k]? = none := List.getElem?_eq_none (by
      have := fz_pi_lt (k := k)
      show 59 ≤ fz_pi k
      omega)
    rw [h1, h2]
    rfl
theorem fz_w' (hX : ∀ k, X.2.2 k = k) (hX' : ∀ k, X'.2.2 k = fz_pi k) (M : fp_M) (k : Nat) : (fp_w X cs base fz_sh (fun k j => M (fz_ip k) j))[k]? = (fp_w X' cs base fp_sh M)[fz_ip k]? := by
  have e := fz_w (cs := cs) (base := base) hX hX' (fun k j => M (fz_ip k) j) (fz_ip k)
  rw [fz_pi_ip] at e
  rw [← e]
  congr 2
  funext k j
  show M (fz_ip (fz_pi k)) j = M k j
  rw [fz_ip_pi]
theorem fz_H (hX : ∀ k, X.2.2 k = k) (hX' : ∀ k, X'.2.2 k = fz_pi k) {D : va_G} {A : Nat → Prop} {s : State} {M : fp_M} {H : Heap} {locs : List Loc} (h : fp_H X D cs base A s fz_sh M H locs) : fp_H X' D cs base A s fp_sh (fun k j => M (fz_pi k) j) H locs := by
  obtain ⟨hP, ⟨hD1, hD2⟩, hS, hsz, hcap⟩ := h
  refine ⟨fun k q hq => hP (fz_pi k) q (by rw [← fz_w hX hX']; exact hq), ⟨fun i j p q hp hq e => ?_, fun k q hq => hD2 (fz_pi k) q (by rw [← fz_w hX hX']; exact hq)⟩, hS, hsz, by decide⟩
  have := hD1 (fz_pi i) (fz_pi j) p q (by rw [← fz_w hX hX']; exact hp) (by rw [← fz_w hX hX']; exact hq) e
  rw [← fz_ip_pi i, ← fz_ip_pi j, this]
theorem fz_H' (hX : ∀ k, X.2.2 k = k) (hX' : ∀ k, X'.2.2 k = fz_pi k) {D : va_G} {A : Nat → Prop} {s : State} {M : fp_M} {H : Heap} {locs : List Loc} (h : fp_H X' D cs base A s fp_sh M H locs) : fp_H X D cs base A s fz_sh (fun k j => M (fz_ip k) j) H locs := by
  obtain ⟨hP, ⟨hD1, hD2⟩, hS, hsz, hcap⟩ := h
  refine ⟨fun k q hq => hP (fz_ip k) q (by rw [← fz_w' hX hX']; exact hq), ⟨fun i j p q hp hq e => ?_, fun k q hq => hD2 (fz_ip k) q (by rw [← fz_w' hX hX']; exact hq)⟩, hS, hsz, by decide⟩
  have := hD1 (fz_ip i) (fz_ip j) p q (by rw [← fz_w' hX hX']; exact hp) (by rw [← fz_w' hX hX']; exact hq) e
  rw [← fz_pi_ip i, ← fz_pi_ip j, this]
end FT
/-- from the first order of cells to the second one -/
theorem fz_turn {X X' : fp_X} (h1 : X'.1 = X.1) (h2 : X'.2.1 = X.2.1) (hX : ∀ k, X.2.2 k = k) (hX' : ∀ k, X'.2.2 k = fz_pi k) {μ : fp_Y} {pc nc ns : Nat} {M : fp_M} {i : Int32} (k : fp_W X' μ pc [some (.ref 150), some (.ref 0), some (.ref 49), some (.int i)] [] fp_sh (fun k j => M (fz_pi k) j) nc ns z_Q) : fp_W X μ pc [some (.ref 150), some (.ref 0), some (.ref 49), some (.int i)] [] fz_sh M nc ns (fun r _ _ => r = some (.int 1)) := by
  intro p l e s m args below meth c D cs cv base A Q H locs lsA hF hH hL hN hret
  obtain ⟨hx, hb, hr, hml, hown, hts, hlk, hin, hK, hA, hcv, hR⟩ := hF
  obtain ⟨cv', ecv⟩ : ∃ cv' : Nat → Value, ∀ k, cv' k = if k < 100 then .ref (fp_ad X' base k) else cv k := ⟨_, fun _ => rfl⟩
  have hi : ∀ k, 100 ≤ k → cv' k = cv k := fun k hk => by rw [ecv, if_neg (by omega)]
  have hsame : ∀ k, fz_pi k = k → k < 100 → cv' k = cv k := fun k hk h100 => by
    rw [ecv, if_pos h100, hcv.1 k h100]
    unfold fp_ad
    rw [hX, hX', hk]
  have hR' : fp_R X' cv' A s s.heap := by
    obtain ⟨r1, r2, ⟨adK, adV, r3, r4, r5⟩, ⟨b, r6, r7, r8, r9⟩, r10⟩ := hR
    refine ⟨r1, by rw [hi 140 (by decide)]; exact r2, ⟨adK, adV, r3, fun i hi12 => ⟨by rw [hi _ (by omega)]; exact (r4 i hi12).1, by rw [hi _ (by omega)]; exact (r4 i hi12).2⟩, r5⟩, ⟨b, by rw [hi 150 (by decide)]; exact r6, r7, by rw [h1, h2]; exact r8, r9⟩, r10⟩
  have hF' : fp_F X' μ p s m args meth c D cs cv' base A := ⟨hx, hb, hr, hml, hown, hts, hlk, hin, hK, hA, ⟨fun k hk => by rw [ecv, if_pos hk], fun k => by
    rw [ecv]
    split
    · rfl
    · exact hcv.2 k⟩, hR'⟩
  have hL' : fp_L cv' lsA μ.2.2.1 [some (.ref 150), some (.ref 0), some (.ref 49), some (.int i)] := by
    obtain ⟨l1, l2, l3, l4⟩ := hL
    refine ⟨l1, l2, l3, fun j v hv => ?_⟩
    have e : fp_v cv' v = fp_v cv v := by
      match j, hv with
      | 0, hv => cases hv; exact hi 150 (by decide)
      | 1, hv => cases hv; exact hsame 0 (by decide) (by decide)
      | 2, hv => cases hv; exact hsame 49 (by decide) (by decide)
      | 3, hv => cases hv; rfl
      | n + 4, hv => simp at hv
    rw [e]
    exact l4 j v hv
  refine k p l e s m args below meth c D cs cv' base A Q H locs lsA hF' (fz_H hX hX' hH) hL' hN ?_
  intro ins r pc' lsA' sh' M' H' locs' nc' ns' hd hrt hn hp hH'
  obtain ⟨rfl, rfl⟩ := hp
  exact hret ins (some (.int 1)) pc' lsA' fz_sh _ H' locs' nc' ns' hd hrt hn rfl (fz_H' hX hX' hH')
/-- at the start all is told the same -/
theorem fz_start : w_R (fun k j => fz_M (fz_pi k) j) (fun k j => fz_M (fz_pi k) j) := by
  refine ⟨0, ⟨by decide, by decide +kernel, by decide +kernel, by decide +kernel, by decide +kernel, by decide +kernel, by decide +kernel, fun i hi => absurd hi (Nat.not_lt_zero i), by decide +kernel⟩, ⟨by decide +kernel, fun i hi => absurd hi (Nat.not_lt_zero i), fun k hk => Or.inl ?_⟩, ⟨by decide +kernel, Or.inl (by decide +kernel), fun z => absurd (by decide +kernel) z⟩, ⟨0, by decide, by decide +kernel, by decide +kernel, fun i hi => absurd hi (Nat.not_lt_zero i)⟩, fun k hk => ⟨0, by decide, ?_, ?_, Or.inl ?_, ?_, fun i hi => ?_⟩, ⟨by decide +kernel, by decide +kernel⟩⟩
  · exact (by decide +kernel : ∀ k, k < 10 → fz_M (fz_pi (1 + 10)) k = -1) k hk
  · exact (by decide +kernel : ∀ k, k < 4 → fz_M (fz_pi (41 + 2 * k)) 1 = nI 0) k hk
  · exact (by decide +kernel : ∀ k, k < 4 → fz_M (fz_pi 56) k = nI 0) k hk
  · exact (by decide +kernel : ∀ k, k < 4 → fz_M (fz_pi (41 + 2 * k)) 0 = 0) k hk
  · exact (by decide +kernel : ∀ k, k < 4 → fz_M (fz_pi 55) k = if fz_M (fz_pi (41 + 2 * k)) 0 = 0 then -1 else fz_M (fz_pi (41 + 2 * k)) 0) k hk
  · exact (by decide +kernel : ∀ k, k < 4 → ∀ i, i < 40 → fz_M (fz_pi (42 + 2 * k)) i = fz_M (fz_pi 57) (40 * k + i)) k hk i hi
