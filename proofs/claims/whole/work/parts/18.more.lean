/-! ===== constants pushed ===== -/
section FPK
variable {X : fp_X} {μ : fp_Y} {pc : Nat} {ls : List (Option Value)} {st : List Value} {sh : List fp_C} {M : fp_M} {nc ns : Nat} {Post : fp_Q}
theorem r_ic {i : Int} (v : Int32) (hd : decode μ.2.1 pc = .ok (.iconst i, 1)) (k : fp_W X μ (pc + 1) ls (.int v :: st) sh M nc ns Post) (hv : Int32.ofInt i = v := by decide) : fp_W X μ pc ls st sh M nc ns Post := r_iconst v hd hv k
theorem r_bp {i : Int} (v : Int32) (hd : decode μ.2.1 pc = .ok (.bipush i, 2)) (k : fp_W X μ (pc + 2) ls (.int v :: st) sh M nc ns Post) (hv : (Int8.ofInt i).toInt32 = v := by decide) : fp_W X μ pc ls st sh M nc ns Post := r_bipush v hd hv k
theorem r_sp {i : Int} (v : Int32) (hd : decode μ.2.1 pc = .ok (.sipush i, 3)) (k : fp_W X μ (pc + 3) ls (.int v :: st) sh M nc ns Post) (hv : (Int16.ofInt i).toInt32 = v := by decide) : fp_W X μ pc ls st sh M nc ns Post := r_sipush v hd hv k
theorem r_lc {i : Fin 2} (v : Int64) (hd : decode μ.2.1 pc = .ok (.lconst i, 1)) (k : fp_W X μ (pc + 1) ls (.long v :: st) sh M nc ns Post) (hv : Int64.ofNat (i : Nat) = v := by decide) : fp_W X μ pc ls st sh M nc ns Post := r_lconst v hd hv k
end FPK
set_option maxHeartbeats 1000000 in
/-- the same, for a member of a class with natives of its own -/
theorem fp_okF {X : fp_X} {μ : fp_Y} {av : List Value} {sh : List fp_C} {M : fp_M} {Post : fp_Q} (ls : List (Option Value)) (k : fp_W X μ 0 ls [] sh M 0 0 Post) (hy : plainFor μ.1 = true := by decide +kernel) (hle : (fp_ent av).length ≤ μ.2.2.1 := by exact Nat.le_of_ble_eq_true rfl) (hls : ls = fp_ent av ++ List.replicate (μ.2.2.1 - (fp_ent av).length) none := by rfl) : fp_Ok X μ av sh M Post := by
  intro l D cs cv base
  refine va_MetF (cc := μ.2.1) (maxL := μ.2.2.1) (ret := μ.2.2.2.1) hy rfl ?_
  intro p e s m args below meth c s₁ B hml hv
  obtain ⟨rfl, hsz, hcap, hP, hK, hD, hR, hcv, hcc⟩ := hv
  have hts := atoms_spec (ws := fp_ws μ) B.pre
  have hlocks := B.notSynchronized
  have hown : s.vm.findClass μ.1.cls = some m.cls := findClass_of_methodNamed B.named
  have hF : fp_F X μ p s m (av.map (fp_v cv)).toArray meth c D cs cv base (va_A (fp_w X cs base sh M) (base + sh.length)) := ⟨B.exec, B.bytes, B.returns, hml, hown, fun w h => hts w (List.mem_cons_of_mem _ h), B.notSynchronized, fun hi => ((name_of_methodNamed B.named B.method).1).trans hi, hK, fun q h => Or.inr (by rw [hsz] at h; exact h), ⟨hcv, hcc⟩, hR⟩
  have hH : fp_H X D cs base (va_A (fp_w X cs base sh M) (base + sh.length)) s sh M s.heap [] := ⟨hP, hD.self, va_S.rf, hsz, hcap⟩
  rw [lg_entry_eq]
  have hlen : (lg_sl (av.map (fp_v cv))).length ≤ μ.2.2.1 := by rw [fp_ent_len cv hcc]; exact hle
  have hl := lv_entry (av.map (fp_v cv)) (n := μ.2.2.1) hlen
  have hL : fp_L cv ((lg_sl (av.map (fp_v cv)) ++ List.replicate (μ.2.2.1 - (lg_sl (av.map (fp_v cv))).length) Slot.unset).toArray) μ.2.2.1 ls := by
    refine ⟨hl.1, hl.2.1, ?_, fun i v hv => ?_⟩
    · rw [hls]; simp; omega
    · rw [hls] at hv
      by_cases hi : i < (fp_ent av).length
      · rw [List.getElem?_append_left hi] at hv
        have h1 := fp_ent_at cv hcc av i v hv
        rw [List.getElem?_toArray, List.getElem?_append_left (by rw [fp_ent_len cv hcc]; exact hi)]
        exact h1
      · rw [List.getElem?_append_right (by omega)] at hv
        have := List.mem_of_getElem? hv
        simp at this
  refine k p l e s m _ below meth c D cs cv base _ _ s.heap [] _ hF hH hL ⟨Nat.zero_le _, Nat.zero_le _⟩ ?_
  intro ins r pc' lsA' sh' M' H' locs' nc' ns' hd hrt hn hp hH'
  refine W.widen hn.1 hn.2 ?_
  have hq : ∀ (t : State), t.heap = H' → s.WarmedH t.vm → fp_Qc X D cs cv base Post (va_A (fp_w X cs base sh M) (base + sh.length)) (av.map (fp_v cv)).toArray s (.returned (r.map (fp_v cv))) t := fun t ht _ => ⟨⟨r, sh', M', rfl, hp, by rw [ht]; exact hH'.2.2.2.1, hH'.2.2.2.2, by rw [ht]; exact hH'.1, hH'.2.1⟩, hH'.2.2.1.F ht⟩
  rcases hrt with ⟨rfl, v, t, hty, hnar, rfl⟩ | ⟨rfl, hty, v, rfl⟩ | ⟨rfl, q, t, hty, h1, h2, rfl⟩ | ⟨rfl, hty, rfl⟩
  · exact W.zret B.exec B.bytes (B.returns.trans hty) hnar hq hH'.2.2.1.2.2 hd
  · exact W.lret B.exec B.bytes (B.returns.trans hty) hq hH'.2.2.1.2.2 hd
  · obtain ⟨-, -, ⟨adK, adV, -, hst, -⟩, -⟩ := hR
    have hk := (hst (q - 100) (by omega)).1
    rw [show 100 + (q - 100) = q by omega] at hk
    exact W.aret (v := cv q) B.exec B.bytes (B.returns.trans hty) (Or.inl ⟨t, rfl⟩) (Or.inr ⟨_, hk⟩) hq hH'.2.2.1.2.2 hd
  · exact W.vret B.exec B.bytes (B.returns.trans hty) hq hH'.2.2.1.2.2 hd
