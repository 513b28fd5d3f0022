/-! ===== the law's calls, one by one ===== -/
def z_ls (i : Nat) : List (Option Value) := [some (.ref 150), some (.ref 0), some (.ref 49), some (.int (nI i))]
def z_Q : fp_Q := fun r s _ => r = some (.int 1) ∧ s = fp_sh
theorem w_c.wb {A A' : fp_M} (h : w_c A A') : w_b A A' := fun k j q _ _ _ => h k j q
theorem w_g.wa {A A' : fp_M} (h : w_g A A') : w_a A A' := fun k j q _ _ _ => h k j q
theorem z_x1 {α : Type} {N m : fp_M} {c : Nat} {sp sg : α × fp_M} (R : w_Rc N N c) (S : w_St N N sp sg) (ha : w_a sp.2 m) (hc : w_c sp.2 m) : w_a sp.2 m ∧ w_Rc N m c := ⟨ha, R.cg (w_a.rf N) (S.2.2.1.tr hc).wb⟩
theorem z_x1e {α : Type} {N m : fp_M} {c : Nat} {sp sg : α × fp_M} (R : w_Rc N N c) (S : w_St N N sp sg) (e : m = sp.2) : w_a sp.2 m ∧ w_Rc N m c := z_x1 R S (by rw [e]; exact w_a.rf _) (by rw [e]; exact w_c.rf _)
theorem z_x1c {α : Type} {N m : fp_M} {c : Nat} {sp sg : α × fp_M} (R : w_Rc N N c) (S : w_St N N sp sg) (e : k_ech sp.2 m) : w_a sp.2 m ∧ w_Rc N m c := z_x1 R S e.wa e.wc
theorem z_x1g {α : Type} {N m : fp_M} {c : Nat} {sp sg : α × fp_M} (R : w_Rc N N c) (S : w_St N N sp sg) (e : k_eg sp.2 m) : w_a sp.2 m ∧ w_Rc N m c := z_x1 R S e.wa e.wc
theorem z_x2 {α : Type} {N m m2 : fp_M} {sp sg : α × fp_M} (S : w_St N m sp sg) (a : w_a sp.2 m) (hb : w_b sg.2 m2) (hg : w_g sg.2 m2) : sp.1 = sg.1 ∧ w_R m2 m2 := ⟨S.1, S.2.1.cg (a.tr (S.2.2.2.tr hg).wa) hb⟩
theorem z_x2e {α : Type} {N m m2 : fp_M} {sp sg : α × fp_M} (S : w_St N m sp sg) (a : w_a sp.2 m) (e : m2 = sg.2) : sp.1 = sg.1 ∧ w_R m2 m2 := z_x2 S a (by rw [e]; exact w_b.rf _) (by rw [e]; exact w_g.rf _)
theorem z_x2c {α : Type} {N m m2 : fp_M} {sp sg : α × fp_M} (S : w_St N m sp sg) (a : w_a sp.2 m) (e : g_e sg.2 m2) : sp.1 = sg.1 ∧ w_R m2 m2 := z_x2 S a e.wb e.wg
theorem z_x2x {α : Type} {N m m2 : fp_M} {sp sg : α × fp_M} (S : w_St N m sp sg) (a : w_a sp.2 m) (e : g_x sg.2 m2) : sp.1 = sg.1 ∧ w_R m2 m2 := z_x2 S a e.wb e.wg
theorem z_hz {A B : fp_M} {c : Nat} (R : w_Rc A B c) : ∀ k, k < 4 → ∃ z : Nat, z ≤ 40 ∧ A (41 + 2 * k) 1 = nI z := fun k hk => by
  obtain ⟨s, a1, a2, -⟩ := R.2.2.2.2.1 k hk
  exact ⟨s, a1, a2⟩
theorem z_gz {A B : fp_M} {c : Nat} (R : w_Rc A B c) : g_sz B := fun k hk => by
  obtain ⟨s, a1, -, a3, -⟩ := R.2.2.2.2.1 k hk
  exact ⟨s, a1, a3⟩
theorem z_sp {A B : fp_M} {c : Nat} (R : w_Rc A B c) : g_sp B := fun k hk => by
  have h8 := R.1.1
  rw [← R.1.2.2.2.2.2.2.2.2 k hk]
  rcases R.2.1.2.2 k hk with q | ⟨j, j1, j2⟩
  · exact Or.inl q
  · exact Or.inr ⟨j, by omega, j2⟩
theorem z_in {i L : Nat} (hi : i + 5 < L) (hL : L ≤ 3072) : ∀ k, k ≤ 5 → vp_in (nI i + nI k) L := fun k hk => by
  rw [nI_add]
  exact vp_in_nI (by omega) (by omega)
section ZV
variable {X : fp_X} {μ μz : fp_Y} {pc idx n : Nat} {ls : List (Option Value)} {st : List Value} {sh : List fp_C} {M M' : fp_M} {nc ns : Nat} {Post : fp_Q}
theorem z_V0 {v : Value} {k ci : Nat} {fs : List (Option (Option Nat))} {E : fp_M → Prop} (hd : decode μ.2.1 pc = .ok (.invokevirtual idx, 3)) (hl : Cond.methodLink μ.1.cls idx μz.1 ∈ fp_tbl) (hm : fp_mV μz 0) (hs : sh[k]? = some (.inl (ci, fs))) (hok : fp_Ok X μz [.ref k] sh M (fun r s m => r = some v ∧ s = sh ∧ E m)) (g : ∀ M', E M' → fp_W X μ (pc + 3) ls (v :: st) sh M' nc ns Post) (hcl : (vwCl[ci]?).map (fun q => q.1) = some μz.1.cls := by rfl) (hrm : fp_rm μ μz := by exact ⟨Nat.le_of_ble_eq_true rfl, Nat.le_of_ble_eq_true rfl⟩) (hst : (st.map fun v => v.category).sum ≤ 8 := by exact Nat.le_of_ble_eq_true rfl) (hz : fp_z0 μz := by exact ⟨rfl, rfl⟩) : fp_W X μ pc ls (.ref k :: st) sh M nc ns Post := by
  intro p l e s m args below meth c D cs cv base A Q H locs lsA hF hH hL hN hret
  refine fp_callV (av := []) hd hl hm hrm rfl hst (by rw [hz.1, hz.2]; exact hN) hs hcl hok (fun r' s' m' h => ?_) p l e s m args below meth c D cs cv base A Q H locs lsA hF hH hL hN hret
  obtain ⟨rfl, rfl, h3⟩ := h
  rw [hz.1, hz.2]
  exact g m' h3
theorem z_V1 {b0 v : Value} {k ci : Nat} {fs : List (Option (Option Nat))} {E : fp_M → Prop} (hd : decode μ.2.1 pc = .ok (.invokevirtual idx, 3)) (hl : Cond.methodLink μ.1.cls idx μz.1 ∈ fp_tbl) (hm : fp_mV μz 1) (hs : sh[k]? = some (.inl (ci, fs))) (hok : fp_Ok X μz [.ref k, b0] sh M (fun r s m => r = some v ∧ s = sh ∧ E m)) (g : ∀ M', E M' → fp_W X μ (pc + 3) ls (v :: st) sh M' nc ns Post) (hcl : (vwCl[ci]?).map (fun q => q.1) = some μz.1.cls := by rfl) (hrm : fp_rm μ μz := by exact ⟨Nat.le_of_ble_eq_true rfl, Nat.le_of_ble_eq_true rfl⟩) (hst : (st.map fun v => v.category).sum ≤ 8 := by exact Nat.le_of_ble_eq_true rfl) (hz : fp_z0 μz := by exact ⟨rfl, rfl⟩) : fp_W X μ pc ls (b0 :: .ref k :: st) sh M nc ns Post := by
  intro p l e s m args below meth c D cs cv base A Q H locs lsA hF hH hL hN hret
  refine fp_callV (av := [b0]) hd hl hm hrm rfl hst (by rw [hz.1, hz.2]; exact hN) hs hcl hok (fun r' s' m' h => ?_) p l e s m args below meth c D cs cv base A Q H locs lsA hF hH hL hN hret
  obtain ⟨rfl, rfl, h3⟩ := h
  rw [hz.1, hz.2]
  exact g m' h3
theorem z_V2 {b0 b1 v : Value} {k ci : Nat} {fs : List (Option (Option Nat))} {E : fp_M → Prop} (hd : decode μ.2.1 pc = .ok (.invokevirtual idx, 3)) (hl : Cond.methodLink μ.1.cls idx μz.1 ∈ fp_tbl) (hm : fp_mV μz 2) (hs : sh[k]? = some (.inl (ci, fs))) (hok : fp_Ok X μz [.ref k, b0, b1] sh M (fun r s m => r = some v ∧ s = sh ∧ E m)) (g : ∀ M', E M' → fp_W X μ (pc + 3) ls (v :: st) sh M' nc ns Post) (hcl : (vwCl[ci]?).map (fun q => q.1) = some μz.1.cls := by rfl) (hrm : fp_rm μ μz := by exact ⟨Nat.le_of_ble_eq_true rfl, Nat.le_of_ble_eq_true rfl⟩) (hst : (st.map fun v => v.category).sum ≤ 8 := by exact Nat.le_of_ble_eq_true rfl) (hz : fp_z0 μz := by exact ⟨rfl, rfl⟩) : fp_W X μ pc ls (b1 :: b0 :: .ref k :: st) sh M nc ns Post := by
  intro p l e s m args below meth c D cs cv base A Q H locs lsA hF hH hL hN hret
  refine fp_callV (av := [b0, b1]) hd hl hm hrm rfl hst (by rw [hz.1, hz.2]; exact hN) hs hcl hok (fun r' s' m' h => ?_) p l e s m args below meth c D cs cv base A Q H locs lsA hF hH hL hN hret
  obtain ⟨rfl, rfl, h3⟩ := h
  rw [hz.1, hz.2]
  exact g m' h3
theorem z_V3 {b0 b1 b2 v : Value} {k ci : Nat} {fs : List (Option (Option Nat))} {E : fp_M → Prop} (hd : decode μ.2.1 pc = .ok (.invokevirtual idx, 3)) (hl : Cond.methodLink μ.1.cls idx μz.1 ∈ fp_tbl) (hm : fp_mV μz 3) (hs : sh[k]? = some (.inl (ci, fs))) (hok : fp_Ok X μz [.ref k, b0, b1, b2] sh M (fun r s m => r = some v ∧ s = sh ∧ E m)) (g : ∀ M', E M' → fp_W X μ (pc + 3) ls (v :: st) sh M' nc ns Post) (hcl : (vwCl[ci]?).map (fun q => q.1) = some μz.1.cls := by rfl) (hrm : fp_rm μ μz := by exact ⟨Nat.le_of_ble_eq_true rfl, Nat.le_of_ble_eq_true rfl⟩) (hst : (st.map fun v => v.category).sum ≤ 8 := by exact Nat.le_of_ble_eq_true rfl) (hz : fp_z0 μz := by exact ⟨rfl, rfl⟩) : fp_W X μ pc ls (b2 :: b1 :: b0 :: .ref k :: st) sh M nc ns Post := by
  intro p l e s m args below meth c D cs cv base A Q H locs lsA hF hH hL hN hret
  refine fp_callV (av := [b0, b1, b2]) hd hl hm hrm rfl hst (by rw [hz.1, hz.2]; exact hN) hs hcl hok (fun r' s' m' h => ?_) p l e s m args below meth c D cs cv base A Q H locs lsA hF hH hL hN hret
  obtain ⟨rfl, rfl, h3⟩ := h
  rw [hz.1, hz.2]
  exact g m' h3
theorem z_V4 {b0 b1 b2 b3 v : Value} {k ci : Nat} {fs : List (Option (Option Nat))} {E : fp_M → Prop} (hd : decode μ.2.1 pc = .ok (.invokevirtual idx, 3)) (hl : Cond.methodLink μ.1.cls idx μz.1 ∈ fp_tbl) (hm : fp_mV μz 4) (hs : sh[k]? = some (.inl (ci, fs))) (hok : fp_Ok X μz [.ref k, b0, b1, b2, b3] sh M (fun r s m => r = some v ∧ s = sh ∧ E m)) (g : ∀ M', E M' → fp_W X μ (pc + 3) ls (v :: st) sh M' nc ns Post) (hcl : (vwCl[ci]?).map (fun q => q.1) = some μz.1.cls := by rfl) (hrm : fp_rm μ μz := by exact ⟨Nat.le_of_ble_eq_true rfl, Nat.le_of_ble_eq_true rfl⟩) (hst : (st.map fun v => v.category).sum ≤ 8 := by exact Nat.le_of_ble_eq_true rfl) (hz : fp_z0 μz := by exact ⟨rfl, rfl⟩) : fp_W X μ pc ls (b3 :: b2 :: b1 :: b0 :: .ref k :: st) sh M nc ns Post := by
  intro p l e s m args below meth c D cs cv base A Q H locs lsA hF hH hL hN hret
  refine fp_callV (av := [b0, b1, b2, b3]) hd hl hm hrm rfl hst (by rw [hz.1, hz.2]; exact hN) hs hcl hok (fun r' s' m' h => ?_) p l e s m args below meth c D cs cv base A Q H locs lsA hF hH hL hN hret
  obtain ⟨rfl, rfl, h3⟩ := h
  rw [hz.1, hz.2]
  exact g m' h3
theorem z_V5 {b0 b1 b2 b3 b4 v : Value} {k ci : Nat} {fs : List (Option (Option Nat))} {E : fp_M → Prop} (hd : decode μ.2.1 pc = .ok (.invokevirtual idx, 3)) (hl : Cond.methodLink μ.1.cls idx μz.1 ∈ fp_tbl) (hm : fp_mV μz 5) (hs : sh[k]? = some (.inl (ci, fs))) (hok : fp_Ok X μz [.ref k, b0, b1, b2, b3, b4] sh M (fun r s m => r = some v ∧ s = sh ∧ E m)) (g : ∀ M', E M' → fp_W X μ (pc + 3) ls (v :: st) sh M' nc ns Post) (hcl : (vwCl[ci]?).map (fun q => q.1) = some μz.1.cls := by rfl) (hrm : fp_rm μ μz := by exact ⟨Nat.le_of_ble_eq_true rfl, Nat.le_of_ble_eq_true rfl⟩) (hst : (st.map fun v => v.category).sum ≤ 8 := by exact Nat.le_of_ble_eq_true rfl) (hz : fp_z0 μz := by exact ⟨rfl, rfl⟩) : fp_W X μ pc ls (b4 :: b3 :: b2 :: b1 :: b0 :: .ref k :: st) sh M nc ns Post := by
  intro p l e s m args below meth c D cs cv base A Q H locs lsA hF hH hL hN hret
  refine fp_callV (av := [b0, b1, b2, b3, b4]) hd hl hm hrm rfl hst (by rw [hz.1, hz.2]; exact hN) hs hcl hok (fun r' s' m' h => ?_) p l e s m args below meth c D cs cv base A Q H locs lsA hF hH hL hN hret
  obtain ⟨rfl, rfl, h3⟩ := h
  rw [hz.1, hz.2]
  exact g m' h3
end ZV
theorem z_letter {X : fp_X} {N : fp_M} {c i nc ns : Nat} (R : w_Rc N N c) (hL : X.1 ≤ 3072) (hi : i + 5 < X.1) (K : ∀ N', w_R N' N' → fp_W X mL_law 1401 (z_ls i) [] fp_sh N' nc ns z_Q) : fp_W X mL_law 232 (z_ls i) [] fp_sh N nc ns z_Q := by
  refine r_aloadn dL_law_232 rfl (by decide) ?_
  refine r_aloadn dL_law_233 rfl (by decide) ?_
  refine r_iloadn dL_law_234 rfl ?_
  refine r_ic (1) dL_law_235 ?_
  refine r_iadd dL_law_236 ?_
  refine r_sld dL_law_237 (z_in hi hL 1 (by decide)) ?_
  refine r_aloadn dL_law_238 rfl (by decide) ?_
  refine r_iloadn dL_law_239 rfl ?_
  refine r_ic (2) dL_law_240 ?_
  refine r_iadd dL_law_241 ?_
  refine r_sld dL_law_242 (z_in hi hL 2 (by decide)) ?_
  refine r_aloadn dL_law_243 rfl (by decide) ?_
  refine r_iloadn dL_law_244 rfl ?_
  refine r_ic (3) dL_law_245 ?_
  refine r_iadd dL_law_246 ?_
  refine r_sld dL_law_247 (z_in hi hL 3 (by decide)) ?_
  refine r_aloadn dL_law_248 rfl (by decide) ?_
  refine r_iloadn dL_law_249 rfl ?_
  refine r_ic (4) dL_law_250 ?_
  refine r_iadd dL_law_251 ?_
  refine r_sld dL_law_252 (z_in hi hL 4 (by decide)) ?_
  refine r_aloadn dL_law_253 rfl (by decide) ?_
  refine r_iloadn dL_law_254 rfl ?_
  refine r_ic (5) dL_law_255 ?_
  refine r_iadd dL_law_256 ?_
  refine r_sld dL_law_257 (z_in hi hL 5 (by decide)) ?_
  refine z_V5 (μz := mX5_letter) dL_law_258 kl_RL_13 mv_X5_letter rfl (ok_X5_letter (w_kwf R.1 R.2.1)) (fun m1 e1 => ?_)
  obtain ⟨a1, R1⟩ := z_x1e R (w_letter R) e1
  refine r_aloadn dL_law_261 rfl (by decide) ?_
  refine r_aloadn dL_law_262 rfl (by decide) ?_
  refine r_iloadn dL_law_263 rfl ?_
  refine r_ic (1) dL_law_264 ?_
  refine r_iadd dL_law_265 ?_
  refine r_sld dL_law_266 (z_in hi hL 1 (by decide)) ?_
  refine r_aloadn dL_law_267 rfl (by decide) ?_
  refine r_iloadn dL_law_268 rfl ?_
  refine r_ic (2) dL_law_269 ?_
  refine r_iadd dL_law_270 ?_
  refine r_sld dL_law_271 (z_in hi hL 2 (by decide)) ?_
  refine r_aloadn dL_law_272 rfl (by decide) ?_
  refine r_iloadn dL_law_273 rfl ?_
  refine r_ic (3) dL_law_274 ?_
  refine r_iadd dL_law_275 ?_
  refine r_sld dL_law_276 (z_in hi hL 3 (by decide)) ?_
  refine r_aloadn dL_law_277 rfl (by decide) ?_
  refine r_iloadn dL_law_278 rfl ?_
  refine r_ic (4) dL_law_279 ?_
  refine r_iadd dL_law_280 ?_
  refine r_sld dL_law_281 (z_in hi hL 4 (by decide)) ?_
  refine r_aloadn dL_law_282 rfl (by decide) ?_
  refine r_iloadn dL_law_283 rfl ?_
  refine r_ic (5) dL_law_284 ?_
  refine r_iadd dL_law_285 ?_
  refine r_sld dL_law_286 (z_in hi hL 5 (by decide)) ?_
  refine z_V5 (μz := mX6_letter) dL_law_287 kl_RL_17 mv_X6_letter rfl (ok_X6_letter (w_gwf R1.1 R1.2.1)) (fun m2 e2 => ?_)
  obtain ⟨ev, R2⟩ := z_x2e (w_letter R1) a1 e2
  refine r_icmp_eq 1401 dL_law_290 (fun h290 => ?_) (fun h290 => ?_)
  · exact K m2 R2
  · exact absurd ev h290
theorem z_of {X : fp_X} {N : fp_M} {c i nc ns : Nat} (R : w_Rc N N c) (hL : X.1 ≤ 3072) (hi : i + 5 < X.1) (K : ∀ N', w_R N' N' → fp_W X mL_law 1401 (z_ls i) [] fp_sh N' nc ns z_Q) : fp_W X mL_law 295 (z_ls i) [] fp_sh N nc ns z_Q := by
  refine r_aloadn dL_law_295 rfl (by decide) ?_
  refine r_aloadn dL_law_296 rfl (by decide) ?_
  refine r_iloadn dL_law_297 rfl ?_
  refine r_ic (1) dL_law_298 ?_
  refine r_iadd dL_law_299 ?_
  refine r_sld dL_law_300 (z_in hi hL 1 (by decide)) ?_
  refine r_aloadn dL_law_301 rfl (by decide) ?_
  refine r_iloadn dL_law_302 rfl ?_
  refine r_ic (2) dL_law_303 ?_
  refine r_iadd dL_law_304 ?_
  refine r_sld dL_law_305 (z_in hi hL 2 (by decide)) ?_
  refine z_V2 (μz := mX5_of) dL_law_306 kl_RL_18 mv_X5_of rfl (ok_X5_of (w_kwf R.1 R.2.1)) (fun m1 e1 => ?_)
  obtain ⟨a1, R1⟩ := z_x1e R (w_of R) e1
  refine r_aloadn dL_law_309 rfl (by decide) ?_
  refine r_aloadn dL_law_310 rfl (by decide) ?_
  refine r_iloadn dL_law_311 rfl ?_
  refine r_ic (1) dL_law_312 ?_
  refine r_iadd dL_law_313 ?_
  refine r_sld dL_law_314 (z_in hi hL 1 (by decide)) ?_
  refine r_aloadn dL_law_315 rfl (by decide) ?_
  refine r_iloadn dL_law_316 rfl ?_
  refine r_ic (2) dL_law_317 ?_
  refine r_iadd dL_law_318 ?_
  refine r_sld dL_law_319 (z_in hi hL 2 (by decide)) ?_
  refine z_V2 (μz := mX6_of) dL_law_320 kl_RL_22 mv_X6_of rfl (ok_X6_of (w_gwf R1.1 R1.2.1)) (fun m2 e2 => ?_)
  obtain ⟨ev, R2⟩ := z_x2e (w_of R1) a1 e2
  refine r_icmp_eq 1401 dL_law_323 (fun h323 => ?_) (fun h323 => ?_)
  · exact K m2 R2
  · exact absurd ev h323
theorem z_change {X : fp_X} {N : fp_M} {c i nc ns : Nat} (R : w_Rc N N c) (hL : X.1 ≤ 3072) (hi : i + 5 < X.1) (K : ∀ N', w_R N' N' → fp_W X mL_law 1401 (z_ls i) [] fp_sh N' nc ns z_Q) : fp_W X mL_law 328 (z_ls i) [] fp_sh N nc ns z_Q := by
  refine r_aloadn dL_law_328 rfl (by decide) ?_
  refine r_aloadn dL_law_329 rfl (by decide) ?_
  refine r_iloadn dL_law_330 rfl ?_
  refine r_ic (1) dL_law_331 ?_
  refine r_iadd dL_law_332 ?_
  refine r_sld dL_law_333 (z_in hi hL 1 (by decide)) ?_
  refine r_aloadn dL_law_334 rfl (by decide) ?_
  refine r_iloadn dL_law_335 rfl ?_
  refine r_ic (2) dL_law_336 ?_
  refine r_iadd dL_law_337 ?_
  refine r_sld dL_law_338 (z_in hi hL 2 (by decide)) ?_
  refine r_aloadn dL_law_339 rfl (by decide) ?_
  refine r_iloadn dL_law_340 rfl ?_
  refine r_ic (3) dL_law_341 ?_
  refine r_iadd dL_law_342 ?_
  refine r_sld dL_law_343 (z_in hi hL 3 (by decide)) ?_
  refine z_V3 (μz := mX5_change) dL_law_344 kl_RL_23 mv_X5_change rfl (ok_X5_change (w_kwf R.1 R.2.1)) (fun m1 e1 => ?_)
  obtain ⟨a1, R1⟩ := z_x1e R (w_change R) e1
  refine r_aloadn dL_law_347 rfl (by decide) ?_
  refine r_aloadn dL_law_348 rfl (by decide) ?_
  refine r_iloadn dL_law_349 rfl ?_
  refine r_ic (1) dL_law_350 ?_
  refine r_iadd dL_law_351 ?_
  refine r_sld dL_law_352 (z_in hi hL 1 (by decide)) ?_
  refine r_aloadn dL_law_353 rfl (by decide) ?_
  refine r_iloadn dL_law_354 rfl ?_
  refine r_ic (2) dL_law_355 ?_
  refine r_iadd dL_law_356 ?_
  refine r_sld dL_law_357 (z_in hi hL 2 (by decide)) ?_
  refine r_aloadn dL_law_358 rfl (by decide) ?_
  refine r_iloadn dL_law_359 rfl ?_
  refine r_ic (3) dL_law_360 ?_
  refine r_iadd dL_law_361 ?_
  refine r_sld dL_law_362 (z_in hi hL 3 (by decide)) ?_
  refine z_V3 (μz := mX6_change) dL_law_363 kl_RL_27 mv_X6_change rfl (ok_X6_change (w_gwf R1.1 R1.2.1)) (fun m2 e2 => ?_)
  obtain ⟨ev, R2⟩ := z_x2e (w_change R1) a1 e2
  refine r_icmp_eq 1401 dL_law_366 (fun h366 => ?_) (fun h366 => ?_)
  · exact K m2 R2
  · exact absurd ev h366
theorem z_law {X : fp_X} {N : fp_M} {c i nc ns : Nat} (R : w_Rc N N c) (hL : X.1 ≤ 3072) (hi : i + 5 < X.1) (K : ∀ N', w_R N' N' → fp_W X mL_law 1401 (z_ls i) [] fp_sh N' nc ns z_Q) : fp_W X mL_law 371 (z_ls i) [] fp_sh N nc ns z_Q := by
  refine r_aloadn dL_law_371 rfl (by decide) ?_
  refine r_aloadn dL_law_372 rfl (by decide) ?_
  refine r_iloadn dL_law_373 rfl ?_
  refine r_ic (1) dL_law_374 ?_
  refine r_iadd dL_law_375 ?_
  refine r_sld dL_law_376 (z_in hi hL 1 (by decide)) ?_
  refine r_aloadn dL_law_377 rfl (by decide) ?_
  refine r_iloadn dL_law_378 rfl ?_
  refine r_ic (2) dL_law_379 ?_
  refine r_iadd dL_law_380 ?_
  refine r_sld dL_law_381 (z_in hi hL 2 (by decide)) ?_
  refine z_V2 (μz := mX5_law) dL_law_382 kl_RL_28 mv_X5_law rfl ok_X5_law (fun m1 e1 => ?_)
  obtain ⟨a1, R1⟩ := z_x1e R (w_law R) e1
  refine r_aloadn dL_law_385 rfl (by decide) ?_
  refine r_aloadn dL_law_386 rfl (by decide) ?_
  refine r_iloadn dL_law_387 rfl ?_
  refine r_ic (1) dL_law_388 ?_
  refine r_iadd dL_law_389 ?_
  refine r_sld dL_law_390 (z_in hi hL 1 (by decide)) ?_
  refine r_aloadn dL_law_391 rfl (by decide) ?_
  refine r_iloadn dL_law_392 rfl ?_
  refine r_ic (2) dL_law_393 ?_
  refine r_iadd dL_law_394 ?_
  refine r_sld dL_law_395 (z_in hi hL 2 (by decide)) ?_
  refine z_V2 (μz := mX6_law) dL_law_396 kl_RL_31 mv_X6_law rfl ok_X6_law (fun m2 e2 => ?_)
  obtain ⟨ev, R2⟩ := z_x2e (w_law R1) a1 e2
  refine r_icmp_eq 1401 dL_law_399 (fun h399 => ?_) (fun h399 => ?_)
  · exact K m2 R2
  · exact absurd ev h399
theorem z_go {X : fp_X} {N : fp_M} {c i nc ns : Nat} (R : w_Rc N N c) (hL : X.1 ≤ 3072) (hi : i + 5 < X.1) (K : ∀ N', w_R N' N' → fp_W X mL_law 1401 (z_ls i) [] fp_sh N' nc ns z_Q) : fp_W X mL_law 404 (z_ls i) [] fp_sh N nc ns z_Q := by
  refine r_aloadn dL_law_404 rfl (by decide) ?_
  refine r_aloadn dL_law_405 rfl (by decide) ?_
  refine r_iloadn dL_law_406 rfl ?_
  refine r_ic (1) dL_law_407 ?_
  refine r_iadd dL_law_408 ?_
  refine r_sld dL_law_409 (z_in hi hL 1 (by decide)) ?_
  refine z_V1 (μz := mX5_go) dL_law_410 kl_RL_32 mv_X5_go rfl (ok_X5_go (w_kwf R.1 R.2.1)) (fun m1 e1 => ?_)
  obtain ⟨a1, R1⟩ := z_x1e R (w_go R) e1
  refine r_aloadn dL_law_413 rfl (by decide) ?_
  refine r_aloadn dL_law_414 rfl (by decide) ?_
  refine r_iloadn dL_law_415 rfl ?_
  refine r_ic (1) dL_law_416 ?_
  refine r_iadd dL_law_417 ?_
  refine r_sld dL_law_418 (z_in hi hL 1 (by decide)) ?_
  refine z_V1 (μz := mX6_go) dL_law_419 kl_RL_36 mv_X6_go rfl (ok_X6_go (w_gwf R1.1 R1.2.1)) (fun m2 e2 => ?_)
  obtain ⟨ev, R2⟩ := z_x2e (w_go R1) a1 e2
  refine r_icmp_eq 1401 dL_law_422 (fun h422 => ?_) (fun h422 => ?_)
  · exact K m2 R2
  · exact absurd ev h422
theorem z_now {X : fp_X} {N : fp_M} {c i nc ns : Nat} (R : w_Rc N N c) (hL : X.1 ≤ 3072) (hi : i + 5 < X.1) (K : ∀ N', w_R N' N' → fp_W X mL_law 1401 (z_ls i) [] fp_sh N' nc ns z_Q) : fp_W X mL_law 427 (z_ls i) [] fp_sh N nc ns z_Q := by
  refine r_aloadn dL_law_427 rfl (by decide) ?_
  refine r_aloadn dL_law_428 rfl (by decide) ?_
  refine r_iloadn dL_law_429 rfl ?_
  refine r_ic (1) dL_law_430 ?_
  refine r_iadd dL_law_431 ?_
  refine r_sld dL_law_432 (z_in hi hL 1 (by decide)) ?_
  refine z_V1 (μz := mX5_now) dL_law_433 kl_RL_37 mv_X5_now rfl (ok_X5_now (w_kwf R.1 R.2.1)) (fun m1 e1 => ?_)
  obtain ⟨a1, R1⟩ := z_x1e R (w_now R) e1
  refine r_aloadn dL_law_436 rfl (by decide) ?_
  refine r_aloadn dL_law_437 rfl (by decide) ?_
  refine r_iloadn dL_law_438 rfl ?_
  refine r_ic (1) dL_law_439 ?_
  refine r_iadd dL_law_440 ?_
  refine r_sld dL_law_441 (z_in hi hL 1 (by decide)) ?_
  refine z_V1 (μz := mX6_now) dL_law_442 kl_RL_40 mv_X6_now rfl (ok_X6_now (w_gwf R1.1 R1.2.1)) (fun m2 e2 => ?_)
  obtain ⟨ev, R2⟩ := z_x2e (w_now R1) a1 e2
  refine r_icmp_eq 1401 dL_law_445 (fun h445 => ?_) (fun h445 => ?_)
  · exact K m2 R2
  · exact absurd ev h445
theorem z_fits {X : fp_X} {N : fp_M} {c i nc ns : Nat} (R : w_Rc N N c) (hL : X.1 ≤ 3072) (hi : i + 5 < X.1) (K : ∀ N', w_R N' N' → fp_W X mL_law 1401 (z_ls i) [] fp_sh N' nc ns z_Q) : fp_W X mL_law 450 (z_ls i) [] fp_sh N nc ns z_Q := by
  refine r_aloadn dL_law_450 rfl (by decide) ?_
  refine z_V0 (μz := mX5_fits) dL_law_451 kl_RL_41 mv_X5_fits rfl (ok_X5_fits (w_kwf R.1 R.2.1)) (fun m1 e1 => ?_)
  obtain ⟨a1, R1⟩ := z_x1e R (w_fits R) e1
  refine r_aloadn dL_law_454 rfl (by decide) ?_
  refine z_V0 (μz := mX6_fits) dL_law_455 kl_RL_45 mv_X6_fits rfl (ok_X6_fits (w_gwf R1.1 R1.2.1)) (fun m2 e2 => ?_)
  obtain ⟨ev, R2⟩ := z_x2e (w_fits R1) a1 e2
  refine r_icmp_eq 1401 dL_law_458 (fun h458 => ?_) (fun h458 => ?_)
  · exact K m2 R2
  · exact absurd ev h458
theorem z_span {X : fp_X} {N : fp_M} {c i nc ns : Nat} (R : w_Rc N N c) (hL : X.1 ≤ 3072) (hi : i + 5 < X.1) (K : ∀ N', w_R N' N' → fp_W X mL_law 1401 (z_ls i) [] fp_sh N' nc ns z_Q) : fp_W X mL_law 463 (z_ls i) [] fp_sh N nc ns z_Q := by
  refine r_aloadn dL_law_463 rfl (by decide) ?_
  refine r_aloadn dL_law_464 rfl (by decide) ?_
  refine r_iloadn dL_law_465 rfl ?_
  refine r_ic (1) dL_law_466 ?_
  refine r_iadd dL_law_467 ?_
  refine r_sld dL_law_468 (z_in hi hL 1 (by decide)) ?_
  refine r_aloadn dL_law_469 rfl (by decide) ?_
  refine r_iloadn dL_law_470 rfl ?_
  refine r_ic (2) dL_law_471 ?_
  refine r_iadd dL_law_472 ?_
  refine r_sld dL_law_473 (z_in hi hL 2 (by decide)) ?_
  refine r_aloadn dL_law_474 rfl (by decide) ?_
  refine r_iloadn dL_law_475 rfl ?_
  refine r_ic (3) dL_law_476 ?_
  refine r_iadd dL_law_477 ?_
  refine r_sld dL_law_478 (z_in hi hL 3 (by decide)) ?_
  refine z_V3 (μz := mX5_span) dL_law_479 kl_RL_46 mv_X5_span rfl (ok_X5_span (w_kwf R.1 R.2.1)) (fun m1 e1 => ?_)
  obtain ⟨a1, R1⟩ := z_x1e R (w_span R) e1
  refine r_aloadn dL_law_482 rfl (by decide) ?_
  refine r_aloadn dL_law_483 rfl (by decide) ?_
  refine r_iloadn dL_law_484 rfl ?_
  refine r_ic (1) dL_law_485 ?_
  refine r_iadd dL_law_486 ?_
  refine r_sld dL_law_487 (z_in hi hL 1 (by decide)) ?_
  refine r_aloadn dL_law_488 rfl (by decide) ?_
  refine r_iloadn dL_law_489 rfl ?_
  refine r_ic (2) dL_law_490 ?_
  refine r_iadd dL_law_491 ?_
  refine r_sld dL_law_492 (z_in hi hL 2 (by decide)) ?_
  refine r_aloadn dL_law_493 rfl (by decide) ?_
  refine r_iloadn dL_law_494 rfl ?_
  refine r_ic (3) dL_law_495 ?_
  refine r_iadd dL_law_496 ?_
  refine r_sld dL_law_497 (z_in hi hL 3 (by decide)) ?_
  refine z_V3 (μz := mX6_span) dL_law_498 kl_RL_49 mv_X6_span rfl (ok_X6_span (w_gwf R1.1 R1.2.1)) (fun m2 e2 => ?_)
  obtain ⟨ev, R2⟩ := z_x2e (w_span R1) a1 e2
  refine r_icmp_eq 1401 dL_law_501 (fun h501 => ?_) (fun h501 => ?_)
  · exact K m2 R2
  · exact absurd ev h501
theorem z_sure {X : fp_X} {N : fp_M} {c i nc ns : Nat} (R : w_Rc N N c) (hL : X.1 ≤ 3072) (hi : i + 5 < X.1) (K : ∀ N', w_R N' N' → fp_W X mL_law 1401 (z_ls i) [] fp_sh N' nc ns z_Q) : fp_W X mL_law 506 (z_ls i) [] fp_sh N nc ns z_Q := by
  refine r_aloadn dL_law_506 rfl (by decide) ?_
  refine r_aloadn dL_law_507 rfl (by decide) ?_
  refine r_iloadn dL_law_508 rfl ?_
  refine r_ic (1) dL_law_509 ?_
  refine r_iadd dL_law_510 ?_
  refine r_sld dL_law_511 (z_in hi hL 1 (by decide)) ?_
  refine z_V1 (μz := mX5_sure) dL_law_512 kl_RL_50 mv_X5_sure rfl (ok_X5_sure (w_kwf R.1 R.2.1)) (fun m1 e1 => ?_)
  obtain ⟨a1, R1⟩ := z_x1e R (w_sure R) e1
  refine r_aloadn dL_law_515 rfl (by decide) ?_
  refine r_aloadn dL_law_516 rfl (by decide) ?_
  refine r_iloadn dL_law_517 rfl ?_
  refine r_ic (1) dL_law_518 ?_
  refine r_iadd dL_law_519 ?_
  refine r_sld dL_law_520 (z_in hi hL 1 (by decide)) ?_
  refine z_V1 (μz := mX6_sure) dL_law_521 kl_RL_53 mv_X6_sure rfl (ok_X6_sure (w_gwf R1.1 R1.2.1)) (fun m2 e2 => ?_)
  obtain ⟨ev, R2⟩ := z_x2e (w_sure R1) a1 e2
  refine r_icmp_eq 1401 dL_law_524 (fun h524 => ?_) (fun h524 => ?_)
  · exact K m2 R2
  · exact absurd ev h524
theorem z_below {X : fp_X} {N : fp_M} {c i nc ns : Nat} (R : w_Rc N N c) (hL : X.1 ≤ 3072) (hi : i + 5 < X.1) (K : ∀ N', w_R N' N' → fp_W X mL_law 1401 (z_ls i) [] fp_sh N' nc ns z_Q) : fp_W X mL_law 529 (z_ls i) [] fp_sh N nc ns z_Q := by
  refine r_aloadn dL_law_529 rfl (by decide) ?_
  refine r_aloadn dL_law_530 rfl (by decide) ?_
  refine r_iloadn dL_law_531 rfl ?_
  refine r_ic (1) dL_law_532 ?_
  refine r_iadd dL_law_533 ?_
  refine r_sld dL_law_534 (z_in hi hL 1 (by decide)) ?_
  refine z_V1 (μz := mX5_below) dL_law_535 kl_RL_54 mv_X5_below rfl (ok_X5_below (w_kwf R.1 R.2.1)) (fun m1 e1 => ?_)
  obtain ⟨a1, R1⟩ := z_x1e R (w_below R) e1
  refine r_aloadn dL_law_538 rfl (by decide) ?_
  refine r_aloadn dL_law_539 rfl (by decide) ?_
  refine r_iloadn dL_law_540 rfl ?_
  refine r_ic (1) dL_law_541 ?_
  refine r_iadd dL_law_542 ?_
  refine r_sld dL_law_543 (z_in hi hL 1 (by decide)) ?_
  refine z_V1 (μz := mX6_below) dL_law_544 kl_RL_57 mv_X6_below rfl (ok_X6_below (w_gwf R1.1 R1.2.1)) (fun m2 e2 => ?_)
  obtain ⟨ev, R2⟩ := z_x2e (w_below R1) a1 e2
  refine r_icmp_eq 1401 dL_law_547 (fun h547 => ?_) (fun h547 => ?_)
  · exact K m2 R2
  · exact absurd ev h547
theorem z_widest {X : fp_X} {N : fp_M} {c i nc ns : Nat} (R : w_Rc N N c) (hL : X.1 ≤ 3072) (hi : i + 5 < X.1) (K : ∀ N', w_R N' N' → fp_W X mL_law 1401 (z_ls i) [] fp_sh N' nc ns z_Q) : fp_W X mL_law 552 (z_ls i) [] fp_sh N nc ns z_Q := by
  refine r_aloadn dL_law_552 rfl (by decide) ?_
  refine z_V0 (μz := mX5_widest) dL_law_553 kl_RL_58 mv_X5_widest rfl (ok_X5_widest (w_kwf R.1 R.2.1)) (fun m1 e1 => ?_)
  obtain ⟨a1, R1⟩ := z_x1e R (w_widest R) e1
  refine r_aloadn dL_law_556 rfl (by decide) ?_
  refine z_V0 (μz := mX6_widest) dL_law_557 kl_RL_61 mv_X6_widest rfl (ok_X6_widest (w_gwf R1.1 R1.2.1)) (fun m2 e2 => ?_)
  obtain ⟨ev, R2⟩ := z_x2e (w_widest R1) a1 e2
  refine r_icmp_eq 1401 dL_law_560 (fun h560 => ?_) (fun h560 => ?_)
  · exact K m2 R2
  · exact absurd ev h560
theorem z_unknown {X : fp_X} {N : fp_M} {c i nc ns : Nat} (R : w_Rc N N c) (hL : X.1 ≤ 3072) (hi : i + 5 < X.1) (K : ∀ N', w_R N' N' → fp_W X mL_law 1401 (z_ls i) [] fp_sh N' nc ns z_Q) : fp_W X mL_law 565 (z_ls i) [] fp_sh N nc ns z_Q := by
  refine r_aloadn dL_law_565 rfl (by decide) ?_
  refine z_V0 (μz := mX5_unknown) dL_law_566 kl_RL_62 mv_X5_unknown rfl (ok_X5_unknown (w_kwf R.1 R.2.1)) (fun m1 e1 => ?_)
  obtain ⟨a1, R1⟩ := z_x1e R (w_unknown R) e1
  refine r_aloadn dL_law_569 rfl (by decide) ?_
  refine z_V0 (μz := mX6_unknown) dL_law_570 kl_RL_65 mv_X6_unknown rfl (ok_X6_unknown (w_gwf R1.1 R1.2.1)) (fun m2 e2 => ?_)
  obtain ⟨ev, R2⟩ := z_x2e (w_unknown R1) a1 e2
  refine r_icmp_eq 1401 dL_law_573 (fun h573 => ?_) (fun h573 => ?_)
  · exact K m2 R2
  · exact absurd ev h573
theorem z_can {X : fp_X} {N : fp_M} {c i nc ns : Nat} (R : w_Rc N N c) (hL : X.1 ≤ 3072) (hi : i + 5 < X.1) (K : ∀ N', w_R N' N' → fp_W X mL_law 1401 (z_ls i) [] fp_sh N' nc ns z_Q) : fp_W X mL_law 578 (z_ls i) [] fp_sh N nc ns z_Q := by
  refine r_aloadn dL_law_578 rfl (by decide) ?_
  refine r_aloadn dL_law_579 rfl (by decide) ?_
  refine r_iloadn dL_law_580 rfl ?_
  refine r_ic (1) dL_law_581 ?_
  refine r_iadd dL_law_582 ?_
  refine r_sld dL_law_583 (z_in hi hL 1 (by decide)) ?_
  refine r_aloadn dL_law_584 rfl (by decide) ?_
  refine r_iloadn dL_law_585 rfl ?_
  refine r_ic (2) dL_law_586 ?_
  refine r_iadd dL_law_587 ?_
  refine r_sld dL_law_588 (z_in hi hL 2 (by decide)) ?_
  refine r_aloadn dL_law_589 rfl (by decide) ?_
  refine r_iloadn dL_law_590 rfl ?_
  refine r_ic (3) dL_law_591 ?_
  refine r_iadd dL_law_592 ?_
  refine r_sld dL_law_593 (z_in hi hL 3 (by decide)) ?_
  refine z_V3 (μz := mX5_can) dL_law_594 kl_RL_66 mv_X5_can rfl (ok_X5_can (w_kwf R.1 R.2.1)) (fun m1 e1 => ?_)
  obtain ⟨a1, R1⟩ := z_x1e R (w_canC R) e1
  refine r_aloadn dL_law_597 rfl (by decide) ?_
  refine r_aloadn dL_law_598 rfl (by decide) ?_
  refine r_iloadn dL_law_599 rfl ?_
  refine r_ic (1) dL_law_600 ?_
  refine r_iadd dL_law_601 ?_
  refine r_sld dL_law_602 (z_in hi hL 1 (by decide)) ?_
  refine r_aloadn dL_law_603 rfl (by decide) ?_
  refine r_iloadn dL_law_604 rfl ?_
  refine r_ic (2) dL_law_605 ?_
  refine r_iadd dL_law_606 ?_
  refine r_sld dL_law_607 (z_in hi hL 2 (by decide)) ?_
  refine r_aloadn dL_law_608 rfl (by decide) ?_
  refine r_iloadn dL_law_609 rfl ?_
  refine r_ic (3) dL_law_610 ?_
  refine r_iadd dL_law_611 ?_
  refine r_sld dL_law_612 (z_in hi hL 3 (by decide)) ?_
  refine z_V3 (μz := mX6_can) dL_law_613 kl_RL_69 mv_X6_can rfl (ok_X6_can (w_gwf R1.1 R1.2.1)) (fun m2 e2 => ?_)
  obtain ⟨ev, R2⟩ := z_x2e (w_canC R1) a1 e2
  refine r_icmp_eq 1401 dL_law_616 (fun h616 => ?_) (fun h616 => ?_)
  · exact K m2 R2
  · exact absurd ev h616
theorem z_when {X : fp_X} {N : fp_M} {c i nc ns : Nat} (R : w_Rc N N c) (hL : X.1 ≤ 3072) (hi : i + 5 < X.1) (K : ∀ N', w_R N' N' → fp_W X mL_law 1401 (z_ls i) [] fp_sh N' nc ns z_Q) : fp_W X mL_law 621 (z_ls i) [] fp_sh N nc ns z_Q := by
  refine r_aloadn dL_law_621 rfl (by decide) ?_
  refine z_V0 (μz := mX5_when) dL_law_622 kl_RL_70 mv_X5_when rfl (ok_X5_when (w_kwf R.1 R.2.1)) (fun m1 e1 => ?_)
  obtain ⟨a1, R1⟩ := z_x1c R (w_when R) e1
  refine r_aloadn dL_law_625 rfl (by decide) ?_
  refine z_V0 (μz := mX6_when) dL_law_626 kl_RL_73 mv_X6_when rfl (ok_X6_when (w_gwf R1.1 R1.2.1)) (fun m2 e2 => ?_)
  obtain ⟨ev, R2⟩ := z_x2c (w_when R1) a1 e2
  refine r_icmp_eq 1401 dL_law_629 (fun h629 => ?_) (fun h629 => ?_)
  · exact K m2 R2
  · exact absurd ev h629
theorem z_ahead {X : fp_X} {N : fp_M} {c i nc ns : Nat} (R : w_Rc N N c) (hL : X.1 ≤ 3072) (hi : i + 5 < X.1) (K : ∀ N', w_R N' N' → fp_W X mL_law 1401 (z_ls i) [] fp_sh N' nc ns z_Q) : fp_W X mL_law 634 (z_ls i) [] fp_sh N nc ns z_Q := by
  refine r_aloadn dL_law_634 rfl (by decide) ?_
  refine r_aloadn dL_law_635 rfl (by decide) ?_
  refine r_iloadn dL_law_636 rfl ?_
  refine r_ic (1) dL_law_637 ?_
  refine r_iadd dL_law_638 ?_
  refine r_sld dL_law_639 (z_in hi hL 1 (by decide)) ?_
  refine z_V1 (μz := mX5_ahead) dL_law_640 kl_RL_74 mv_X5_ahead rfl (ok_X5_ahead (w_kwf R.1 R.2.1)) (fun m1 e1 => ?_)
  obtain ⟨a1, R1⟩ := z_x1e R (w_ahead R) e1
  refine r_aloadn dL_law_643 rfl (by decide) ?_
  refine r_aloadn dL_law_644 rfl (by decide) ?_
  refine r_iloadn dL_law_645 rfl ?_
  refine r_ic (1) dL_law_646 ?_
  refine r_iadd dL_law_647 ?_
  refine r_sld dL_law_648 (z_in hi hL 1 (by decide)) ?_
  refine z_V1 (μz := mX6_ahead) dL_law_649 kl_RL_77 mv_X6_ahead rfl (ok_X6_ahead (w_gwf R1.1 R1.2.1)) (fun m2 e2 => ?_)
  obtain ⟨ev, R2⟩ := z_x2e (w_ahead R1) a1 e2
  refine r_icmp_eq 1401 dL_law_652 (fun h652 => ?_) (fun h652 => ?_)
  · exact K m2 R2
  · exact absurd ev h652
theorem z_known {X : fp_X} {N : fp_M} {c i nc ns : Nat} (R : w_Rc N N c) (hL : X.1 ≤ 3072) (hi : i + 5 < X.1) (K : ∀ N', w_R N' N' → fp_W X mL_law 1401 (z_ls i) [] fp_sh N' nc ns z_Q) : fp_W X mL_law 657 (z_ls i) [] fp_sh N nc ns z_Q := by
  refine r_aloadn dL_law_657 rfl (by decide) ?_
  refine r_aloadn dL_law_658 rfl (by decide) ?_
  refine r_iloadn dL_law_659 rfl ?_
  refine r_ic (1) dL_law_660 ?_
  refine r_iadd dL_law_661 ?_
  refine r_sld dL_law_662 (z_in hi hL 1 (by decide)) ?_
  refine r_aloadn dL_law_663 rfl (by decide) ?_
  refine r_iloadn dL_law_664 rfl ?_
  refine r_ic (2) dL_law_665 ?_
  refine r_iadd dL_law_666 ?_
  refine r_sld dL_law_667 (z_in hi hL 2 (by decide)) ?_
  refine z_V2 (μz := mX5_known) dL_law_668 kl_RL_78 mv_X5_known rfl (ok_X5_known (w_kwf R.1 R.2.1)) (fun m1 e1 => ?_)
  obtain ⟨a1, R1⟩ := z_x1c R (w_known R) e1
  refine r_aloadn dL_law_671 rfl (by decide) ?_
  refine r_aloadn dL_law_672 rfl (by decide) ?_
  refine r_iloadn dL_law_673 rfl ?_
  refine r_ic (1) dL_law_674 ?_
  refine r_iadd dL_law_675 ?_
  refine r_sld dL_law_676 (z_in hi hL 1 (by decide)) ?_
  refine r_aloadn dL_law_677 rfl (by decide) ?_
  refine r_iloadn dL_law_678 rfl ?_
  refine r_ic (2) dL_law_679 ?_
  refine r_iadd dL_law_680 ?_
  refine r_sld dL_law_681 (z_in hi hL 2 (by decide)) ?_
  refine z_V2 (μz := mX6_known) dL_law_682 kl_RL_81 mv_X6_known rfl (ok_X6_known (w_gwf R1.1 R1.2.1)) (fun m2 e2 => ?_)
  obtain ⟨ev, R2⟩ := z_x2c (w_known R1) a1 e2
  refine r_icmp_eq 1401 dL_law_685 (fun h685 => ?_) (fun h685 => ?_)
  · exact K m2 R2
  · exact absurd ev h685
theorem z_agree {X : fp_X} {N : fp_M} {c i nc ns : Nat} (R : w_Rc N N c) (hL : X.1 ≤ 3072) (hi : i + 5 < X.1) (K : ∀ N', w_R N' N' → fp_W X mL_law 1401 (z_ls i) [] fp_sh N' nc ns z_Q) : fp_W X mL_law 690 (z_ls i) [] fp_sh N nc ns z_Q := by
  refine r_aloadn dL_law_690 rfl (by decide) ?_
  refine r_aloadn dL_law_691 rfl (by decide) ?_
  refine r_iloadn dL_law_692 rfl ?_
  refine r_ic (1) dL_law_693 ?_
  refine r_iadd dL_law_694 ?_
  refine r_sld dL_law_695 (z_in hi hL 1 (by decide)) ?_
  refine z_V1 (μz := mX5_agree) dL_law_696 kl_RL_82 mv_X5_agree rfl (ok_X5_agree (w_kwf R.1 R.2.1)) (fun m1 e1 => ?_)
  obtain ⟨a1, R1⟩ := z_x1e R (w_agree R) e1
  refine r_aloadn dL_law_699 rfl (by decide) ?_
  refine r_aloadn dL_law_700 rfl (by decide) ?_
  refine r_iloadn dL_law_701 rfl ?_
  refine r_ic (1) dL_law_702 ?_
  refine r_iadd dL_law_703 ?_
  refine r_sld dL_law_704 (z_in hi hL 1 (by decide)) ?_
  refine z_V1 (μz := mX6_agree) dL_law_705 kl_RL_85 mv_X6_agree rfl (ok_X6_agree (w_gwf R1.1 R1.2.1)) (fun m2 e2 => ?_)
  obtain ⟨ev, R2⟩ := z_x2e (w_agree R1) a1 e2
  refine r_icmp_eq 1401 dL_law_708 (fun h708 => ?_) (fun h708 => ?_)
  · exact K m2 R2
  · exact absurd ev h708
theorem z_strike {X : fp_X} {N : fp_M} {c i nc ns : Nat} (R : w_Rc N N c) (hL : X.1 ≤ 3072) (hi : i + 5 < X.1) (K : ∀ N', w_R N' N' → fp_W X mL_law 1401 (z_ls i) [] fp_sh N' nc ns z_Q) : fp_W X mL_law 713 (z_ls i) [] fp_sh N nc ns z_Q := by
  refine r_aloadn dL_law_713 rfl (by decide) ?_
  refine z_V0 (μz := mX5_strike) dL_law_714 kl_RL_86 mv_X5_strike rfl (ok_X5_strike (w_kwf R.1 R.2.1)) (fun m1 e1 => ?_)
  obtain ⟨a1, R1⟩ := z_x1c R (w_strike R) e1
  refine r_aloadn dL_law_717 rfl (by decide) ?_
  refine z_V0 (μz := mX6_strike) dL_law_718 kl_RL_89 mv_X6_strike rfl (ok_X6_strike (w_gwf R1.1 R1.2.1)) (fun m2 e2 => ?_)
  obtain ⟨ev, R2⟩ := z_x2x (w_strike R1) a1 e2
  refine r_icmp_eq 1401 dL_law_721 (fun h721 => ?_) (fun h721 => ?_)
  · exact K m2 R2
  · exact absurd ev h721
theorem z_strikes {X : fp_X} {N : fp_M} {c i nc ns : Nat} (R : w_Rc N N c) (hL : X.1 ≤ 3072) (hi : i + 5 < X.1) (K : ∀ N', w_R N' N' → fp_W X mL_law 1401 (z_ls i) [] fp_sh N' nc ns z_Q) : fp_W X mL_law 726 (z_ls i) [] fp_sh N nc ns z_Q := by
  refine r_aloadn dL_law_726 rfl (by decide) ?_
  refine z_V0 (μz := mX5_strikes) dL_law_727 kl_RL_90 mv_X5_strikes rfl (ok_X5_strikes (w_kwf R.1 R.2.1)) (fun m1 e1 => ?_)
  obtain ⟨a1, R1⟩ := z_x1c R (w_strikes R) e1
  refine r_aloadn dL_law_730 rfl (by decide) ?_
  refine z_V0 (μz := mX6_strikes) dL_law_731 kl_RL_93 mv_X6_strikes rfl (ok_X6_strikes (w_gwf R1.1 R1.2.1)) (fun m2 e2 => ?_)
  obtain ⟨ev, R2⟩ := z_x2x (w_strikes R1) a1 e2
  refine r_icmp_eq 1401 dL_law_734 (fun h734 => ?_) (fun h734 => ?_)
  · exact K m2 R2
  · exact absurd ev h734
theorem z_implied {X : fp_X} {N : fp_M} {c i nc ns : Nat} (R : w_Rc N N c) (hL : X.1 ≤ 3072) (hi : i + 5 < X.1) (K : ∀ N', w_R N' N' → fp_W X mL_law 1401 (z_ls i) [] fp_sh N' nc ns z_Q) : fp_W X mL_law 739 (z_ls i) [] fp_sh N nc ns z_Q := by
  refine r_aloadn dL_law_739 rfl (by decide) ?_
  refine z_V0 (μz := mX5_implied) dL_law_740 kl_RL_94 mv_X5_implied rfl (ok_X5_implied (w_kwf R.1 R.2.1)) (fun m1 e1 => ?_)
  obtain ⟨a1, R1⟩ := z_x1c R (w_implied R) e1
  refine r_aloadn dL_law_743 rfl (by decide) ?_
  refine z_V0 (μz := mX6_implied) dL_law_744 kl_RL_97 mv_X6_implied rfl (ok_X6_implied (w_gwf R1.1 R1.2.1)) (fun m2 e2 => ?_)
  obtain ⟨ev, R2⟩ := z_x2c (w_implied R1) a1 e2
  refine r_icmp_eq 1401 dL_law_747 (fun h747 => ?_) (fun h747 => ?_)
  · exact K m2 R2
  · exact absurd ev h747
theorem z_suspects {X : fp_X} {N : fp_M} {c i nc ns : Nat} (R : w_Rc N N c) (hL : X.1 ≤ 3072) (hi : i + 5 < X.1) (K : ∀ N', w_R N' N' → fp_W X mL_law 1401 (z_ls i) [] fp_sh N' nc ns z_Q) : fp_W X mL_law 752 (z_ls i) [] fp_sh N nc ns z_Q := by
  refine r_aloadn dL_law_752 rfl (by decide) ?_
  refine z_V0 (μz := mX5_suspects) dL_law_753 kl_RL_98 mv_X5_suspects rfl (ok_X5_suspects (w_kwf R.1 R.2.1)) (fun m1 e1 => ?_)
  obtain ⟨a1, R1⟩ := z_x1c R (w_suspects R) e1
  refine r_aloadn dL_law_756 rfl (by decide) ?_
  refine z_V0 (μz := mX6_suspects) dL_law_757 kl_RL_101 mv_X6_suspects rfl (ok_X6_suspects (w_gwf R1.1 R1.2.1)) (fun m2 e2 => ?_)
  obtain ⟨ev, R2⟩ := z_x2c (w_suspects R1) a1 e2
  refine r_icmp_eq 1401 dL_law_760 (fun h760 => ?_) (fun h760 => ?_)
  · exact K m2 R2
  · exact absurd ev h760
theorem z_dearest {X : fp_X} {N : fp_M} {c i nc ns : Nat} (R : w_Rc N N c) (hL : X.1 ≤ 3072) (hi : i + 5 < X.1) (K : ∀ N', w_R N' N' → fp_W X mL_law 1401 (z_ls i) [] fp_sh N' nc ns z_Q) : fp_W X mL_law 765 (z_ls i) [] fp_sh N nc ns z_Q := by
  refine r_aloadn dL_law_765 rfl (by decide) ?_
  refine z_V0 (μz := mX5_dearest) dL_law_766 kl_RL_102 mv_X5_dearest rfl (ok_X5_dearest (w_kwf R.1 R.2.1)) (fun m1 e1 => ?_)
  obtain ⟨a1, R1⟩ := z_x1c R (w_dearest R) e1
  refine r_aloadn dL_law_769 rfl (by decide) ?_
  refine z_V0 (μz := mX6_dearest) dL_law_770 kl_RL_105 mv_X6_dearest rfl (ok_X6_dearest (w_gwf R1.1 R1.2.1)) (fun m2 e2 => ?_)
  obtain ⟨ev, R2⟩ := z_x2c (w_dearest R1) a1 e2
  refine r_icmp_eq 1401 dL_law_773 (fun h773 => ?_) (fun h773 => ?_)
  · exact K m2 R2
  · exact absurd ev h773
theorem z_merge {X : fp_X} {N : fp_M} {c i nc ns : Nat} (R : w_Rc N N c) (hL : X.1 ≤ 3072) (hi : i + 5 < X.1) (K : ∀ N', w_R N' N' → fp_W X mL_law 1401 (z_ls i) [] fp_sh N' nc ns z_Q) : fp_W X mL_law 778 (z_ls i) [] fp_sh N nc ns z_Q := by
  refine r_aloadn dL_law_778 rfl (by decide) ?_
  refine r_aloadn dL_law_779 rfl (by decide) ?_
  refine r_iloadn dL_law_780 rfl ?_
  refine r_ic (1) dL_law_781 ?_
  refine r_iadd dL_law_782 ?_
  refine r_sld dL_law_783 (z_in hi hL 1 (by decide)) ?_
  refine r_aloadn dL_law_784 rfl (by decide) ?_
  refine r_iloadn dL_law_785 rfl ?_
  refine r_ic (2) dL_law_786 ?_
  refine r_iadd dL_law_787 ?_
  refine r_sld dL_law_788 (z_in hi hL 2 (by decide)) ?_
  refine z_V2 (μz := mX5_merge) dL_law_789 kl_RL_106 mv_X5_merge rfl (ok_X5_merge (w_kwf R.1 R.2.1)) (fun m1 e1 => ?_)
  obtain ⟨a1, R1⟩ := z_x1c R (w_merge R) e1
  refine r_aloadn dL_law_792 rfl (by decide) ?_
  refine r_aloadn dL_law_793 rfl (by decide) ?_
  refine r_iloadn dL_law_794 rfl ?_
  refine r_ic (1) dL_law_795 ?_
  refine r_iadd dL_law_796 ?_
  refine r_sld dL_law_797 (z_in hi hL 1 (by decide)) ?_
  refine r_aloadn dL_law_798 rfl (by decide) ?_
  refine r_iloadn dL_law_799 rfl ?_
  refine r_ic (2) dL_law_800 ?_
  refine r_iadd dL_law_801 ?_
  refine r_sld dL_law_802 (z_in hi hL 2 (by decide)) ?_
  refine z_V2 (μz := mX6_merge) dL_law_803 kl_RL_109 mv_X6_merge rfl (ok_X6_merge (w_gwf R1.1 R1.2.1)) (fun m2 e2 => ?_)
  obtain ⟨ev, R2⟩ := z_x2x (w_merge R1) a1 e2
  refine r_icmp_eq 1401 dL_law_806 (fun h806 => ?_) (fun h806 => ?_)
  · exact K m2 R2
  · exact absurd ev h806
theorem z_kinds {X : fp_X} {N : fp_M} {c i nc ns : Nat} (R : w_Rc N N c) (hL : X.1 ≤ 3072) (hi : i + 5 < X.1) (K : ∀ N', w_R N' N' → fp_W X mL_law 1401 (z_ls i) [] fp_sh N' nc ns z_Q) : fp_W X mL_law 811 (z_ls i) [] fp_sh N nc ns z_Q := by
  refine r_aloadn dL_law_811 rfl (by decide) ?_
  refine r_aloadn dL_law_812 rfl (by decide) ?_
  refine r_iloadn dL_law_813 rfl ?_
  refine r_ic (1) dL_law_814 ?_
  refine r_iadd dL_law_815 ?_
  refine r_sld dL_law_816 (z_in hi hL 1 (by decide)) ?_
  refine z_V1 (μz := mX5_kinds) dL_law_817 kl_RL_110 mv_X5_kinds rfl (ok_X5_kinds (w_kwf R.1 R.2.1)) (fun m1 e1 => ?_)
  obtain ⟨a1, R1⟩ := z_x1g R (w_kinds R) e1
  refine r_aloadn dL_law_820 rfl (by decide) ?_
  refine r_aloadn dL_law_821 rfl (by decide) ?_
  refine r_iloadn dL_law_822 rfl ?_
  refine r_ic (1) dL_law_823 ?_
  refine r_iadd dL_law_824 ?_
  refine r_sld dL_law_825 (z_in hi hL 1 (by decide)) ?_
  refine z_V1 (μz := mX6_kinds) dL_law_826 kl_RL_113 mv_X6_kinds rfl (ok_X6_kinds (w_gwf R1.1 R1.2.1)) (fun m2 e2 => ?_)
  obtain ⟨ev, R2⟩ := z_x2c (w_kinds R1) a1 e2
  refine r_icmp_eq 1401 dL_law_829 (fun h829 => ?_) (fun h829 => ?_)
  · exact K m2 R2
  · exact absurd ev h829
theorem z_days {X : fp_X} {N : fp_M} {c i nc ns : Nat} (R : w_Rc N N c) (hL : X.1 ≤ 3072) (hi : i + 5 < X.1) (K : ∀ N', w_R N' N' → fp_W X mL_law 1401 (z_ls i) [] fp_sh N' nc ns z_Q) : fp_W X mL_law 834 (z_ls i) [] fp_sh N nc ns z_Q := by
  refine r_aloadn dL_law_834 rfl (by decide) ?_
  refine r_aloadn dL_law_835 rfl (by decide) ?_
  refine r_iloadn dL_law_836 rfl ?_
  refine r_ic (1) dL_law_837 ?_
  refine r_iadd dL_law_838 ?_
  refine r_sld dL_law_839 (z_in hi hL 1 (by decide)) ?_
  refine z_V1 (μz := mX5_days) dL_law_840 kl_RL_114 mv_X5_days rfl (ok_X5_days (w_kwf R.1 R.2.1)) (fun m1 e1 => ?_)
  obtain ⟨a1, R1⟩ := z_x1g R (w_daysC R) e1
  refine r_aloadn dL_law_843 rfl (by decide) ?_
  refine r_aloadn dL_law_844 rfl (by decide) ?_
  refine r_iloadn dL_law_845 rfl ?_
  refine r_ic (1) dL_law_846 ?_
  refine r_iadd dL_law_847 ?_
  refine r_sld dL_law_848 (z_in hi hL 1 (by decide)) ?_
  refine z_V1 (μz := mX6_days) dL_law_849 kl_RL_117 mv_X6_days rfl (ok_X6_days (w_gwf R1.1 R1.2.1)) (fun m2 e2 => ?_)
  obtain ⟨ev, R2⟩ := z_x2c (w_daysC R1) a1 e2
  refine r_icmp_eq 1401 dL_law_852 (fun h852 => ?_) (fun h852 => ?_)
  · exact K m2 R2
  · exact absurd ev h852
theorem z_fewest {X : fp_X} {N : fp_M} {c i nc ns : Nat} (R : w_Rc N N c) (hL : X.1 ≤ 3072) (hi : i + 5 < X.1) (K : ∀ N', w_R N' N' → fp_W X mL_law 1401 (z_ls i) [] fp_sh N' nc ns z_Q) : fp_W X mL_law 857 (z_ls i) [] fp_sh N nc ns z_Q := by
  refine r_aloadn dL_law_857 rfl (by decide) ?_
  refine r_aloadn dL_law_858 rfl (by decide) ?_
  refine r_iloadn dL_law_859 rfl ?_
  refine r_ic (1) dL_law_860 ?_
  refine r_iadd dL_law_861 ?_
  refine r_sld dL_law_862 (z_in hi hL 1 (by decide)) ?_
  refine z_V1 (μz := mX5_fewest) dL_law_863 kl_RL_118 mv_X5_fewest rfl (ok_X5_fewest (w_kwf R.1 R.2.1)) (fun m1 e1 => ?_)
  obtain ⟨a1, R1⟩ := z_x1g R (w_fewest R) e1
  refine r_aloadn dL_law_866 rfl (by decide) ?_
  refine r_aloadn dL_law_867 rfl (by decide) ?_
  refine r_iloadn dL_law_868 rfl ?_
  refine r_ic (1) dL_law_869 ?_
  refine r_iadd dL_law_870 ?_
  refine r_sld dL_law_871 (z_in hi hL 1 (by decide)) ?_
  refine z_V1 (μz := mX6_fewest) dL_law_872 kl_RL_121 mv_X6_fewest rfl (ok_X6_fewest (w_gwf R1.1 R1.2.1)) (fun m2 e2 => ?_)
  obtain ⟨ev, R2⟩ := z_x2c (w_fewest R1) a1 e2
  refine r_icmp_eq 1401 dL_law_875 (fun h875 => ?_) (fun h875 => ?_)
  · exact K m2 R2
  · exact absurd ev h875
theorem z_tight {X : fp_X} {N : fp_M} {c i nc ns : Nat} (R : w_Rc N N c) (hL : X.1 ≤ 3072) (hi : i + 5 < X.1) (K : ∀ N', w_R N' N' → fp_W X mL_law 1401 (z_ls i) [] fp_sh N' nc ns z_Q) : fp_W X mL_law 880 (z_ls i) [] fp_sh N nc ns z_Q := by
  refine r_aloadn dL_law_880 rfl (by decide) ?_
  refine z_V0 (μz := mX5_tight) dL_law_881 kl_RL_122 mv_X5_tight rfl (ok_X5_tight (w_kwf R.1 R.2.1)) (fun m1 e1 => ?_)
  obtain ⟨a1, R1⟩ := z_x1c R (w_tight R) e1
  refine r_aloadn dL_law_884 rfl (by decide) ?_
  refine z_V0 (μz := mX6_tight) dL_law_885 kl_RL_125 mv_X6_tight rfl (ok_X6_tight (w_gwf R1.1 R1.2.1)) (fun m2 e2 => ?_)
  obtain ⟨ev, R2⟩ := z_x2c (w_tight R1) a1 e2
  refine r_icmp_eq 1401 dL_law_888 (fun h888 => ?_) (fun h888 => ?_)
  · exact K m2 R2
  · exact absurd ev h888
theorem z_loses {X : fp_X} {N : fp_M} {c i nc ns : Nat} (R : w_Rc N N c) (hL : X.1 ≤ 3072) (hi : i + 5 < X.1) (K : ∀ N', w_R N' N' → fp_W X mL_law 1401 (z_ls i) [] fp_sh N' nc ns z_Q) : fp_W X mL_law 893 (z_ls i) [] fp_sh N nc ns z_Q := by
  refine r_aloadn dL_law_893 rfl (by decide) ?_
  refine r_aloadn dL_law_894 rfl (by decide) ?_
  refine r_iloadn dL_law_895 rfl ?_
  refine r_ic (1) dL_law_896 ?_
  refine r_iadd dL_law_897 ?_
  refine r_sld dL_law_898 (z_in hi hL 1 (by decide)) ?_
  refine z_V1 (μz := mX5_loses) dL_law_899 kl_RL_126 mv_X5_loses rfl (ok_X5_loses (w_kwf R.1 R.2.1)) (fun m1 e1 => ?_)
  obtain ⟨a1, R1⟩ := z_x1e R (w_loses R) e1
  refine r_aloadn dL_law_902 rfl (by decide) ?_
  refine r_aloadn dL_law_903 rfl (by decide) ?_
  refine r_iloadn dL_law_904 rfl ?_
  refine r_ic (1) dL_law_905 ?_
  refine r_iadd dL_law_906 ?_
  refine r_sld dL_law_907 (z_in hi hL 1 (by decide)) ?_
  refine z_V1 (μz := mX6_loses) dL_law_908 kl_RL_129 mv_X6_loses rfl (ok_X6_loses (w_gwf R1.1 R1.2.1)) (fun m2 e2 => ?_)
  obtain ⟨ev, R2⟩ := z_x2e (w_loses R1) a1 e2
  refine r_icmp_eq 1401 dL_law_911 (fun h911 => ?_) (fun h911 => ?_)
  · exact K m2 R2
  · exact absurd ev h911
theorem z_odds {X : fp_X} {N : fp_M} {c i nc ns : Nat} (R : w_Rc N N c) (hL : X.1 ≤ 3072) (hi : i + 5 < X.1) (K : ∀ N', w_R N' N' → fp_W X mL_law 1401 (z_ls i) [] fp_sh N' nc ns z_Q) : fp_W X mL_law 916 (z_ls i) [] fp_sh N nc ns z_Q := by
  refine r_aloadn dL_law_916 rfl (by decide) ?_
  refine r_aloadn dL_law_917 rfl (by decide) ?_
  refine r_iloadn dL_law_918 rfl ?_
  refine r_ic (1) dL_law_919 ?_
  refine r_iadd dL_law_920 ?_
  refine r_sld dL_law_921 (z_in hi hL 1 (by decide)) ?_
  refine r_aloadn dL_law_922 rfl (by decide) ?_
  refine r_iloadn dL_law_923 rfl ?_
  refine r_ic (2) dL_law_924 ?_
  refine r_iadd dL_law_925 ?_
  refine r_sld dL_law_926 (z_in hi hL 2 (by decide)) ?_
  refine z_V2 (μz := mX5_odds) dL_law_927 kl_RL_130 mv_X5_odds rfl (ok_X5_odds (w_kwf R.1 R.2.1)) (fun m1 e1 => ?_)
  obtain ⟨a1, R1⟩ := z_x1e R (w_odds R) e1
  refine r_aloadn dL_law_930 rfl (by decide) ?_
  refine r_aloadn dL_law_931 rfl (by decide) ?_
  refine r_iloadn dL_law_932 rfl ?_
  refine r_ic (1) dL_law_933 ?_
  refine r_iadd dL_law_934 ?_
  refine r_sld dL_law_935 (z_in hi hL 1 (by decide)) ?_
  refine r_aloadn dL_law_936 rfl (by decide) ?_
  refine r_iloadn dL_law_937 rfl ?_
  refine r_ic (2) dL_law_938 ?_
  refine r_iadd dL_law_939 ?_
  refine r_sld dL_law_940 (z_in hi hL 2 (by decide)) ?_
  refine z_V2 (μz := mX6_odds) dL_law_941 kl_RL_134 mv_X6_odds rfl (ok_X6_odds (w_gwf R1.1 R1.2.1)) (fun m2 e2 => ?_)
  obtain ⟨ev, R2⟩ := z_x2e (w_odds R1) a1 e2
  refine r_lcmp dL_law_944 ?_
  refine r_if_eq 1401 dL_law_945 (fun h945 => ?_) (fun h945 => ?_)
  · exact K m2 R2
  · exact absurd ((lg_cmp_eq _ _).mpr ev) h945
theorem z_seed {X : fp_X} {N : fp_M} {c i nc ns : Nat} (R : w_Rc N N c) (hL : X.1 ≤ 3072) (hi : i + 5 < X.1) (K : ∀ N', w_R N' N' → fp_W X mL_law 1401 (z_ls i) [] fp_sh N' nc ns z_Q) : fp_W X mL_law 950 (z_ls i) [] fp_sh N nc ns z_Q := by
  refine r_aloadn dL_law_950 rfl (by decide) ?_
  refine r_aloadn dL_law_951 rfl (by decide) ?_
  refine r_iloadn dL_law_952 rfl ?_
  refine r_ic (1) dL_law_953 ?_
  refine r_iadd dL_law_954 ?_
  refine r_sld dL_law_955 (z_in hi hL 1 (by decide)) ?_
  refine z_V1 (μz := mX5_seed) dL_law_956 kl_RL_135 mv_X5_seed rfl ok_X5_seed (fun m1 e1 => ?_)
  obtain ⟨a1, R1⟩ := z_x1e R (w_seed R) e1
  refine r_aloadn dL_law_959 rfl (by decide) ?_
  refine r_aloadn dL_law_960 rfl (by decide) ?_
  refine r_iloadn dL_law_961 rfl ?_
  refine r_ic (1) dL_law_962 ?_
  refine r_iadd dL_law_963 ?_
  refine r_sld dL_law_964 (z_in hi hL 1 (by decide)) ?_
  refine z_V1 (μz := mX6_seed) dL_law_965 kl_RL_138 mv_X6_seed rfl ok_X6_seed (fun m2 e2 => ?_)
  obtain ⟨ev, R2⟩ := z_x2e (w_seed R1) a1 e2
  refine r_icmp_eq 1401 dL_law_968 (fun h968 => ?_) (fun h968 => ?_)
  · exact K m2 R2
  · exact absurd ev h968
theorem z_feed {X : fp_X} {N : fp_M} {c i nc ns : Nat} (R : w_Rc N N c) (hL : X.1 ≤ 3072) (hi : i + 5 < X.1) (K : ∀ N', w_R N' N' → fp_W X mL_law 1401 (z_ls i) [] fp_sh N' nc ns z_Q) : fp_W X mL_law 973 (z_ls i) [] fp_sh N nc ns z_Q := by
  obtain ⟨z, z1, z2, z3, z4⟩ := R.2.2.2.1
  refine r_aloadn dL_law_973 rfl (by decide) ?_
  refine r_aloadn dL_law_974 rfl (by decide) ?_
  refine r_iloadn dL_law_975 rfl ?_
  refine r_ic (1) dL_law_976 ?_
  refine r_iadd dL_law_977 ?_
  refine r_sld dL_law_978 (z_in hi hL 1 (by decide)) ?_
  refine r_aloadn dL_law_979 rfl (by decide) ?_
  refine r_iloadn dL_law_980 rfl ?_
  refine r_ic (2) dL_law_981 ?_
  refine r_iadd dL_law_982 ?_
  refine r_sld dL_law_983 (z_in hi hL 2 (by decide)) ?_
  refine z_V2 (μz := mX5_feed) dL_law_984 kl_RL_139 mv_X5_feed rfl (ok_X5_feed z2 z1) (fun m1 e1 => ?_)
  obtain ⟨a1, R1⟩ := z_x1e R (w_feed R) e1
  obtain ⟨t, t1, t2, t3, t4⟩ := R1.2.2.2.1
  refine r_aloadn dL_law_987 rfl (by decide) ?_
  refine r_aloadn dL_law_988 rfl (by decide) ?_
  refine r_iloadn dL_law_989 rfl ?_
  refine r_ic (1) dL_law_990 ?_
  refine r_iadd dL_law_991 ?_
  refine r_sld dL_law_992 (z_in hi hL 1 (by decide)) ?_
  refine r_aloadn dL_law_993 rfl (by decide) ?_
  refine r_iloadn dL_law_994 rfl ?_
  refine r_ic (2) dL_law_995 ?_
  refine r_iadd dL_law_996 ?_
  refine r_sld dL_law_997 (z_in hi hL 2 (by decide)) ?_
  refine z_V2 (μz := mX6_feed) dL_law_998 kl_RL_142 mv_X6_feed rfl (ok_X6_feed t3 t1) (fun m2 e2 => ?_)
  obtain ⟨ev, R2⟩ := z_x2e (w_feed R1) a1 e2
  refine r_icmp_eq 1401 dL_law_1001 (fun h1001 => ?_) (fun h1001 => ?_)
  · exact K m2 R2
  · exact absurd ev h1001
theorem z_wipe {X : fp_X} {N : fp_M} {c i nc ns : Nat} (R : w_Rc N N c) (hL : X.1 ≤ 3072) (hi : i + 5 < X.1) (K : ∀ N', w_R N' N' → fp_W X mL_law 1401 (z_ls i) [] fp_sh N' nc ns z_Q) : fp_W X mL_law 1006 (z_ls i) [] fp_sh N nc ns z_Q := by
  refine r_aloadn dL_law_1006 rfl (by decide) ?_
  refine z_V0 (μz := mX5_wipe) dL_law_1007 kl_RL_143 mv_X5_wipe rfl ok_X5_wipe (fun m1 e1 => ?_)
  obtain ⟨a1, R1⟩ := z_x1e R (w_wipe R) e1
  refine r_aloadn dL_law_1010 rfl (by decide) ?_
  refine z_V0 (μz := mX6_wipe) dL_law_1011 kl_RL_146 mv_X6_wipe rfl ok_X6_wipe (fun m2 e2 => ?_)
  obtain ⟨ev, R2⟩ := z_x2e (w_wipe R1) a1 e2
  refine r_icmp_eq 1401 dL_law_1014 (fun h1014 => ?_) (fun h1014 => ?_)
  · exact K m2 R2
  · exact absurd ev h1014
theorem z_text {X : fp_X} {N : fp_M} {c i nc ns : Nat} (R : w_Rc N N c) (hL : X.1 ≤ 3072) (hi : i + 5 < X.1) (K : ∀ N', w_R N' N' → fp_W X mL_law 1401 (z_ls i) [] fp_sh N' nc ns z_Q) : fp_W X mL_law 1019 (z_ls i) [] fp_sh N nc ns z_Q := by
  obtain ⟨z, z1, z2, z3, z4⟩ := R.2.2.2.1
  refine r_aloadn dL_law_1019 rfl (by decide) ?_
  refine z_V0 (μz := mX5_text) dL_law_1020 kl_RL_147 mv_X5_text rfl (ok_X5_text z1 z2 ⟨c, R.1.1, R.1.2.1⟩) (fun m1 e1 => ?_)
  obtain ⟨a1, R1⟩ := z_x1e R (w_text R) e1
  obtain ⟨t, t1, t2, t3, t4⟩ := R1.2.2.2.1
  refine r_aloadn dL_law_1023 rfl (by decide) ?_
  refine z_V0 (μz := mX6_text) dL_law_1024 kl_RL_150 mv_X6_text rfl (ok_X6_text ⟨t1, t3, fun i hi => (t4 i hi).2⟩ R1.1.2.2.1 R1.1.1) (fun m2 e2 => ?_)
  obtain ⟨ev, R2⟩ := z_x2e (w_text R1) a1 e2
  refine r_icmp_eq 1401 dL_law_1027 (fun h1027 => ?_) (fun h1027 => ?_)
  · exact K m2 R2
  · exact absurd ev h1027
theorem z_hold {X : fp_X} {N : fp_M} {c i nc ns : Nat} (R : w_Rc N N c) (hL : X.1 ≤ 3072) (hi : i + 5 < X.1) (K : ∀ N', w_R N' N' → fp_W X mL_law 1401 (z_ls i) [] fp_sh N' nc ns z_Q) : fp_W X mL_law 1032 (z_ls i) [] fp_sh N nc ns z_Q := by
  refine r_aloadn dL_law_1032 rfl (by decide) ?_
  refine r_aloadn dL_law_1033 rfl (by decide) ?_
  refine r_iloadn dL_law_1034 rfl ?_
  refine r_ic (1) dL_law_1035 ?_
  refine r_iadd dL_law_1036 ?_
  refine r_sld dL_law_1037 (z_in hi hL 1 (by decide)) ?_
  refine r_aloadn dL_law_1038 rfl (by decide) ?_
  refine r_iloadn dL_law_1039 rfl ?_
  refine r_ic (2) dL_law_1040 ?_
  refine r_iadd dL_law_1041 ?_
  refine r_sld dL_law_1042 (z_in hi hL 2 (by decide)) ?_
  refine z_V2 (μz := mX5_hold) dL_law_1043 kl_RL_151 mv_X5_hold rfl ok_X5_hold (fun m1 e1 => ?_)
  obtain ⟨a1, R1⟩ := z_x1e R (w_hold R) e1
  refine r_aloadn dL_law_1046 rfl (by decide) ?_
  refine r_aloadn dL_law_1047 rfl (by decide) ?_
  refine r_iloadn dL_law_1048 rfl ?_
  refine r_ic (1) dL_law_1049 ?_
  refine r_iadd dL_law_1050 ?_
  refine r_sld dL_law_1051 (z_in hi hL 1 (by decide)) ?_
  refine r_aloadn dL_law_1052 rfl (by decide) ?_
  refine r_iloadn dL_law_1053 rfl ?_
  refine r_ic (2) dL_law_1054 ?_
  refine r_iadd dL_law_1055 ?_
  refine r_sld dL_law_1056 (z_in hi hL 2 (by decide)) ?_
  refine z_V2 (μz := mX6_hold) dL_law_1057 kl_RL_154 mv_X6_hold rfl ok_X6_hold (fun m2 e2 => ?_)
  obtain ⟨ev, R2⟩ := z_x2e (w_hold R1) a1 e2
  refine r_icmp_eq 1401 dL_law_1060 (fun h1060 => ?_) (fun h1060 => ?_)
  · exact K m2 R2
  · exact absurd ev h1060
theorem z_as {X : fp_X} {N : fp_M} {c i nc ns : Nat} (R : w_Rc N N c) (hL : X.1 ≤ 3072) (hi : i + 5 < X.1) (K : ∀ N', w_R N' N' → fp_W X mL_law 1401 (z_ls i) [] fp_sh N' nc ns z_Q) : fp_W X mL_law 1065 (z_ls i) [] fp_sh N nc ns z_Q := by
  refine r_aloadn dL_law_1065 rfl (by decide) ?_
  refine r_aloadn dL_law_1066 rfl (by decide) ?_
  refine r_iloadn dL_law_1067 rfl ?_
  refine r_ic (1) dL_law_1068 ?_
  refine r_iadd dL_law_1069 ?_
  refine r_sld dL_law_1070 (z_in hi hL 1 (by decide)) ?_
  refine r_aloadn dL_law_1071 rfl (by decide) ?_
  refine r_iloadn dL_law_1072 rfl ?_
  refine r_ic (2) dL_law_1073 ?_
  refine r_iadd dL_law_1074 ?_
  refine r_sld dL_law_1075 (z_in hi hL 2 (by decide)) ?_
  refine z_V2 (μz := mX5_as) dL_law_1076 kl_RL_155 mv_X5_as rfl (ok_X5_as (w_kwf R.1 R.2.1)) (fun m1 e1 => ?_)
  obtain ⟨a1, R1⟩ := z_x1e R (w_as R) e1
  refine r_aloadn dL_law_1079 rfl (by decide) ?_
  refine r_aloadn dL_law_1080 rfl (by decide) ?_
  refine r_iloadn dL_law_1081 rfl ?_
  refine r_ic (1) dL_law_1082 ?_
  refine r_iadd dL_law_1083 ?_
  refine r_sld dL_law_1084 (z_in hi hL 1 (by decide)) ?_
  refine r_aloadn dL_law_1085 rfl (by decide) ?_
  refine r_iloadn dL_law_1086 rfl ?_
  refine r_ic (2) dL_law_1087 ?_
  refine r_iadd dL_law_1088 ?_
  refine r_sld dL_law_1089 (z_in hi hL 2 (by decide)) ?_
  refine z_V2 (μz := mX6_as) dL_law_1090 kl_RL_158 mv_X6_as rfl (ok_X6_as (z_sp R1)) (fun m2 e2 => ?_)
  obtain ⟨ev, R2⟩ := z_x2e (w_as R1) a1 e2
  refine r_icmp_eq 1401 dL_law_1093 (fun h1093 => ?_) (fun h1093 => ?_)
  · exact K m2 R2
  · exact absurd ev h1093
theorem z_sheet {X : fp_X} {N : fp_M} {c i nc ns : Nat} (R : w_Rc N N c) (hL : X.1 ≤ 3072) (hi : i + 5 < X.1) (K : ∀ N', w_R N' N' → fp_W X mL_law 1401 (z_ls i) [] fp_sh N' nc ns z_Q) : fp_W X mL_law 1098 (z_ls i) [] fp_sh N nc ns z_Q := by
  refine r_aloadn dL_law_1098 rfl (by decide) ?_
  refine r_aloadn dL_law_1099 rfl (by decide) ?_
  refine r_iloadn dL_law_1100 rfl ?_
  refine r_ic (1) dL_law_1101 ?_
  refine r_iadd dL_law_1102 ?_
  refine r_sld dL_law_1103 (z_in hi hL 1 (by decide)) ?_
  refine r_aloadn dL_law_1104 rfl (by decide) ?_
  refine r_iloadn dL_law_1105 rfl ?_
  refine r_ic (2) dL_law_1106 ?_
  refine r_iadd dL_law_1107 ?_
  refine r_sld dL_law_1108 (z_in hi hL 2 (by decide)) ?_
  refine r_aloadn dL_law_1109 rfl (by decide) ?_
  refine r_iloadn dL_law_1110 rfl ?_
  refine r_ic (3) dL_law_1111 ?_
  refine r_iadd dL_law_1112 ?_
  refine r_sld dL_law_1113 (z_in hi hL 3 (by decide)) ?_
  refine z_V3 (μz := mX5_sheet) dL_law_1114 kl_RL_159 mv_X5_sheet rfl ok_X5_sheet (fun m1 e1 => ?_)
  obtain ⟨a1, R1⟩ := z_x1e R (w_sheet R) e1
  refine r_aloadn dL_law_1117 rfl (by decide) ?_
  refine r_aloadn dL_law_1118 rfl (by decide) ?_
  refine r_iloadn dL_law_1119 rfl ?_
  refine r_ic (1) dL_law_1120 ?_
  refine r_iadd dL_law_1121 ?_
  refine r_sld dL_law_1122 (z_in hi hL 1 (by decide)) ?_
  refine r_aloadn dL_law_1123 rfl (by decide) ?_
  refine r_iloadn dL_law_1124 rfl ?_
  refine r_ic (2) dL_law_1125 ?_
  refine r_iadd dL_law_1126 ?_
  refine r_sld dL_law_1127 (z_in hi hL 2 (by decide)) ?_
  refine r_aloadn dL_law_1128 rfl (by decide) ?_
  refine r_iloadn dL_law_1129 rfl ?_
  refine r_ic (3) dL_law_1130 ?_
  refine r_iadd dL_law_1131 ?_
  refine r_sld dL_law_1132 (z_in hi hL 3 (by decide)) ?_
  refine z_V3 (μz := mX6_sheet) dL_law_1133 kl_RL_162 mv_X6_sheet rfl ok_X6_sheet (fun m2 e2 => ?_)
  obtain ⟨ev, R2⟩ := z_x2e (w_sheet R1) a1 e2
  refine r_icmp_eq 1401 dL_law_1136 (fun h1136 => ?_) (fun h1136 => ?_)
  · exact K m2 R2
  · exact absurd ev h1136
theorem z_write {X : fp_X} {N : fp_M} {c i nc ns : Nat} (R : w_Rc N N c) (hL : X.1 ≤ 3072) (hi : i + 5 < X.1) (K : ∀ N', w_R N' N' → fp_W X mL_law 1401 (z_ls i) [] fp_sh N' nc ns z_Q) : fp_W X mL_law 1141 (z_ls i) [] fp_sh N nc ns z_Q := by
  refine r_aloadn dL_law_1141 rfl (by decide) ?_
  refine r_aloadn dL_law_1142 rfl (by decide) ?_
  refine r_iloadn dL_law_1143 rfl ?_
  refine r_ic (1) dL_law_1144 ?_
  refine r_iadd dL_law_1145 ?_
  refine r_sld dL_law_1146 (z_in hi hL 1 (by decide)) ?_
  refine r_aloadn dL_law_1147 rfl (by decide) ?_
  refine r_iloadn dL_law_1148 rfl ?_
  refine r_ic (2) dL_law_1149 ?_
  refine r_iadd dL_law_1150 ?_
  refine r_sld dL_law_1151 (z_in hi hL 2 (by decide)) ?_
  refine r_aloadn dL_law_1152 rfl (by decide) ?_
  refine r_iloadn dL_law_1153 rfl ?_
  refine r_ic (3) dL_law_1154 ?_
  refine r_iadd dL_law_1155 ?_
  refine r_sld dL_law_1156 (z_in hi hL 3 (by decide)) ?_
  refine z_V3 (μz := mX5_write) dL_law_1157 kl_RL_163 mv_X5_write rfl (ok_X5_write (z_hz R)) (fun m1 e1 => ?_)
  obtain ⟨a1, R1⟩ := z_x1e R (w_write R) e1
  refine r_aloadn dL_law_1160 rfl (by decide) ?_
  refine r_aloadn dL_law_1161 rfl (by decide) ?_
  refine r_iloadn dL_law_1162 rfl ?_
  refine r_ic (1) dL_law_1163 ?_
  refine r_iadd dL_law_1164 ?_
  refine r_sld dL_law_1165 (z_in hi hL 1 (by decide)) ?_
  refine r_aloadn dL_law_1166 rfl (by decide) ?_
  refine r_iloadn dL_law_1167 rfl ?_
  refine r_ic (2) dL_law_1168 ?_
  refine r_iadd dL_law_1169 ?_
  refine r_sld dL_law_1170 (z_in hi hL 2 (by decide)) ?_
  refine r_aloadn dL_law_1171 rfl (by decide) ?_
  refine r_iloadn dL_law_1172 rfl ?_
  refine r_ic (3) dL_law_1173 ?_
  refine r_iadd dL_law_1174 ?_
  refine r_sld dL_law_1175 (z_in hi hL 3 (by decide)) ?_
  refine z_V3 (μz := mX6_write) dL_law_1176 kl_RL_166 mv_X6_write rfl (ok_X6_write (z_gz R1)) (fun m2 e2 => ?_)
  obtain ⟨ev, R2⟩ := z_x2e (w_write R1) a1 e2
  refine r_icmp_eq 1401 dL_law_1179 (fun h1179 => ?_) (fun h1179 => ?_)
  · exact K m2 R2
  · exact absurd ev h1179
theorem z_copy {X : fp_X} {N : fp_M} {c i nc ns : Nat} (R : w_Rc N N c) (hL : X.1 ≤ 3072) (hi : i + 5 < X.1) (K : ∀ N', w_R N' N' → fp_W X mL_law 1401 (z_ls i) [] fp_sh N' nc ns z_Q) : fp_W X mL_law 1184 (z_ls i) [] fp_sh N nc ns z_Q := by
  refine r_aloadn dL_law_1184 rfl (by decide) ?_
  refine r_aloadn dL_law_1185 rfl (by decide) ?_
  refine r_iloadn dL_law_1186 rfl ?_
  refine r_ic (1) dL_law_1187 ?_
  refine r_iadd dL_law_1188 ?_
  refine r_sld dL_law_1189 (z_in hi hL 1 (by decide)) ?_
  refine r_aloadn dL_law_1190 rfl (by decide) ?_
  refine r_iloadn dL_law_1191 rfl ?_
  refine r_ic (2) dL_law_1192 ?_
  refine r_iadd dL_law_1193 ?_
  refine r_sld dL_law_1194 (z_in hi hL 2 (by decide)) ?_
  refine r_aloadn dL_law_1195 rfl (by decide) ?_
  refine r_iloadn dL_law_1196 rfl ?_
  refine r_ic (3) dL_law_1197 ?_
  refine r_iadd dL_law_1198 ?_
  refine r_sld dL_law_1199 (z_in hi hL 3 (by decide)) ?_
  refine r_aloadn dL_law_1200 rfl (by decide) ?_
  refine r_iloadn dL_law_1201 rfl ?_
  refine r_ic (4) dL_law_1202 ?_
  refine r_iadd dL_law_1203 ?_
  refine r_sld dL_law_1204 (z_in hi hL 4 (by decide)) ?_
  refine r_aloadn dL_law_1205 rfl (by decide) ?_
  refine r_iloadn dL_law_1206 rfl ?_
  refine r_ic (5) dL_law_1207 ?_
  refine r_iadd dL_law_1208 ?_
  refine r_sld dL_law_1209 (z_in hi hL 5 (by decide)) ?_
  refine z_V5 (μz := mX5_copy) dL_law_1210 kl_RL_167 mv_X5_copy rfl (ok_X5_copy (z_hz R)) (fun m1 e1 => ?_)
  obtain ⟨a1, R1⟩ := z_x1e R (w_copy R) e1
  refine r_aloadn dL_law_1213 rfl (by decide) ?_
  refine r_aloadn dL_law_1214 rfl (by decide) ?_
  refine r_iloadn dL_law_1215 rfl ?_
  refine r_ic (1) dL_law_1216 ?_
  refine r_iadd dL_law_1217 ?_
  refine r_sld dL_law_1218 (z_in hi hL 1 (by decide)) ?_
  refine r_aloadn dL_law_1219 rfl (by decide) ?_
  refine r_iloadn dL_law_1220 rfl ?_
  refine r_ic (2) dL_law_1221 ?_
  refine r_iadd dL_law_1222 ?_
  refine r_sld dL_law_1223 (z_in hi hL 2 (by decide)) ?_
  refine r_aloadn dL_law_1224 rfl (by decide) ?_
  refine r_iloadn dL_law_1225 rfl ?_
  refine r_ic (3) dL_law_1226 ?_
  refine r_iadd dL_law_1227 ?_
  refine r_sld dL_law_1228 (z_in hi hL 3 (by decide)) ?_
  refine r_aloadn dL_law_1229 rfl (by decide) ?_
  refine r_iloadn dL_law_1230 rfl ?_
  refine r_ic (4) dL_law_1231 ?_
  refine r_iadd dL_law_1232 ?_
  refine r_sld dL_law_1233 (z_in hi hL 4 (by decide)) ?_
  refine r_aloadn dL_law_1234 rfl (by decide) ?_
  refine r_iloadn dL_law_1235 rfl ?_
  refine r_ic (5) dL_law_1236 ?_
  refine r_iadd dL_law_1237 ?_
  refine r_sld dL_law_1238 (z_in hi hL 5 (by decide)) ?_
  refine z_V5 (μz := mX6_copy) dL_law_1239 kl_RL_170 mv_X6_copy rfl (ok_X6_copy (z_gz R1)) (fun m2 e2 => ?_)
  obtain ⟨ev, R2⟩ := z_x2e (w_copy R1) a1 e2
  refine r_icmp_eq 1401 dL_law_1242 (fun h1242 => ?_) (fun h1242 => ?_)
  · exact K m2 R2
  · exact absurd ev h1242
theorem z_load {X : fp_X} {N : fp_M} {c i nc ns : Nat} (R : w_Rc N N c) (hL : X.1 ≤ 3072) (hi : i + 5 < X.1) (K : ∀ N', w_R N' N' → fp_W X mL_law 1401 (z_ls i) [] fp_sh N' nc ns z_Q) : fp_W X mL_law 1247 (z_ls i) [] fp_sh N nc ns z_Q := by
  refine r_aloadn dL_law_1247 rfl (by decide) ?_
  refine r_aloadn dL_law_1248 rfl (by decide) ?_
  refine r_iloadn dL_law_1249 rfl ?_
  refine r_ic (1) dL_law_1250 ?_
  refine r_iadd dL_law_1251 ?_
  refine r_sld dL_law_1252 (z_in hi hL 1 (by decide)) ?_
  refine z_V1 (μz := mX5_load) dL_law_1253 kl_RL_171 mv_X5_load rfl (ok_X5_load (w_kwf R.1 R.2.1) (z_hz R)) (fun m1 e1 => ?_)
  obtain ⟨a1, R1⟩ := z_x1e R (w_load R) e1
  refine r_aloadn dL_law_1256 rfl (by decide) ?_
  refine r_aloadn dL_law_1257 rfl (by decide) ?_
  refine r_iloadn dL_law_1258 rfl ?_
  refine r_ic (1) dL_law_1259 ?_
  refine r_iadd dL_law_1260 ?_
  refine r_sld dL_law_1261 (z_in hi hL 1 (by decide)) ?_
  refine z_V1 (μz := mX6_load) dL_law_1262 kl_RL_174 mv_X6_load rfl (ok_X6_load (w_gwf R1.1 R1.2.1) (z_gz R1)) (fun m2 e2 => ?_)
  obtain ⟨ev, R2⟩ := z_x2e (w_load R1) a1 e2
  refine r_icmp_eq 1401 dL_law_1265 (fun h1265 => ?_) (fun h1265 => ?_)
  · exact K m2 R2
  · exact absurd ev h1265
theorem z_judge {X : fp_X} {N : fp_M} {c i nc ns : Nat} (R : w_Rc N N c) (hL : X.1 ≤ 3072) (hi : i + 5 < X.1) (K : ∀ N', w_R N' N' → fp_W X mL_law 1401 (z_ls i) [] fp_sh N' nc ns z_Q) : fp_W X mL_law 1270 (z_ls i) [] fp_sh N nc ns z_Q := by
  refine r_aloadn dL_law_1270 rfl (by decide) ?_
  refine r_aloadn dL_law_1271 rfl (by decide) ?_
  refine r_iloadn dL_law_1272 rfl ?_
  refine r_ic (1) dL_law_1273 ?_
  refine r_iadd dL_law_1274 ?_
  refine r_sld dL_law_1275 (z_in hi hL 1 (by decide)) ?_
  refine z_V1 (μz := mX5_judge) dL_law_1276 kl_RL_175 mv_X5_judge rfl (ok_X5_judge (w_kwf R.1 R.2.1) (z_hz R)) (fun m1 e1 => ?_)
  obtain ⟨a1, R1⟩ := z_x1e R (w_judge R) e1
  refine r_aloadn dL_law_1279 rfl (by decide) ?_
  refine r_aloadn dL_law_1280 rfl (by decide) ?_
  refine r_iloadn dL_law_1281 rfl ?_
  refine r_ic (1) dL_law_1282 ?_
  refine r_iadd dL_law_1283 ?_
  refine r_sld dL_law_1284 (z_in hi hL 1 (by decide)) ?_
  refine z_V1 (μz := mX6_judge) dL_law_1285 kl_RL_178 mv_X6_judge rfl (ok_X6_judge (w_gwf R1.1 R1.2.1) (z_gz R1)) (fun m2 e2 => ?_)
  obtain ⟨ev, R2⟩ := z_x2e (w_judge R1) a1 e2
  refine r_icmp_eq 1401 dL_law_1288 (fun h1288 => ?_) (fun h1288 => ?_)
  · exact K m2 R2
  · exact absurd ev h1288
theorem z_maps {X : fp_X} {N : fp_M} {c i nc ns : Nat} (R : w_Rc N N c) (hL : X.1 ≤ 3072) (hi : i + 5 < X.1) (K : ∀ N', w_R N' N' → fp_W X mL_law 1401 (z_ls i) [] fp_sh N' nc ns z_Q) : fp_W X mL_law 1293 (z_ls i) [] fp_sh N nc ns z_Q := by
  refine r_aloadn dL_law_1293 rfl (by decide) ?_
  refine r_aloadn dL_law_1294 rfl (by decide) ?_
  refine r_iloadn dL_law_1295 rfl ?_
  refine r_ic (1) dL_law_1296 ?_
  refine r_iadd dL_law_1297 ?_
  refine r_sld dL_law_1298 (z_in hi hL 1 (by decide)) ?_
  refine z_V1 (μz := mX5_maps) dL_law_1299 kl_RL_179 mv_X5_maps rfl (ok_X5_maps (w_kwf R.1 R.2.1) (z_hz R)) (fun m1 e1 => ?_)
  obtain ⟨a1, R1⟩ := z_x1e R (w_maps R) e1
  refine r_aloadn dL_law_1302 rfl (by decide) ?_
  refine r_aloadn dL_law_1303 rfl (by decide) ?_
  refine r_iloadn dL_law_1304 rfl ?_
  refine r_ic (1) dL_law_1305 ?_
  refine r_iadd dL_law_1306 ?_
  refine r_sld dL_law_1307 (z_in hi hL 1 (by decide)) ?_
  refine z_V1 (μz := mX6_maps) dL_law_1308 kl_RL_182 mv_X6_maps rfl (ok_X6_maps (w_gwf R1.1 R1.2.1) (z_gz R1)) (fun m2 e2 => ?_)
  obtain ⟨ev, R2⟩ := z_x2e (w_maps R1) a1 e2
  refine r_icmp_eq 1401 dL_law_1311 (fun h1311 => ?_) (fun h1311 => ?_)
  · exact K m2 R2
  · exact absurd ev h1311
theorem z_image {X : fp_X} {N : fp_M} {c i nc ns : Nat} (R : w_Rc N N c) (hL : X.1 ≤ 3072) (hi : i + 5 < X.1) (K : ∀ N', w_R N' N' → fp_W X mL_law 1401 (z_ls i) [] fp_sh N' nc ns z_Q) : fp_W X mL_law 1316 (z_ls i) [] fp_sh N nc ns z_Q := by
  refine r_aloadn dL_law_1316 rfl (by decide) ?_
  refine z_V0 (μz := mX5_image) dL_law_1317 kl_RL_183 mv_X5_image rfl ok_X5_image (fun m1 e1 => ?_)
  obtain ⟨a1, R1⟩ := z_x1e R (w_image R) e1
  refine r_aloadn dL_law_1320 rfl (by decide) ?_
  refine z_V0 (μz := mX6_image) dL_law_1321 kl_RL_186 mv_X6_image rfl ok_X6_image (fun m2 e2 => ?_)
  obtain ⟨ev, R2⟩ := z_x2e (w_image R1) a1 e2
  refine r_icmp_eq 1401 dL_law_1324 (fun h1324 => ?_) (fun h1324 => ?_)
  · exact K m2 R2
  · exact absurd ev h1324
theorem z_undo {X : fp_X} {N : fp_M} {c i nc ns : Nat} (R : w_Rc N N c) (hL : X.1 ≤ 3072) (hi : i + 5 < X.1) (K : ∀ N', w_R N' N' → fp_W X mL_law 1401 (z_ls i) [] fp_sh N' nc ns z_Q) : fp_W X mL_law 1329 (z_ls i) [] fp_sh N nc ns z_Q := by
  refine r_aloadn dL_law_1329 rfl (by decide) ?_
  refine z_V0 (μz := mX5_undo) dL_law_1330 kl_RL_187 mv_X5_undo rfl ok_X5_undo (fun m1 e1 => ?_)
  obtain ⟨a1, R1⟩ := z_x1e R (w_undo R) e1
  refine r_aloadn dL_law_1333 rfl (by decide) ?_
  refine z_V0 (μz := mX6_undo) dL_law_1334 kl_RL_190 mv_X6_undo rfl ok_X6_undo (fun m2 e2 => ?_)
  obtain ⟨ev, R2⟩ := z_x2e (w_undo R1) a1 e2
  refine r_icmp_eq 1401 dL_law_1337 (fun h1337 => ?_) (fun h1337 => ?_)
  · exact K m2 R2
  · exact absurd ev h1337
theorem z_tear {X : fp_X} {N : fp_M} {c i nc ns : Nat} (R : w_Rc N N c) (hL : X.1 ≤ 3072) (hi : i + 5 < X.1) (K : ∀ N', w_R N' N' → fp_W X mL_law 1401 (z_ls i) [] fp_sh N' nc ns z_Q) : fp_W X mL_law 1342 (z_ls i) [] fp_sh N nc ns z_Q := by
  refine r_aloadn dL_law_1342 rfl (by decide) ?_
  refine z_V0 (μz := mX5_tear) dL_law_1343 kl_RL_191 mv_X5_tear rfl ok_X5_tear (fun m1 e1 => ?_)
  obtain ⟨a1, R1⟩ := z_x1e R (w_tear R) e1
  refine r_aloadn dL_law_1346 rfl (by decide) ?_
  refine z_V0 (μz := mX6_tear) dL_law_1347 kl_RL_194 mv_X6_tear rfl ok_X6_tear (fun m2 e2 => ?_)
  obtain ⟨ev, R2⟩ := z_x2e (w_tear R1) a1 e2
  refine r_icmp_eq 1401 dL_law_1350 (fun h1350 => ?_) (fun h1350 => ?_)
  · exact K m2 R2
  · exact absurd ev h1350
theorem z_count {X : fp_X} {N : fp_M} {c i nc ns : Nat} (R : w_Rc N N c) (hL : X.1 ≤ 3072) (hi : i + 5 < X.1) (K : ∀ N', w_R N' N' → fp_W X mL_law 1401 (z_ls i) [] fp_sh N' nc ns z_Q) : fp_W X mL_law 1355 (z_ls i) [] fp_sh N nc ns z_Q := by
  refine r_aloadn dL_law_1355 rfl (by decide) ?_
  refine r_aloadn dL_law_1356 rfl (by decide) ?_
  refine r_iloadn dL_law_1357 rfl ?_
  refine r_ic (1) dL_law_1358 ?_
  refine r_iadd dL_law_1359 ?_
  refine r_sld dL_law_1360 (z_in hi hL 1 (by decide)) ?_
  refine z_V1 (μz := mX5_count) dL_law_1361 kl_RL_195 mv_X5_count rfl (ok_X5_count (w_kwf R.1 R.2.1)) (fun m1 e1 => ?_)
  obtain ⟨a1, R1⟩ := z_x1e R (w_count R) e1
  refine r_aloadn dL_law_1364 rfl (by decide) ?_
  refine r_aloadn dL_law_1365 rfl (by decide) ?_
  refine r_iloadn dL_law_1366 rfl ?_
  refine r_ic (1) dL_law_1367 ?_
  refine r_iadd dL_law_1368 ?_
  refine r_sld dL_law_1369 (z_in hi hL 1 (by decide)) ?_
  refine z_V1 (μz := mX6_count) dL_law_1370 kl_RL_198 mv_X6_count rfl (ok_X6_count (w_gwf R1.1 R1.2.1)) (fun m2 e2 => ?_)
  obtain ⟨ev, R2⟩ := z_x2e (w_count R1) a1 e2
  refine r_icmp_eq 1401 dL_law_1373 (fun h1373 => ?_) (fun h1373 => ?_)
  · exact K m2 R2
  · exact absurd ev h1373
theorem z_status {X : fp_X} {N : fp_M} {c i nc ns : Nat} (R : w_Rc N N c) (hL : X.1 ≤ 3072) (hi : i + 5 < X.1) (K : ∀ N', w_R N' N' → fp_W X mL_law 1401 (z_ls i) [] fp_sh N' nc ns z_Q) : fp_W X mL_law 1378 (z_ls i) [] fp_sh N nc ns z_Q := by
  refine r_aloadn dL_law_1378 rfl (by decide) ?_
  refine r_aloadn dL_law_1379 rfl (by decide) ?_
  refine r_iloadn dL_law_1380 rfl ?_
  refine r_ic (1) dL_law_1381 ?_
  refine r_iadd dL_law_1382 ?_
  refine r_sld dL_law_1383 (z_in hi hL 1 (by decide)) ?_
  refine z_V1 (μz := mX5_status) dL_law_1384 kl_RL_199 mv_X5_status rfl ok_X5_status (fun m1 e1 => ?_)
  obtain ⟨a1, R1⟩ := z_x1e R (w_status R) e1
  refine r_aloadn dL_law_1387 rfl (by decide) ?_
  refine r_aloadn dL_law_1388 rfl (by decide) ?_
  refine r_iloadn dL_law_1389 rfl ?_
  refine r_ic (1) dL_law_1390 ?_
  refine r_iadd dL_law_1391 ?_
  refine r_sld dL_law_1392 (z_in hi hL 1 (by decide)) ?_
  refine z_V1 (μz := mX6_status) dL_law_1393 kl_RL_202 mv_X6_status rfl ok_X6_status (fun m2 e2 => ?_)
  obtain ⟨ev, R2⟩ := z_x2e (w_status R1) a1 e2
  refine r_icmp_eq 1401 dL_law_1396 (fun h1396 => ?_) (fun h1396 => ?_)
  · exact K m2 R2
  · exact absurd ev h1396
