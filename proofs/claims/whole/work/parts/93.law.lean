/-- the law's own method -/
abbrev mi_L : zMI := (yL_law, code, 4, ret)
theorem zhx {l : Launch} {X : zX} {y : zMI} {d pc : Nat} {lv : List (Nat × zV)} {st : List zV} {S : zS} {mc ms : Nat} {r : Option zV} {S9 : zS} (k : (∀ j, j < 7 → S.2 (1000 + j) = zxc X j) → zEv l X y d pc lv st S mc ms r S9) : zEv l X y d pc lv st S mc ms r S9 := fun E G D p e R s m args below meth c H locs cells slots Q ls hB hW => k hW.2.2 E G D p e R s m args below meth c H locs cells slots Q ls hB hW
/-- a number of the script -/
theorem sc_ld {l : Launch} {X : zX} {y : zMI} {d pc pc' : Nat} {lv : List (Nat × zV)} {st : List zV} {Ψ : List zC} {μ : zH} {mc ms : Nat} {r : Option zV} {S' : zS} {i : Int32} {k : Nat} (hd : zdn y.2.1 pc pc' (.iaload) 1) (hi : i = nI k) (hk : k < X.1) (hX : X.1 ≤ 2560) (K : zEv l X y d pc' lv (.inl (X.2 k) :: st) (Ψ, μ) mc ms r S') : zEv l X y d pc lv (.inl i :: .inr 1006 :: st) (Ψ, μ) mc ms r S' := by
  refine zhx (S := (Ψ, μ)) (fun hx => ?_)
  refine pv_iald2 (a := 1006) (n := X.1) hd (Or.inr ⟨6, by decide, rfl, rfl⟩) (ixi hi hk (by omega)) ?_
  have e : μ 1006 i.toNatClampNeg = X.2 k := by
    rw [hi, nI_clamp (by omega)]
    exact congrFun (hx 6 (by decide)) k
  rw [e]
  exact K
theorem sc_len {l : Launch} {X : zX} {y : zMI} {d pc pc' : Nat} {lv : List (Nat × zV)} {st : List zV} {Ψ : List zC} {μ : zH} {mc ms : Nat} {r : Option zV} {S' : zS} (hd : zdn y.2.1 pc pc' (.arraylength) 1) (K : zEv l X y d pc' lv (.inl (nI X.1) :: st) (Ψ, μ) mc ms r S') : zEv l X y d pc lv (.inr 1006 :: st) (Ψ, μ) mc ms r S' :=
  pv_alen2 (a := 1006) (n := X.1) hd (Or.inr ⟨6, by decide, rfl, rfl⟩) rfl K
abbrev lvL (i : Nat) : List (Nat × zV) := [(0, .inr 1006), (1, .inr 0), (2, .inr 67), (3, .inl (nI (5 * i)))]
theorem WI.mono1 {M : Nat} {μ : zH} (h : WI M μ) : WI (M + 1) μ := by
  obtain ⟨np, nc, kw, kc, kb, kn, hH, hT, hL, hS, hMm, hN⟩ := h
  exact ⟨np, nc, kw, kc, kb, kn, hH, hT, hL, SR.mono hS (Nat.le_succ _), WM.mono hMm (Nat.le_succ _), hN⟩

theorem law_feed {l : Launch} {X : zX} {i M : Nat} {ν : zH} (hi : 5 * i + 5 ≤ X.1) (hX : X.1 ≤ 2560) (hM : M < 1000) (h : WI M ν) : ∃ μ2, WI (M + 1) μ2 ∧ ∀ (r : Option zV) (S' : zS), zEv l X mi_L 31 1150 (lvL i) [] (zSH, μ2) 0 0 r S' → zEv l X mi_L 31 192 (lvL i) [] (zSH, ν) 0 0 r S' := by
  obtain ⟨a, μ1, μ2, c1, c2, c3⟩ := cl_feed (x := X.2 (5 * i + 1)) h l X
  refine ⟨μ2, c3, fun r S' hk => ?_⟩
  refine pv_aload_n (i := 1) t_L_law_192 rfl rfl ?_
  refine pv_aload_n (i := 0) t_L_law_193 rfl rfl ?_
  refine pv_iload_n (i := 3) t_L_law_194 rfl rfl ?_
  refine pv_iconst (v := 1) t_L_law_195 zi_1 ?_
  refine pv_iadd t_L_law_196 ?_
  refine sc_ld (k := 5 * i + 1) t_L_law_197 (nI_add (5 * i) 1) (by omega) hX ?_
  refine pv_gV1 t_L_law_198 ml_L_13 mo_X10_feed hh_0 rfl (Nat.le_of_ble_eq_true rfl) c1 (Nat.le_of_ble_eq_true rfl) ?_
  refine pv_aload_n (i := 2) t_L_law_201 rfl rfl ?_
  refine pv_aload_n (i := 0) t_L_law_202 rfl rfl ?_
  refine pv_iload_n (i := 3) t_L_law_203 rfl rfl ?_
  refine pv_iconst (v := 1) t_L_law_204 zi_1 ?_
  refine pv_iadd t_L_law_205 ?_
  refine sc_ld (k := 5 * i + 1) t_L_law_206 (nI_add (5 * i) 1) (by omega) hX ?_
  refine pv_gV1 t_L_law_207 ml_L_17 mo_X11_feed hh_67 rfl (Nat.le_of_ble_eq_true rfl) c2 (Nat.le_of_ble_eq_true rfl) ?_
  exact pv_icmp_eq t_L_law_210 (fun _ => hk) (fun c => absurd rfl c)
theorem law_meadow {l : Launch} {X : zX} {i M : Nat} {ν : zH} (hi : 5 * i + 5 ≤ X.1) (hX : X.1 ≤ 2560) (hM : M < 1000) (h : WI M ν) : ∃ μ2, WI (M + 1) μ2 ∧ ∀ (r : Option zV) (S' : zS), zEv l X mi_L 31 1150 (lvL i) [] (zSH, μ2) 0 0 r S' → zEv l X mi_L 31 215 (lvL i) [] (zSH, ν) 0 0 r S' := by
  obtain ⟨a, μ1, μ2, c1, c2, c3⟩ := cl_meadow  (by omega) h l X
  refine ⟨μ2, c3, fun r S' hk => ?_⟩
  refine pv_aload_n (i := 1) t_L_law_215 rfl rfl ?_
  refine pv_gV0 t_L_law_216 ml_L_18 mo_X10_meadow hh_0 rfl (Nat.le_of_ble_eq_true rfl) c1 (Nat.le_of_ble_eq_true rfl) ?_
  refine pv_aload_n (i := 2) t_L_law_219 rfl rfl ?_
  refine pv_gV0 t_L_law_220 ml_L_22 mo_X11_meadow hh_67 rfl (Nat.le_of_ble_eq_true rfl) c2 (Nat.le_of_ble_eq_true rfl) ?_
  exact pv_icmp_eq t_L_law_223 (fun _ => hk) (fun c => absurd rfl c)
theorem law_fault {l : Launch} {X : zX} {i M : Nat} {ν : zH} (hi : 5 * i + 5 ≤ X.1) (hX : X.1 ≤ 2560) (hM : M < 1000) (h : WI M ν) : ∃ μ2, WI (M + 1) μ2 ∧ ∀ (r : Option zV) (S' : zS), zEv l X mi_L 31 1150 (lvL i) [] (zSH, μ2) 0 0 r S' → zEv l X mi_L 31 228 (lvL i) [] (zSH, ν) 0 0 r S' := by
  obtain ⟨a, μ1, μ2, c1, c2, c3⟩ := cl_fault  h l X
  refine ⟨μ2, c3, fun r S' hk => ?_⟩
  refine pv_aload_n (i := 1) t_L_law_228 rfl rfl ?_
  refine pv_gV0 t_L_law_229 ml_L_23 mo_X10_fault hh_0 rfl (Nat.le_of_ble_eq_true rfl) c1 (Nat.le_of_ble_eq_true rfl) ?_
  refine pv_aload_n (i := 2) t_L_law_232 rfl rfl ?_
  refine pv_gV0 t_L_law_233 ml_L_26 mo_X11_fault hh_67 rfl (Nat.le_of_ble_eq_true rfl) c2 (Nat.le_of_ble_eq_true rfl) ?_
  exact pv_icmp_eq t_L_law_236 (fun _ => hk) (fun c => absurd rfl c)
theorem law_told {l : Launch} {X : zX} {i M : Nat} {ν : zH} (hi : 5 * i + 5 ≤ X.1) (hX : X.1 ≤ 2560) (hM : M < 1000) (h : WI M ν) : ∃ μ2, WI (M + 1) μ2 ∧ ∀ (r : Option zV) (S' : zS), zEv l X mi_L 31 1150 (lvL i) [] (zSH, μ2) 0 0 r S' → zEv l X mi_L 31 241 (lvL i) [] (zSH, ν) 0 0 r S' := by
  obtain ⟨a, μ1, μ2, c1, c2, c3⟩ := cl_told (x := X.2 (5 * i + 1)) h l X
  refine ⟨μ2, c3, fun r S' hk => ?_⟩
  refine pv_aload_n (i := 1) t_L_law_241 rfl rfl ?_
  refine pv_aload_n (i := 0) t_L_law_242 rfl rfl ?_
  refine pv_iload_n (i := 3) t_L_law_243 rfl rfl ?_
  refine pv_iconst (v := 1) t_L_law_244 zi_1 ?_
  refine pv_iadd t_L_law_245 ?_
  refine sc_ld (k := 5 * i + 1) t_L_law_246 (nI_add (5 * i) 1) (by omega) hX ?_
  refine pv_gV1 t_L_law_247 ml_L_27 mo_X10_told hh_0 rfl (Nat.le_of_ble_eq_true rfl) c1 (Nat.le_of_ble_eq_true rfl) ?_
  refine pv_aload_n (i := 2) t_L_law_250 rfl rfl ?_
  refine pv_aload_n (i := 0) t_L_law_251 rfl rfl ?_
  refine pv_iload_n (i := 3) t_L_law_252 rfl rfl ?_
  refine pv_iconst (v := 1) t_L_law_253 zi_1 ?_
  refine pv_iadd t_L_law_254 ?_
  refine sc_ld (k := 5 * i + 1) t_L_law_255 (nI_add (5 * i) 1) (by omega) hX ?_
  refine pv_gV1 t_L_law_256 ml_L_30 mo_X11_told hh_67 rfl (Nat.le_of_ble_eq_true rfl) c2 (Nat.le_of_ble_eq_true rfl) ?_
  exact pv_icmp_eq t_L_law_259 (fun _ => hk) (fun c => absurd rfl c)
theorem law_duellist {l : Launch} {X : zX} {i M : Nat} {ν : zH} (hi : 5 * i + 5 ≤ X.1) (hX : X.1 ≤ 2560) (hM : M < 1000) (h : WI M ν) : ∃ μ2, WI (M + 1) μ2 ∧ ∀ (r : Option zV) (S' : zS), zEv l X mi_L 31 1150 (lvL i) [] (zSH, μ2) 0 0 r S' → zEv l X mi_L 31 264 (lvL i) [] (zSH, ν) 0 0 r S' := by
  obtain ⟨a, μ1, μ2, c1, c2, c3⟩ := cl_duellist (x := X.2 (5 * i + 1)) (w := X.2 (5 * i + 2)) h l X
  refine ⟨μ2, c3, fun r S' hk => ?_⟩
  refine pv_aload_n (i := 1) t_L_law_264 rfl rfl ?_
  refine pv_aload_n (i := 0) t_L_law_265 rfl rfl ?_
  refine pv_iload_n (i := 3) t_L_law_266 rfl rfl ?_
  refine pv_iconst (v := 1) t_L_law_267 zi_1 ?_
  refine pv_iadd t_L_law_268 ?_
  refine sc_ld (k := 5 * i + 1) t_L_law_269 (nI_add (5 * i) 1) (by omega) hX ?_
  refine pv_aload_n (i := 0) t_L_law_270 rfl rfl ?_
  refine pv_iload_n (i := 3) t_L_law_271 rfl rfl ?_
  refine pv_iconst (v := 2) t_L_law_272 zi_2 ?_
  refine pv_iadd t_L_law_273 ?_
  refine sc_ld (k := 5 * i + 2) t_L_law_274 (nI_add (5 * i) 2) (by omega) hX ?_
  refine pv_gV2 t_L_law_275 ml_L_31 mo_X10_duellist hh_0 rfl (Nat.le_of_ble_eq_true rfl) c1 (Nat.le_of_ble_eq_true rfl) ?_
  refine pv_aload_n (i := 2) t_L_law_278 rfl rfl ?_
  refine pv_aload_n (i := 0) t_L_law_279 rfl rfl ?_
  refine pv_iload_n (i := 3) t_L_law_280 rfl rfl ?_
  refine pv_iconst (v := 1) t_L_law_281 zi_1 ?_
  refine pv_iadd t_L_law_282 ?_
  refine sc_ld (k := 5 * i + 1) t_L_law_283 (nI_add (5 * i) 1) (by omega) hX ?_
  refine pv_aload_n (i := 0) t_L_law_284 rfl rfl ?_
  refine pv_iload_n (i := 3) t_L_law_285 rfl rfl ?_
  refine pv_iconst (v := 2) t_L_law_286 zi_2 ?_
  refine pv_iadd t_L_law_287 ?_
  refine sc_ld (k := 5 * i + 2) t_L_law_288 (nI_add (5 * i) 2) (by omega) hX ?_
  refine pv_gV2 t_L_law_289 ml_L_35 mo_X11_duellist hh_67 rfl (Nat.le_of_ble_eq_true rfl) c2 (Nat.le_of_ble_eq_true rfl) ?_
  exact pv_icmp_eq t_L_law_292 (fun _ => hk) (fun c => absurd rfl c)
theorem law_compliment {l : Launch} {X : zX} {i M : Nat} {ν : zH} (hi : 5 * i + 5 ≤ X.1) (hX : X.1 ≤ 2560) (hM : M < 1000) (h : WI M ν) : ∃ μ2, WI (M + 1) μ2 ∧ ∀ (r : Option zV) (S' : zS), zEv l X mi_L 31 1150 (lvL i) [] (zSH, μ2) 0 0 r S' → zEv l X mi_L 31 297 (lvL i) [] (zSH, ν) 0 0 r S' := by
  obtain ⟨a, μ1, μ2, c1, c2, c3⟩ := cl_compliment (x := X.2 (5 * i + 1)) (w := X.2 (5 * i + 2)) h l X
  refine ⟨μ2, c3, fun r S' hk => ?_⟩
  refine pv_aload_n (i := 1) t_L_law_297 rfl rfl ?_
  refine pv_aload_n (i := 0) t_L_law_298 rfl rfl ?_
  refine pv_iload_n (i := 3) t_L_law_299 rfl rfl ?_
  refine pv_iconst (v := 1) t_L_law_300 zi_1 ?_
  refine pv_iadd t_L_law_301 ?_
  refine sc_ld (k := 5 * i + 1) t_L_law_302 (nI_add (5 * i) 1) (by omega) hX ?_
  refine pv_aload_n (i := 0) t_L_law_303 rfl rfl ?_
  refine pv_iload_n (i := 3) t_L_law_304 rfl rfl ?_
  refine pv_iconst (v := 2) t_L_law_305 zi_2 ?_
  refine pv_iadd t_L_law_306 ?_
  refine sc_ld (k := 5 * i + 2) t_L_law_307 (nI_add (5 * i) 2) (by omega) hX ?_
  refine pv_gV2 t_L_law_308 ml_L_36 mo_X10_compliment hh_0 rfl (Nat.le_of_ble_eq_true rfl) c1 (Nat.le_of_ble_eq_true rfl) ?_
  refine pv_aload_n (i := 2) t_L_law_311 rfl rfl ?_
  refine pv_aload_n (i := 0) t_L_law_312 rfl rfl ?_
  refine pv_iload_n (i := 3) t_L_law_313 rfl rfl ?_
  refine pv_iconst (v := 1) t_L_law_314 zi_1 ?_
  refine pv_iadd t_L_law_315 ?_
  refine sc_ld (k := 5 * i + 1) t_L_law_316 (nI_add (5 * i) 1) (by omega) hX ?_
  refine pv_aload_n (i := 0) t_L_law_317 rfl rfl ?_
  refine pv_iload_n (i := 3) t_L_law_318 rfl rfl ?_
  refine pv_iconst (v := 2) t_L_law_319 zi_2 ?_
  refine pv_iadd t_L_law_320 ?_
  refine sc_ld (k := 5 * i + 2) t_L_law_321 (nI_add (5 * i) 2) (by omega) hX ?_
  refine pv_gV2 t_L_law_322 ml_L_39 mo_X11_compliment hh_67 rfl (Nat.le_of_ble_eq_true rfl) c2 (Nat.le_of_ble_eq_true rfl) ?_
  exact pv_icmp_eq t_L_law_325 (fun _ => hk) (fun c => absurd rfl c)
theorem law_truth {l : Launch} {X : zX} {i M : Nat} {ν : zH} (hi : 5 * i + 5 ≤ X.1) (hX : X.1 ≤ 2560) (hM : M < 1000) (h : WI M ν) : ∃ μ2, WI (M + 1) μ2 ∧ ∀ (r : Option zV) (S' : zS), zEv l X mi_L 31 1150 (lvL i) [] (zSH, μ2) 0 0 r S' → zEv l X mi_L 31 330 (lvL i) [] (zSH, ν) 0 0 r S' := by
  obtain ⟨a, μ1, μ2, c1, c2, c3⟩ := cl_truth (x := X.2 (5 * i + 1)) (y := X.2 (5 * i + 2)) h l X
  refine ⟨μ2, c3, fun r S' hk => ?_⟩
  refine pv_aload_n (i := 1) t_L_law_330 rfl rfl ?_
  refine pv_aload_n (i := 0) t_L_law_331 rfl rfl ?_
  refine pv_iload_n (i := 3) t_L_law_332 rfl rfl ?_
  refine pv_iconst (v := 1) t_L_law_333 zi_1 ?_
  refine pv_iadd t_L_law_334 ?_
  refine sc_ld (k := 5 * i + 1) t_L_law_335 (nI_add (5 * i) 1) (by omega) hX ?_
  refine pv_aload_n (i := 0) t_L_law_336 rfl rfl ?_
  refine pv_iload_n (i := 3) t_L_law_337 rfl rfl ?_
  refine pv_iconst (v := 2) t_L_law_338 zi_2 ?_
  refine pv_iadd t_L_law_339 ?_
  refine sc_ld (k := 5 * i + 2) t_L_law_340 (nI_add (5 * i) 2) (by omega) hX ?_
  refine pv_gV2 t_L_law_341 ml_L_40 mo_X10_truth hh_0 rfl (Nat.le_of_ble_eq_true rfl) c1 (Nat.le_of_ble_eq_true rfl) ?_
  refine pv_aload_n (i := 2) t_L_law_344 rfl rfl ?_
  refine pv_aload_n (i := 0) t_L_law_345 rfl rfl ?_
  refine pv_iload_n (i := 3) t_L_law_346 rfl rfl ?_
  refine pv_iconst (v := 1) t_L_law_347 zi_1 ?_
  refine pv_iadd t_L_law_348 ?_
  refine sc_ld (k := 5 * i + 1) t_L_law_349 (nI_add (5 * i) 1) (by omega) hX ?_
  refine pv_aload_n (i := 0) t_L_law_350 rfl rfl ?_
  refine pv_iload_n (i := 3) t_L_law_351 rfl rfl ?_
  refine pv_iconst (v := 2) t_L_law_352 zi_2 ?_
  refine pv_iadd t_L_law_353 ?_
  refine sc_ld (k := 5 * i + 2) t_L_law_354 (nI_add (5 * i) 2) (by omega) hX ?_
  refine pv_gV2 t_L_law_355 ml_L_43 mo_X11_truth hh_67 rfl (Nat.le_of_ble_eq_true rfl) c2 (Nat.le_of_ble_eq_true rfl) ?_
  exact pv_icmp_eq t_L_law_358 (fun _ => hk) (fun c => absurd rfl c)
theorem law_effect {l : Launch} {X : zX} {i M : Nat} {ν : zH} (hi : 5 * i + 5 ≤ X.1) (hX : X.1 ≤ 2560) (hM : M < 1000) (h : WI M ν) : ∃ μ2, WI (M + 1) μ2 ∧ ∀ (r : Option zV) (S' : zS), zEv l X mi_L 31 1150 (lvL i) [] (zSH, μ2) 0 0 r S' → zEv l X mi_L 31 363 (lvL i) [] (zSH, ν) 0 0 r S' := by
  obtain ⟨a, μ1, μ2, c1, c2, c3⟩ := cl_effect (x := X.2 (5 * i + 1)) (y := X.2 (5 * i + 2)) (by omega) h l X
  refine ⟨μ2, c3, fun r S' hk => ?_⟩
  refine pv_aload_n (i := 1) t_L_law_363 rfl rfl ?_
  refine pv_aload_n (i := 0) t_L_law_364 rfl rfl ?_
  refine pv_iload_n (i := 3) t_L_law_365 rfl rfl ?_
  refine pv_iconst (v := 1) t_L_law_366 zi_1 ?_
  refine pv_iadd t_L_law_367 ?_
  refine sc_ld (k := 5 * i + 1) t_L_law_368 (nI_add (5 * i) 1) (by omega) hX ?_
  refine pv_aload_n (i := 0) t_L_law_369 rfl rfl ?_
  refine pv_iload_n (i := 3) t_L_law_370 rfl rfl ?_
  refine pv_iconst (v := 2) t_L_law_371 zi_2 ?_
  refine pv_iadd t_L_law_372 ?_
  refine sc_ld (k := 5 * i + 2) t_L_law_373 (nI_add (5 * i) 2) (by omega) hX ?_
  refine pv_gV2 t_L_law_374 ml_L_44 mo_X10_effect hh_0 rfl (Nat.le_of_ble_eq_true rfl) c1 (Nat.le_of_ble_eq_true rfl) ?_
  refine pv_aload_n (i := 2) t_L_law_377 rfl rfl ?_
  refine pv_aload_n (i := 0) t_L_law_378 rfl rfl ?_
  refine pv_iload_n (i := 3) t_L_law_379 rfl rfl ?_
  refine pv_iconst (v := 1) t_L_law_380 zi_1 ?_
  refine pv_iadd t_L_law_381 ?_
  refine sc_ld (k := 5 * i + 1) t_L_law_382 (nI_add (5 * i) 1) (by omega) hX ?_
  refine pv_aload_n (i := 0) t_L_law_383 rfl rfl ?_
  refine pv_iload_n (i := 3) t_L_law_384 rfl rfl ?_
  refine pv_iconst (v := 2) t_L_law_385 zi_2 ?_
  refine pv_iadd t_L_law_386 ?_
  refine sc_ld (k := 5 * i + 2) t_L_law_387 (nI_add (5 * i) 2) (by omega) hX ?_
  refine pv_gV2 t_L_law_388 ml_L_47 mo_X11_effect hh_67 rfl (Nat.le_of_ble_eq_true rfl) c2 (Nat.le_of_ble_eq_true rfl) ?_
  exact pv_icmp_eq t_L_law_391 (fun _ => hk) (fun c => absurd rfl c)
theorem law_duel {l : Launch} {X : zX} {i M : Nat} {ν : zH} (hi : 5 * i + 5 ≤ X.1) (hX : X.1 ≤ 2560) (hM : M < 1000) (h : WI M ν) : ∃ μ2, WI (M + 1) μ2 ∧ ∀ (r : Option zV) (S' : zS), zEv l X mi_L 31 1150 (lvL i) [] (zSH, μ2) 0 0 r S' → zEv l X mi_L 31 396 (lvL i) [] (zSH, ν) 0 0 r S' := by
  obtain ⟨a, μ1, μ2, c1, c2, c3⟩ := cl_duel (x := X.2 (5 * i + 1)) (y := X.2 (5 * i + 2)) h l X
  refine ⟨μ2, c3, fun r S' hk => ?_⟩
  refine pv_aload_n (i := 1) t_L_law_396 rfl rfl ?_
  refine pv_aload_n (i := 0) t_L_law_397 rfl rfl ?_
  refine pv_iload_n (i := 3) t_L_law_398 rfl rfl ?_
  refine pv_iconst (v := 1) t_L_law_399 zi_1 ?_
  refine pv_iadd t_L_law_400 ?_
  refine sc_ld (k := 5 * i + 1) t_L_law_401 (nI_add (5 * i) 1) (by omega) hX ?_
  refine pv_aload_n (i := 0) t_L_law_402 rfl rfl ?_
  refine pv_iload_n (i := 3) t_L_law_403 rfl rfl ?_
  refine pv_iconst (v := 2) t_L_law_404 zi_2 ?_
  refine pv_iadd t_L_law_405 ?_
  refine sc_ld (k := 5 * i + 2) t_L_law_406 (nI_add (5 * i) 2) (by omega) hX ?_
  refine pv_gV2 t_L_law_407 ml_L_48 mo_X10_duel hh_0 rfl (Nat.le_of_ble_eq_true rfl) c1 (Nat.le_of_ble_eq_true rfl) ?_
  refine pv_aload_n (i := 2) t_L_law_410 rfl rfl ?_
  refine pv_aload_n (i := 0) t_L_law_411 rfl rfl ?_
  refine pv_iload_n (i := 3) t_L_law_412 rfl rfl ?_
  refine pv_iconst (v := 1) t_L_law_413 zi_1 ?_
  refine pv_iadd t_L_law_414 ?_
  refine sc_ld (k := 5 * i + 1) t_L_law_415 (nI_add (5 * i) 1) (by omega) hX ?_
  refine pv_aload_n (i := 0) t_L_law_416 rfl rfl ?_
  refine pv_iload_n (i := 3) t_L_law_417 rfl rfl ?_
  refine pv_iconst (v := 2) t_L_law_418 zi_2 ?_
  refine pv_iadd t_L_law_419 ?_
  refine sc_ld (k := 5 * i + 2) t_L_law_420 (nI_add (5 * i) 2) (by omega) hX ?_
  refine pv_gV2 t_L_law_421 ml_L_51 mo_X11_duel hh_67 rfl (Nat.le_of_ble_eq_true rfl) c2 (Nat.le_of_ble_eq_true rfl) ?_
  exact pv_icmp_eq t_L_law_424 (fun _ => hk) (fun c => absurd rfl c)
theorem law_say {l : Launch} {X : zX} {i M : Nat} {ν : zH} (hi : 5 * i + 5 ≤ X.1) (hX : X.1 ≤ 2560) (hM : M < 1000) (h : WI M ν) : ∃ μ2, WI (M + 1) μ2 ∧ ∀ (r : Option zV) (S' : zS), zEv l X mi_L 31 1150 (lvL i) [] (zSH, μ2) 0 0 r S' → zEv l X mi_L 31 429 (lvL i) [] (zSH, ν) 0 0 r S' := by
  obtain ⟨a, μ1, μ2, c1, c2, c3⟩ := cl_say (x := X.2 (5 * i + 1)) (by omega) h l X
  refine ⟨μ2, c3, fun r S' hk => ?_⟩
  refine pv_aload_n (i := 1) t_L_law_429 rfl rfl ?_
  refine pv_aload_n (i := 0) t_L_law_430 rfl rfl ?_
  refine pv_iload_n (i := 3) t_L_law_431 rfl rfl ?_
  refine pv_iconst (v := 1) t_L_law_432 zi_1 ?_
  refine pv_iadd t_L_law_433 ?_
  refine sc_ld (k := 5 * i + 1) t_L_law_434 (nI_add (5 * i) 1) (by omega) hX ?_
  refine pv_gV1 t_L_law_435 ml_L_52 mo_X10_say hh_0 rfl (Nat.le_of_ble_eq_true rfl) c1 (Nat.le_of_ble_eq_true rfl) ?_
  refine pv_aload_n (i := 2) t_L_law_438 rfl rfl ?_
  refine pv_aload_n (i := 0) t_L_law_439 rfl rfl ?_
  refine pv_iload_n (i := 3) t_L_law_440 rfl rfl ?_
  refine pv_iconst (v := 1) t_L_law_441 zi_1 ?_
  refine pv_iadd t_L_law_442 ?_
  refine sc_ld (k := 5 * i + 1) t_L_law_443 (nI_add (5 * i) 1) (by omega) hX ?_
  refine pv_gV1 t_L_law_444 ml_L_55 mo_X11_say hh_67 rfl (Nat.le_of_ble_eq_true rfl) c2 (Nat.le_of_ble_eq_true rfl) ?_
  exact pv_icmp_eq t_L_law_447 (fun _ => hk) (fun c => absurd rfl c)
theorem law_pass {l : Launch} {X : zX} {i M : Nat} {ν : zH} (hi : 5 * i + 5 ≤ X.1) (hX : X.1 ≤ 2560) (hM : M < 1000) (h : WI M ν) : ∃ μ2, WI (M + 1) μ2 ∧ ∀ (r : Option zV) (S' : zS), zEv l X mi_L 31 1150 (lvL i) [] (zSH, μ2) 0 0 r S' → zEv l X mi_L 31 452 (lvL i) [] (zSH, ν) 0 0 r S' := by
  obtain ⟨a, μ1, μ2, c1, c2, c3⟩ := cl_pass  (by omega) h l X
  refine ⟨μ2, c3, fun r S' hk => ?_⟩
  refine pv_aload_n (i := 1) t_L_law_452 rfl rfl ?_
  refine pv_gV0 t_L_law_453 ml_L_56 mo_X10_pass hh_0 rfl (Nat.le_of_ble_eq_true rfl) c1 (Nat.le_of_ble_eq_true rfl) ?_
  refine pv_aload_n (i := 2) t_L_law_456 rfl rfl ?_
  refine pv_gV0 t_L_law_457 ml_L_59 mo_X11_pass hh_67 rfl (Nat.le_of_ble_eq_true rfl) c2 (Nat.le_of_ble_eq_true rfl) ?_
  exact pv_icmp_eq t_L_law_460 (fun _ => hk) (fun c => absurd rfl c)
theorem law_sorr {l : Launch} {X : zX} {i M : Nat} {ν : zH} (hi : 5 * i + 5 ≤ X.1) (hX : X.1 ≤ 2560) (hM : M < 1000) (h : WI M ν) : ∃ μ2, WI (M + 1) μ2 ∧ ∀ (r : Option zV) (S' : zS), zEv l X mi_L 31 1150 (lvL i) [] (zSH, μ2) 0 0 r S' → zEv l X mi_L 31 465 (lvL i) [] (zSH, ν) 0 0 r S' := by
  obtain ⟨a, μ1, μ2, c1, c2, c3⟩ := cl_sorr  (by omega) h l X
  refine ⟨μ2, c3, fun r S' hk => ?_⟩
  refine pv_aload_n (i := 1) t_L_law_465 rfl rfl ?_
  refine pv_gV0 t_L_law_466 ml_L_60 mo_X10_sorr hh_0 rfl (Nat.le_of_ble_eq_true rfl) c1 (Nat.le_of_ble_eq_true rfl) ?_
  refine pv_aload_n (i := 2) t_L_law_469 rfl rfl ?_
  refine pv_gV0 t_L_law_470 ml_L_63 mo_X11_sorr hh_67 rfl (Nat.le_of_ble_eq_true rfl) c2 (Nat.le_of_ble_eq_true rfl) ?_
  exact pv_icmp_eq t_L_law_473 (fun _ => hk) (fun c => absurd rfl c)
theorem law_undo {l : Launch} {X : zX} {i M : Nat} {ν : zH} (hi : 5 * i + 5 ≤ X.1) (hX : X.1 ≤ 2560) (hM : M < 1000) (h : WI M ν) : ∃ μ2, WI (M + 1) μ2 ∧ ∀ (r : Option zV) (S' : zS), zEv l X mi_L 31 1150 (lvL i) [] (zSH, μ2) 0 0 r S' → zEv l X mi_L 31 478 (lvL i) [] (zSH, ν) 0 0 r S' := by
  obtain ⟨a, μ1, μ2, c1, c2, c3⟩ := cl_undo (x := X.2 (5 * i + 1)) (by omega) h l X
  refine ⟨μ2, c3, fun r S' hk => ?_⟩
  refine pv_aload_n (i := 1) t_L_law_478 rfl rfl ?_
  refine pv_aload_n (i := 0) t_L_law_479 rfl rfl ?_
  refine pv_iload_n (i := 3) t_L_law_480 rfl rfl ?_
  refine pv_iconst (v := 1) t_L_law_481 zi_1 ?_
  refine pv_iadd t_L_law_482 ?_
  refine sc_ld (k := 5 * i + 1) t_L_law_483 (nI_add (5 * i) 1) (by omega) hX ?_
  refine pv_gV1 t_L_law_484 ml_L_64 mo_X10_undo hh_0 rfl (Nat.le_of_ble_eq_true rfl) c1 (Nat.le_of_ble_eq_true rfl) ?_
  refine pv_aload_n (i := 2) t_L_law_487 rfl rfl ?_
  refine pv_aload_n (i := 0) t_L_law_488 rfl rfl ?_
  refine pv_iload_n (i := 3) t_L_law_489 rfl rfl ?_
  refine pv_iconst (v := 1) t_L_law_490 zi_1 ?_
  refine pv_iadd t_L_law_491 ?_
  refine sc_ld (k := 5 * i + 1) t_L_law_492 (nI_add (5 * i) 1) (by omega) hX ?_
  refine pv_gV1 t_L_law_493 ml_L_67 mo_X11_undo hh_67 rfl (Nat.le_of_ble_eq_true rfl) c2 (Nat.le_of_ble_eq_true rfl) ?_
  exact pv_icmp_eq t_L_law_496 (fun _ => hk) (fun c => absurd rfl c)
theorem law_act {l : Launch} {X : zX} {i M : Nat} {ν : zH} (hi : 5 * i + 5 ≤ X.1) (hX : X.1 ≤ 2560) (hM : M < 1000) (h : WI M ν) : ∃ μ2, WI (M + 1) μ2 ∧ ∀ (r : Option zV) (S' : zS), zEv l X mi_L 31 1150 (lvL i) [] (zSH, μ2) 0 0 r S' → zEv l X mi_L 31 501 (lvL i) [] (zSH, ν) 0 0 r S' := by
  obtain ⟨a, μ1, μ2, c1, c2, c3⟩ := cl_act (x := X.2 (5 * i + 1)) (y := X.2 (5 * i + 2)) h l X
  refine ⟨μ2, c3, fun r S' hk => ?_⟩
  refine pv_aload_n (i := 1) t_L_law_501 rfl rfl ?_
  refine pv_aload_n (i := 0) t_L_law_502 rfl rfl ?_
  refine pv_iload_n (i := 3) t_L_law_503 rfl rfl ?_
  refine pv_iconst (v := 1) t_L_law_504 zi_1 ?_
  refine pv_iadd t_L_law_505 ?_
  refine sc_ld (k := 5 * i + 1) t_L_law_506 (nI_add (5 * i) 1) (by omega) hX ?_
  refine pv_aload_n (i := 0) t_L_law_507 rfl rfl ?_
  refine pv_iload_n (i := 3) t_L_law_508 rfl rfl ?_
  refine pv_iconst (v := 2) t_L_law_509 zi_2 ?_
  refine pv_iadd t_L_law_510 ?_
  refine sc_ld (k := 5 * i + 2) t_L_law_511 (nI_add (5 * i) 2) (by omega) hX ?_
  refine pv_gV2 t_L_law_512 ml_L_68 mo_X10_act hh_0 rfl (Nat.le_of_ble_eq_true rfl) c1 (Nat.le_of_ble_eq_true rfl) ?_
  refine pv_aload_n (i := 2) t_L_law_515 rfl rfl ?_
  refine pv_aload_n (i := 0) t_L_law_516 rfl rfl ?_
  refine pv_iload_n (i := 3) t_L_law_517 rfl rfl ?_
  refine pv_iconst (v := 1) t_L_law_518 zi_1 ?_
  refine pv_iadd t_L_law_519 ?_
  refine sc_ld (k := 5 * i + 1) t_L_law_520 (nI_add (5 * i) 1) (by omega) hX ?_
  refine pv_aload_n (i := 0) t_L_law_521 rfl rfl ?_
  refine pv_iload_n (i := 3) t_L_law_522 rfl rfl ?_
  refine pv_iconst (v := 2) t_L_law_523 zi_2 ?_
  refine pv_iadd t_L_law_524 ?_
  refine sc_ld (k := 5 * i + 2) t_L_law_525 (nI_add (5 * i) 2) (by omega) hX ?_
  refine pv_gV2 t_L_law_526 ml_L_71 mo_X11_act hh_67 rfl (Nat.le_of_ble_eq_true rfl) c2 (Nat.le_of_ble_eq_true rfl) ?_
  exact pv_icmp_eq t_L_law_529 (fun _ => hk) (fun c => absurd rfl c)
theorem law_vanity {l : Launch} {X : zX} {i M : Nat} {ν : zH} (hi : 5 * i + 5 ≤ X.1) (hX : X.1 ≤ 2560) (hM : M < 1000) (h : WI M ν) : ∃ μ2, WI (M + 1) μ2 ∧ ∀ (r : Option zV) (S' : zS), zEv l X mi_L 31 1150 (lvL i) [] (zSH, μ2) 0 0 r S' → zEv l X mi_L 31 534 (lvL i) [] (zSH, ν) 0 0 r S' := by
  obtain ⟨a, μ1, μ2, c1, c2, c3⟩ := cl_vanity (x := X.2 (5 * i + 1)) (y := X.2 (5 * i + 2)) (v := X.2 (5 * i + 3)) h l X
  refine ⟨μ2, c3, fun r S' hk => ?_⟩
  refine pv_aload_n (i := 1) t_L_law_534 rfl rfl ?_
  refine pv_aload_n (i := 0) t_L_law_535 rfl rfl ?_
  refine pv_iload_n (i := 3) t_L_law_536 rfl rfl ?_
  refine pv_iconst (v := 1) t_L_law_537 zi_1 ?_
  refine pv_iadd t_L_law_538 ?_
  refine sc_ld (k := 5 * i + 1) t_L_law_539 (nI_add (5 * i) 1) (by omega) hX ?_
  refine pv_aload_n (i := 0) t_L_law_540 rfl rfl ?_
  refine pv_iload_n (i := 3) t_L_law_541 rfl rfl ?_
  refine pv_iconst (v := 2) t_L_law_542 zi_2 ?_
  refine pv_iadd t_L_law_543 ?_
  refine sc_ld (k := 5 * i + 2) t_L_law_544 (nI_add (5 * i) 2) (by omega) hX ?_
  refine pv_aload_n (i := 0) t_L_law_545 rfl rfl ?_
  refine pv_iload_n (i := 3) t_L_law_546 rfl rfl ?_
  refine pv_iconst (v := 3) t_L_law_547 zi_3 ?_
  refine pv_iadd t_L_law_548 ?_
  refine sc_ld (k := 5 * i + 3) t_L_law_549 (nI_add (5 * i) 3) (by omega) hX ?_
  refine pv_gV3 t_L_law_550 ml_L_72 mo_X10_vanity hh_0 rfl (Nat.le_of_ble_eq_true rfl) c1 (Nat.le_of_ble_eq_true rfl) ?_
  refine pv_aload_n (i := 2) t_L_law_553 rfl rfl ?_
  refine pv_aload_n (i := 0) t_L_law_554 rfl rfl ?_
  refine pv_iload_n (i := 3) t_L_law_555 rfl rfl ?_
  refine pv_iconst (v := 1) t_L_law_556 zi_1 ?_
  refine pv_iadd t_L_law_557 ?_
  refine sc_ld (k := 5 * i + 1) t_L_law_558 (nI_add (5 * i) 1) (by omega) hX ?_
  refine pv_aload_n (i := 0) t_L_law_559 rfl rfl ?_
  refine pv_iload_n (i := 3) t_L_law_560 rfl rfl ?_
  refine pv_iconst (v := 2) t_L_law_561 zi_2 ?_
  refine pv_iadd t_L_law_562 ?_
  refine sc_ld (k := 5 * i + 2) t_L_law_563 (nI_add (5 * i) 2) (by omega) hX ?_
  refine pv_aload_n (i := 0) t_L_law_564 rfl rfl ?_
  refine pv_iload_n (i := 3) t_L_law_565 rfl rfl ?_
  refine pv_iconst (v := 3) t_L_law_566 zi_3 ?_
  refine pv_iadd t_L_law_567 ?_
  refine sc_ld (k := 5 * i + 3) t_L_law_568 (nI_add (5 * i) 3) (by omega) hX ?_
  refine pv_gV3 t_L_law_569 ml_L_76 mo_X11_vanity hh_67 rfl (Nat.le_of_ble_eq_true rfl) c2 (Nat.le_of_ble_eq_true rfl) ?_
  exact pv_icmp_eq t_L_law_572 (fun _ => hk) (fun c => absurd rfl c)
theorem law_drift {l : Launch} {X : zX} {i M : Nat} {ν : zH} (hi : 5 * i + 5 ≤ X.1) (hX : X.1 ≤ 2560) (hM : M < 1000) (h : WI M ν) : ∃ μ2, WI (M + 1) μ2 ∧ ∀ (r : Option zV) (S' : zS), zEv l X mi_L 31 1150 (lvL i) [] (zSH, μ2) 0 0 r S' → zEv l X mi_L 31 577 (lvL i) [] (zSH, ν) 0 0 r S' := by
  obtain ⟨a, μ1, μ2, c1, c2, c3⟩ := cl_drift (x := X.2 (5 * i + 1)) (by omega) h l X
  refine ⟨μ2, c3, fun r S' hk => ?_⟩
  refine pv_aload_n (i := 1) t_L_law_577 rfl rfl ?_
  refine pv_aload_n (i := 0) t_L_law_578 rfl rfl ?_
  refine pv_iload_n (i := 3) t_L_law_579 rfl rfl ?_
  refine pv_iconst (v := 1) t_L_law_580 zi_1 ?_
  refine pv_iadd t_L_law_581 ?_
  refine sc_ld (k := 5 * i + 1) t_L_law_582 (nI_add (5 * i) 1) (by omega) hX ?_
  refine pv_gV1 t_L_law_583 ml_L_77 mo_X10_drift hh_0 rfl (Nat.le_of_ble_eq_true rfl) c1 (Nat.le_of_ble_eq_true rfl) ?_
  refine pv_aload_n (i := 2) t_L_law_586 rfl rfl ?_
  refine pv_aload_n (i := 0) t_L_law_587 rfl rfl ?_
  refine pv_iload_n (i := 3) t_L_law_588 rfl rfl ?_
  refine pv_iconst (v := 1) t_L_law_589 zi_1 ?_
  refine pv_iadd t_L_law_590 ?_
  refine sc_ld (k := 5 * i + 1) t_L_law_591 (nI_add (5 * i) 1) (by omega) hX ?_
  refine pv_gV1 t_L_law_592 ml_L_80 mo_X11_drift hh_67 rfl (Nat.le_of_ble_eq_true rfl) c2 (Nat.le_of_ble_eq_true rfl) ?_
  exact pv_icmp_eq t_L_law_595 (fun _ => hk) (fun c => absurd rfl c)
theorem law_best {l : Launch} {X : zX} {i M : Nat} {ν : zH} (hi : 5 * i + 5 ≤ X.1) (hX : X.1 ≤ 2560) (hM : M < 1000) (h : WI M ν) : ∃ μ2, WI (M + 1) μ2 ∧ ∀ (r : Option zV) (S' : zS), zEv l X mi_L 31 1150 (lvL i) [] (zSH, μ2) 0 0 r S' → zEv l X mi_L 31 600 (lvL i) [] (zSH, ν) 0 0 r S' := by
  obtain ⟨a, μ1, μ2, c1, c2, c3⟩ := cl_best (x := X.2 (5 * i + 1)) (by omega) h l X
  refine ⟨μ2, c3, fun r S' hk => ?_⟩
  refine pv_aload_n (i := 1) t_L_law_600 rfl rfl ?_
  refine pv_aload_n (i := 0) t_L_law_601 rfl rfl ?_
  refine pv_iload_n (i := 3) t_L_law_602 rfl rfl ?_
  refine pv_iconst (v := 1) t_L_law_603 zi_1 ?_
  refine pv_iadd t_L_law_604 ?_
  refine sc_ld (k := 5 * i + 1) t_L_law_605 (nI_add (5 * i) 1) (by omega) hX ?_
  refine pv_gV1 t_L_law_606 ml_L_81 mo_X10_best hh_0 rfl (Nat.le_of_ble_eq_true rfl) c1 (Nat.le_of_ble_eq_true rfl) ?_
  refine pv_aload_n (i := 2) t_L_law_609 rfl rfl ?_
  refine pv_aload_n (i := 0) t_L_law_610 rfl rfl ?_
  refine pv_iload_n (i := 3) t_L_law_611 rfl rfl ?_
  refine pv_iconst (v := 1) t_L_law_612 zi_1 ?_
  refine pv_iadd t_L_law_613 ?_
  refine sc_ld (k := 5 * i + 1) t_L_law_614 (nI_add (5 * i) 1) (by omega) hX ?_
  refine pv_gV1 t_L_law_615 ml_L_84 mo_X11_best hh_67 rfl (Nat.le_of_ble_eq_true rfl) c2 (Nat.le_of_ble_eq_true rfl) ?_
  exact pv_icmp_eq t_L_law_618 (fun _ => hk) (fun c => absurd rfl c)
theorem law_greatest {l : Launch} {X : zX} {i M : Nat} {ν : zH} (hi : 5 * i + 5 ≤ X.1) (hX : X.1 ≤ 2560) (hM : M < 1000) (h : WI M ν) : ∃ μ2, WI (M + 1) μ2 ∧ ∀ (r : Option zV) (S' : zS), zEv l X mi_L 31 1150 (lvL i) [] (zSH, μ2) 0 0 r S' → zEv l X mi_L 31 623 (lvL i) [] (zSH, ν) 0 0 r S' := by
  obtain ⟨a, μ1, μ2, c1, c2, c3⟩ := cl_greatest (x := X.2 (5 * i + 1)) (by omega) h l X
  refine ⟨μ2, c3, fun r S' hk => ?_⟩
  refine pv_aload_n (i := 1) t_L_law_623 rfl rfl ?_
  refine pv_aload_n (i := 0) t_L_law_624 rfl rfl ?_
  refine pv_iload_n (i := 3) t_L_law_625 rfl rfl ?_
  refine pv_iconst (v := 1) t_L_law_626 zi_1 ?_
  refine pv_iadd t_L_law_627 ?_
  refine sc_ld (k := 5 * i + 1) t_L_law_628 (nI_add (5 * i) 1) (by omega) hX ?_
  refine pv_gV1 t_L_law_629 ml_L_85 mo_X10_greatest hh_0 rfl (Nat.le_of_ble_eq_true rfl) c1 (Nat.le_of_ble_eq_true rfl) ?_
  refine pv_aload_n (i := 2) t_L_law_632 rfl rfl ?_
  refine pv_aload_n (i := 0) t_L_law_633 rfl rfl ?_
  refine pv_iload_n (i := 3) t_L_law_634 rfl rfl ?_
  refine pv_iconst (v := 1) t_L_law_635 zi_1 ?_
  refine pv_iadd t_L_law_636 ?_
  refine sc_ld (k := 5 * i + 1) t_L_law_637 (nI_add (5 * i) 1) (by omega) hX ?_
  refine pv_gV1 t_L_law_638 ml_L_88 mo_X11_greatest hh_67 rfl (Nat.le_of_ble_eq_true rfl) c2 (Nat.le_of_ble_eq_true rfl) ?_
  exact pv_icmp_eq t_L_law_641 (fun _ => hk) (fun c => absurd rfl c)
theorem law_harden {l : Launch} {X : zX} {i M : Nat} {ν : zH} (hi : 5 * i + 5 ≤ X.1) (hX : X.1 ≤ 2560) (hM : M < 1000) (h : WI M ν) : ∃ μ2, WI (M + 1) μ2 ∧ ∀ (r : Option zV) (S' : zS), zEv l X mi_L 31 1150 (lvL i) [] (zSH, μ2) 0 0 r S' → zEv l X mi_L 31 646 (lvL i) [] (zSH, ν) 0 0 r S' := by
  obtain ⟨a, μ1, μ2, c1, c2, c3⟩ := cl_harden (x := X.2 (5 * i + 1)) (v := X.2 (5 * i + 2)) (p := X.2 (5 * i + 3)) (t := X.2 (5 * i + 4)) h l X
  refine ⟨μ2, c3, fun r S' hk => ?_⟩
  refine pv_aload_n (i := 1) t_L_law_646 rfl rfl ?_
  refine pv_aload_n (i := 0) t_L_law_647 rfl rfl ?_
  refine pv_iload_n (i := 3) t_L_law_648 rfl rfl ?_
  refine pv_iconst (v := 1) t_L_law_649 zi_1 ?_
  refine pv_iadd t_L_law_650 ?_
  refine sc_ld (k := 5 * i + 1) t_L_law_651 (nI_add (5 * i) 1) (by omega) hX ?_
  refine pv_aload_n (i := 0) t_L_law_652 rfl rfl ?_
  refine pv_iload_n (i := 3) t_L_law_653 rfl rfl ?_
  refine pv_iconst (v := 2) t_L_law_654 zi_2 ?_
  refine pv_iadd t_L_law_655 ?_
  refine sc_ld (k := 5 * i + 2) t_L_law_656 (nI_add (5 * i) 2) (by omega) hX ?_
  refine pv_aload_n (i := 0) t_L_law_657 rfl rfl ?_
  refine pv_iload_n (i := 3) t_L_law_658 rfl rfl ?_
  refine pv_iconst (v := 3) t_L_law_659 zi_3 ?_
  refine pv_iadd t_L_law_660 ?_
  refine sc_ld (k := 5 * i + 3) t_L_law_661 (nI_add (5 * i) 3) (by omega) hX ?_
  refine pv_aload_n (i := 0) t_L_law_662 rfl rfl ?_
  refine pv_iload_n (i := 3) t_L_law_663 rfl rfl ?_
  refine pv_iconst (v := 4) t_L_law_664 zi_4 ?_
  refine pv_iadd t_L_law_665 ?_
  refine sc_ld (k := 5 * i + 4) t_L_law_666 (nI_add (5 * i) 4) (by omega) hX ?_
  refine pv_gV4 t_L_law_667 ml_L_89 mo_X10_harden hh_0 rfl (Nat.le_of_ble_eq_true rfl) c1 (Nat.le_of_ble_eq_true rfl) ?_
  refine pv_aload_n (i := 2) t_L_law_670 rfl rfl ?_
  refine pv_aload_n (i := 0) t_L_law_671 rfl rfl ?_
  refine pv_iload_n (i := 3) t_L_law_672 rfl rfl ?_
  refine pv_iconst (v := 1) t_L_law_673 zi_1 ?_
  refine pv_iadd t_L_law_674 ?_
  refine sc_ld (k := 5 * i + 1) t_L_law_675 (nI_add (5 * i) 1) (by omega) hX ?_
  refine pv_aload_n (i := 0) t_L_law_676 rfl rfl ?_
  refine pv_iload_n (i := 3) t_L_law_677 rfl rfl ?_
  refine pv_iconst (v := 2) t_L_law_678 zi_2 ?_
  refine pv_iadd t_L_law_679 ?_
  refine sc_ld (k := 5 * i + 2) t_L_law_680 (nI_add (5 * i) 2) (by omega) hX ?_
  refine pv_aload_n (i := 0) t_L_law_681 rfl rfl ?_
  refine pv_iload_n (i := 3) t_L_law_682 rfl rfl ?_
  refine pv_iconst (v := 3) t_L_law_683 zi_3 ?_
  refine pv_iadd t_L_law_684 ?_
  refine sc_ld (k := 5 * i + 3) t_L_law_685 (nI_add (5 * i) 3) (by omega) hX ?_
  refine pv_aload_n (i := 0) t_L_law_686 rfl rfl ?_
  refine pv_iload_n (i := 3) t_L_law_687 rfl rfl ?_
  refine pv_iconst (v := 4) t_L_law_688 zi_4 ?_
  refine pv_iadd t_L_law_689 ?_
  refine sc_ld (k := 5 * i + 4) t_L_law_690 (nI_add (5 * i) 4) (by omega) hX ?_
  refine pv_gV4 t_L_law_691 ml_L_93 mo_X11_harden hh_67 rfl (Nat.le_of_ble_eq_true rfl) c2 (Nat.le_of_ble_eq_true rfl) ?_
  exact pv_icmp_eq t_L_law_694 (fun _ => hk) (fun c => absurd rfl c)
theorem law_deeds {l : Launch} {X : zX} {i M : Nat} {ν : zH} (hi : 5 * i + 5 ≤ X.1) (hX : X.1 ≤ 2560) (hM : M < 1000) (h : WI M ν) : ∃ μ2, WI (M + 1) μ2 ∧ ∀ (r : Option zV) (S' : zS), zEv l X mi_L 31 1150 (lvL i) [] (zSH, μ2) 0 0 r S' → zEv l X mi_L 31 699 (lvL i) [] (zSH, ν) 0 0 r S' := by
  obtain ⟨a, μ1, μ2, c1, c2, c3⟩ := cl_deeds (x := X.2 (5 * i + 1)) (m := X.2 (5 * i + 2)) (y := X.2 (5 * i + 3)) h l X
  refine ⟨μ2, c3, fun r S' hk => ?_⟩
  refine pv_aload_n (i := 1) t_L_law_699 rfl rfl ?_
  refine pv_aload_n (i := 0) t_L_law_700 rfl rfl ?_
  refine pv_iload_n (i := 3) t_L_law_701 rfl rfl ?_
  refine pv_iconst (v := 1) t_L_law_702 zi_1 ?_
  refine pv_iadd t_L_law_703 ?_
  refine sc_ld (k := 5 * i + 1) t_L_law_704 (nI_add (5 * i) 1) (by omega) hX ?_
  refine pv_aload_n (i := 0) t_L_law_705 rfl rfl ?_
  refine pv_iload_n (i := 3) t_L_law_706 rfl rfl ?_
  refine pv_iconst (v := 2) t_L_law_707 zi_2 ?_
  refine pv_iadd t_L_law_708 ?_
  refine sc_ld (k := 5 * i + 2) t_L_law_709 (nI_add (5 * i) 2) (by omega) hX ?_
  refine pv_aload_n (i := 0) t_L_law_710 rfl rfl ?_
  refine pv_iload_n (i := 3) t_L_law_711 rfl rfl ?_
  refine pv_iconst (v := 3) t_L_law_712 zi_3 ?_
  refine pv_iadd t_L_law_713 ?_
  refine sc_ld (k := 5 * i + 3) t_L_law_714 (nI_add (5 * i) 3) (by omega) hX ?_
  refine pv_gV3 t_L_law_715 ml_L_94 mo_X10_deeds hh_0 rfl (Nat.le_of_ble_eq_true rfl) c1 (Nat.le_of_ble_eq_true rfl) ?_
  refine pv_aload_n (i := 2) t_L_law_718 rfl rfl ?_
  refine pv_aload_n (i := 0) t_L_law_719 rfl rfl ?_
  refine pv_iload_n (i := 3) t_L_law_720 rfl rfl ?_
  refine pv_iconst (v := 1) t_L_law_721 zi_1 ?_
  refine pv_iadd t_L_law_722 ?_
  refine sc_ld (k := 5 * i + 1) t_L_law_723 (nI_add (5 * i) 1) (by omega) hX ?_
  refine pv_aload_n (i := 0) t_L_law_724 rfl rfl ?_
  refine pv_iload_n (i := 3) t_L_law_725 rfl rfl ?_
  refine pv_iconst (v := 2) t_L_law_726 zi_2 ?_
  refine pv_iadd t_L_law_727 ?_
  refine sc_ld (k := 5 * i + 2) t_L_law_728 (nI_add (5 * i) 2) (by omega) hX ?_
  refine pv_aload_n (i := 0) t_L_law_729 rfl rfl ?_
  refine pv_iload_n (i := 3) t_L_law_730 rfl rfl ?_
  refine pv_iconst (v := 3) t_L_law_731 zi_3 ?_
  refine pv_iadd t_L_law_732 ?_
  refine sc_ld (k := 5 * i + 3) t_L_law_733 (nI_add (5 * i) 3) (by omega) hX ?_
  refine pv_gV3 t_L_law_734 ml_L_97 mo_X11_deeds hh_67 rfl (Nat.le_of_ble_eq_true rfl) c2 (Nat.le_of_ble_eq_true rfl) ?_
  exact pv_icmp_eq t_L_law_737 (fun _ => hk) (fun c => absurd rfl c)
theorem law_league {l : Launch} {X : zX} {i M : Nat} {ν : zH} (hi : 5 * i + 5 ≤ X.1) (hX : X.1 ≤ 2560) (hM : M < 1000) (h : WI M ν) : ∃ μ2, WI (M + 1) μ2 ∧ ∀ (r : Option zV) (S' : zS), zEv l X mi_L 31 1150 (lvL i) [] (zSH, μ2) 0 0 r S' → zEv l X mi_L 31 742 (lvL i) [] (zSH, ν) 0 0 r S' := by
  obtain ⟨a, μ1, μ2, c1, c2, c3⟩ := cl_league (x := X.2 (5 * i + 1)) (by omega) h l X
  refine ⟨μ2, c3, fun r S' hk => ?_⟩
  refine pv_aload_n (i := 1) t_L_law_742 rfl rfl ?_
  refine pv_aload_n (i := 0) t_L_law_743 rfl rfl ?_
  refine pv_iload_n (i := 3) t_L_law_744 rfl rfl ?_
  refine pv_iconst (v := 1) t_L_law_745 zi_1 ?_
  refine pv_iadd t_L_law_746 ?_
  refine sc_ld (k := 5 * i + 1) t_L_law_747 (nI_add (5 * i) 1) (by omega) hX ?_
  refine pv_gV1 t_L_law_748 ml_L_98 mo_X10_league hh_0 rfl (Nat.le_of_ble_eq_true rfl) c1 (Nat.le_of_ble_eq_true rfl) ?_
  refine pv_aload_n (i := 2) t_L_law_751 rfl rfl ?_
  refine pv_aload_n (i := 0) t_L_law_752 rfl rfl ?_
  refine pv_iload_n (i := 3) t_L_law_753 rfl rfl ?_
  refine pv_iconst (v := 1) t_L_law_754 zi_1 ?_
  refine pv_iadd t_L_law_755 ?_
  refine sc_ld (k := 5 * i + 1) t_L_law_756 (nI_add (5 * i) 1) (by omega) hX ?_
  refine pv_gV1 t_L_law_757 ml_L_101 mo_X11_league hh_67 rfl (Nat.le_of_ble_eq_true rfl) c2 (Nat.le_of_ble_eq_true rfl) ?_
  exact pv_icmp_eq t_L_law_760 (fun _ => hk) (fun c => absurd rfl c)
theorem law_met {l : Launch} {X : zX} {i M : Nat} {ν : zH} (hi : 5 * i + 5 ≤ X.1) (hX : X.1 ≤ 2560) (hM : M < 1000) (h : WI M ν) : ∃ μ2, WI (M + 1) μ2 ∧ ∀ (r : Option zV) (S' : zS), zEv l X mi_L 31 1150 (lvL i) [] (zSH, μ2) 0 0 r S' → zEv l X mi_L 31 765 (lvL i) [] (zSH, ν) 0 0 r S' := by
  obtain ⟨a, μ1, μ2, c1, c2, c3⟩ := cl_met (x := X.2 (5 * i + 1)) (y := X.2 (5 * i + 2)) h l X
  refine ⟨μ2, c3, fun r S' hk => ?_⟩
  refine pv_aload_n (i := 1) t_L_law_765 rfl rfl ?_
  refine pv_aload_n (i := 0) t_L_law_766 rfl rfl ?_
  refine pv_iload_n (i := 3) t_L_law_767 rfl rfl ?_
  refine pv_iconst (v := 1) t_L_law_768 zi_1 ?_
  refine pv_iadd t_L_law_769 ?_
  refine sc_ld (k := 5 * i + 1) t_L_law_770 (nI_add (5 * i) 1) (by omega) hX ?_
  refine pv_aload_n (i := 0) t_L_law_771 rfl rfl ?_
  refine pv_iload_n (i := 3) t_L_law_772 rfl rfl ?_
  refine pv_iconst (v := 2) t_L_law_773 zi_2 ?_
  refine pv_iadd t_L_law_774 ?_
  refine sc_ld (k := 5 * i + 2) t_L_law_775 (nI_add (5 * i) 2) (by omega) hX ?_
  refine pv_gV2 t_L_law_776 ml_L_102 mo_X10_met hh_0 rfl (Nat.le_of_ble_eq_true rfl) c1 (Nat.le_of_ble_eq_true rfl) ?_
  refine pv_aload_n (i := 2) t_L_law_779 rfl rfl ?_
  refine pv_aload_n (i := 0) t_L_law_780 rfl rfl ?_
  refine pv_iload_n (i := 3) t_L_law_781 rfl rfl ?_
  refine pv_iconst (v := 1) t_L_law_782 zi_1 ?_
  refine pv_iadd t_L_law_783 ?_
  refine sc_ld (k := 5 * i + 1) t_L_law_784 (nI_add (5 * i) 1) (by omega) hX ?_
  refine pv_aload_n (i := 0) t_L_law_785 rfl rfl ?_
  refine pv_iload_n (i := 3) t_L_law_786 rfl rfl ?_
  refine pv_iconst (v := 2) t_L_law_787 zi_2 ?_
  refine pv_iadd t_L_law_788 ?_
  refine sc_ld (k := 5 * i + 2) t_L_law_789 (nI_add (5 * i) 2) (by omega) hX ?_
  refine pv_gV2 t_L_law_790 ml_L_105 mo_X11_met hh_67 rfl (Nat.le_of_ble_eq_true rfl) c2 (Nat.le_of_ble_eq_true rfl) ?_
  exact pv_icmp_eq t_L_law_793 (fun _ => hk) (fun c => absurd rfl c)
theorem law_shared {l : Launch} {X : zX} {i M : Nat} {ν : zH} (hi : 5 * i + 5 ≤ X.1) (hX : X.1 ≤ 2560) (hM : M < 1000) (h : WI M ν) : ∃ μ2, WI (M + 1) μ2 ∧ ∀ (r : Option zV) (S' : zS), zEv l X mi_L 31 1150 (lvL i) [] (zSH, μ2) 0 0 r S' → zEv l X mi_L 31 798 (lvL i) [] (zSH, ν) 0 0 r S' := by
  obtain ⟨a, μ1, μ2, c1, c2, c3⟩ := cl_shared (x := X.2 (5 * i + 1)) (z := X.2 (5 * i + 2)) h l X
  refine ⟨μ2, c3, fun r S' hk => ?_⟩
  refine pv_aload_n (i := 1) t_L_law_798 rfl rfl ?_
  refine pv_aload_n (i := 0) t_L_law_799 rfl rfl ?_
  refine pv_iload_n (i := 3) t_L_law_800 rfl rfl ?_
  refine pv_iconst (v := 1) t_L_law_801 zi_1 ?_
  refine pv_iadd t_L_law_802 ?_
  refine sc_ld (k := 5 * i + 1) t_L_law_803 (nI_add (5 * i) 1) (by omega) hX ?_
  refine pv_aload_n (i := 0) t_L_law_804 rfl rfl ?_
  refine pv_iload_n (i := 3) t_L_law_805 rfl rfl ?_
  refine pv_iconst (v := 2) t_L_law_806 zi_2 ?_
  refine pv_iadd t_L_law_807 ?_
  refine sc_ld (k := 5 * i + 2) t_L_law_808 (nI_add (5 * i) 2) (by omega) hX ?_
  refine pv_gV2 t_L_law_809 ml_L_106 mo_X10_shared hh_0 rfl (Nat.le_of_ble_eq_true rfl) c1 (Nat.le_of_ble_eq_true rfl) ?_
  refine pv_aload_n (i := 2) t_L_law_812 rfl rfl ?_
  refine pv_aload_n (i := 0) t_L_law_813 rfl rfl ?_
  refine pv_iload_n (i := 3) t_L_law_814 rfl rfl ?_
  refine pv_iconst (v := 1) t_L_law_815 zi_1 ?_
  refine pv_iadd t_L_law_816 ?_
  refine sc_ld (k := 5 * i + 1) t_L_law_817 (nI_add (5 * i) 1) (by omega) hX ?_
  refine pv_aload_n (i := 0) t_L_law_818 rfl rfl ?_
  refine pv_iload_n (i := 3) t_L_law_819 rfl rfl ?_
  refine pv_iconst (v := 2) t_L_law_820 zi_2 ?_
  refine pv_iadd t_L_law_821 ?_
  refine sc_ld (k := 5 * i + 2) t_L_law_822 (nI_add (5 * i) 2) (by omega) hX ?_
  refine pv_gV2 t_L_law_823 ml_L_109 mo_X11_shared hh_67 rfl (Nat.le_of_ble_eq_true rfl) c2 (Nat.le_of_ble_eq_true rfl) ?_
  exact pv_icmp_eq t_L_law_826 (fun _ => hk) (fun c => absurd rfl c)
theorem law_powder {l : Launch} {X : zX} {i M : Nat} {ν : zH} (hi : 5 * i + 5 ≤ X.1) (hX : X.1 ≤ 2560) (hM : M < 1000) (h : WI M ν) : ∃ μ2, WI (M + 1) μ2 ∧ ∀ (r : Option zV) (S' : zS), zEv l X mi_L 31 1150 (lvL i) [] (zSH, μ2) 0 0 r S' → zEv l X mi_L 31 831 (lvL i) [] (zSH, ν) 0 0 r S' := by
  obtain ⟨a, μ1, μ2, c1, c2, c3⟩ := cl_powder  h l X
  refine ⟨μ2, c3, fun r S' hk => ?_⟩
  refine pv_aload_n (i := 1) t_L_law_831 rfl rfl ?_
  refine pv_gV0 t_L_law_832 ml_L_110 mo_X10_powder hh_0 rfl (Nat.le_of_ble_eq_true rfl) c1 (Nat.le_of_ble_eq_true rfl) ?_
  refine pv_aload_n (i := 2) t_L_law_835 rfl rfl ?_
  refine pv_gV0 t_L_law_836 ml_L_113 mo_X11_powder hh_67 rfl (Nat.le_of_ble_eq_true rfl) c2 (Nat.le_of_ble_eq_true rfl) ?_
  exact pv_icmp_eq t_L_law_839 (fun _ => hk) (fun c => absurd rfl c)
theorem law_warm {l : Launch} {X : zX} {i M : Nat} {ν : zH} (hi : 5 * i + 5 ≤ X.1) (hX : X.1 ≤ 2560) (hM : M < 1000) (h : WI M ν) : ∃ μ2, WI (M + 1) μ2 ∧ ∀ (r : Option zV) (S' : zS), zEv l X mi_L 31 1150 (lvL i) [] (zSH, μ2) 0 0 r S' → zEv l X mi_L 31 844 (lvL i) [] (zSH, ν) 0 0 r S' := by
  obtain ⟨a, μ1, μ2, c1, c2, c3⟩ := cl_warm (x := X.2 (5 * i + 1)) (y := X.2 (5 * i + 2)) (t := X.2 (5 * i + 3)) (e := X.2 (5 * i + 4)) h l X
  refine ⟨μ2, c3, fun r S' hk => ?_⟩
  refine pv_aload_n (i := 1) t_L_law_844 rfl rfl ?_
  refine pv_aload_n (i := 0) t_L_law_845 rfl rfl ?_
  refine pv_iload_n (i := 3) t_L_law_846 rfl rfl ?_
  refine pv_iconst (v := 1) t_L_law_847 zi_1 ?_
  refine pv_iadd t_L_law_848 ?_
  refine sc_ld (k := 5 * i + 1) t_L_law_849 (nI_add (5 * i) 1) (by omega) hX ?_
  refine pv_aload_n (i := 0) t_L_law_850 rfl rfl ?_
  refine pv_iload_n (i := 3) t_L_law_851 rfl rfl ?_
  refine pv_iconst (v := 2) t_L_law_852 zi_2 ?_
  refine pv_iadd t_L_law_853 ?_
  refine sc_ld (k := 5 * i + 2) t_L_law_854 (nI_add (5 * i) 2) (by omega) hX ?_
  refine pv_aload_n (i := 0) t_L_law_855 rfl rfl ?_
  refine pv_iload_n (i := 3) t_L_law_856 rfl rfl ?_
  refine pv_iconst (v := 3) t_L_law_857 zi_3 ?_
  refine pv_iadd t_L_law_858 ?_
  refine sc_ld (k := 5 * i + 3) t_L_law_859 (nI_add (5 * i) 3) (by omega) hX ?_
  refine pv_aload_n (i := 0) t_L_law_860 rfl rfl ?_
  refine pv_iload_n (i := 3) t_L_law_861 rfl rfl ?_
  refine pv_iconst (v := 4) t_L_law_862 zi_4 ?_
  refine pv_iadd t_L_law_863 ?_
  refine sc_ld (k := 5 * i + 4) t_L_law_864 (nI_add (5 * i) 4) (by omega) hX ?_
  refine pv_gV4 t_L_law_865 ml_L_114 mo_X10_warm hh_0 rfl (Nat.le_of_ble_eq_true rfl) c1 (Nat.le_of_ble_eq_true rfl) ?_
  refine pv_aload_n (i := 2) t_L_law_868 rfl rfl ?_
  refine pv_aload_n (i := 0) t_L_law_869 rfl rfl ?_
  refine pv_iload_n (i := 3) t_L_law_870 rfl rfl ?_
  refine pv_iconst (v := 1) t_L_law_871 zi_1 ?_
  refine pv_iadd t_L_law_872 ?_
  refine sc_ld (k := 5 * i + 1) t_L_law_873 (nI_add (5 * i) 1) (by omega) hX ?_
  refine pv_aload_n (i := 0) t_L_law_874 rfl rfl ?_
  refine pv_iload_n (i := 3) t_L_law_875 rfl rfl ?_
  refine pv_iconst (v := 2) t_L_law_876 zi_2 ?_
  refine pv_iadd t_L_law_877 ?_
  refine sc_ld (k := 5 * i + 2) t_L_law_878 (nI_add (5 * i) 2) (by omega) hX ?_
  refine pv_aload_n (i := 0) t_L_law_879 rfl rfl ?_
  refine pv_iload_n (i := 3) t_L_law_880 rfl rfl ?_
  refine pv_iconst (v := 3) t_L_law_881 zi_3 ?_
  refine pv_iadd t_L_law_882 ?_
  refine sc_ld (k := 5 * i + 3) t_L_law_883 (nI_add (5 * i) 3) (by omega) hX ?_
  refine pv_aload_n (i := 0) t_L_law_884 rfl rfl ?_
  refine pv_iload_n (i := 3) t_L_law_885 rfl rfl ?_
  refine pv_iconst (v := 4) t_L_law_886 zi_4 ?_
  refine pv_iadd t_L_law_887 ?_
  refine sc_ld (k := 5 * i + 4) t_L_law_888 (nI_add (5 * i) 4) (by omega) hX ?_
  refine pv_gV4 t_L_law_889 ml_L_117 mo_X11_warm hh_67 rfl (Nat.le_of_ble_eq_true rfl) c2 (Nat.le_of_ble_eq_true rfl) ?_
  exact pv_icmp_eq t_L_law_892 (fun _ => hk) (fun c => absurd rfl c)
theorem law_vain {l : Launch} {X : zX} {i M : Nat} {ν : zH} (hi : 5 * i + 5 ≤ X.1) (hX : X.1 ≤ 2560) (hM : M < 1000) (h : WI M ν) : ∃ μ2, WI (M + 1) μ2 ∧ ∀ (r : Option zV) (S' : zS), zEv l X mi_L 31 1150 (lvL i) [] (zSH, μ2) 0 0 r S' → zEv l X mi_L 31 897 (lvL i) [] (zSH, ν) 0 0 r S' := by
  obtain ⟨a, μ1, μ2, c1, c2, c3⟩ := cl_vain (x := X.2 (5 * i + 1)) (y := X.2 (5 * i + 2)) h l X
  refine ⟨μ2, c3, fun r S' hk => ?_⟩
  refine pv_aload_n (i := 1) t_L_law_897 rfl rfl ?_
  refine pv_aload_n (i := 0) t_L_law_898 rfl rfl ?_
  refine pv_iload_n (i := 3) t_L_law_899 rfl rfl ?_
  refine pv_iconst (v := 1) t_L_law_900 zi_1 ?_
  refine pv_iadd t_L_law_901 ?_
  refine sc_ld (k := 5 * i + 1) t_L_law_902 (nI_add (5 * i) 1) (by omega) hX ?_
  refine pv_aload_n (i := 0) t_L_law_903 rfl rfl ?_
  refine pv_iload_n (i := 3) t_L_law_904 rfl rfl ?_
  refine pv_iconst (v := 2) t_L_law_905 zi_2 ?_
  refine pv_iadd t_L_law_906 ?_
  refine sc_ld (k := 5 * i + 2) t_L_law_907 (nI_add (5 * i) 2) (by omega) hX ?_
  refine pv_gV2 t_L_law_908 ml_L_118 mo_X10_vain hh_0 rfl (Nat.le_of_ble_eq_true rfl) c1 (Nat.le_of_ble_eq_true rfl) ?_
  refine pv_aload_n (i := 2) t_L_law_911 rfl rfl ?_
  refine pv_aload_n (i := 0) t_L_law_912 rfl rfl ?_
  refine pv_iload_n (i := 3) t_L_law_913 rfl rfl ?_
  refine pv_iconst (v := 1) t_L_law_914 zi_1 ?_
  refine pv_iadd t_L_law_915 ?_
  refine sc_ld (k := 5 * i + 1) t_L_law_916 (nI_add (5 * i) 1) (by omega) hX ?_
  refine pv_aload_n (i := 0) t_L_law_917 rfl rfl ?_
  refine pv_iload_n (i := 3) t_L_law_918 rfl rfl ?_
  refine pv_iconst (v := 2) t_L_law_919 zi_2 ?_
  refine pv_iadd t_L_law_920 ?_
  refine sc_ld (k := 5 * i + 2) t_L_law_921 (nI_add (5 * i) 2) (by omega) hX ?_
  refine pv_gV2 t_L_law_922 ml_L_121 mo_X11_vain hh_67 rfl (Nat.le_of_ble_eq_true rfl) c2 (Nat.le_of_ble_eq_true rfl) ?_
  exact pv_icmp_eq t_L_law_925 (fun _ => hk) (fun c => absurd rfl c)
theorem law_probe {l : Launch} {X : zX} {i M : Nat} {ν : zH} (hi : 5 * i + 5 ≤ X.1) (hX : X.1 ≤ 2560) (hM : M < 1000) (h : WI M ν) : ∃ μ2, WI (M + 1) μ2 ∧ ∀ (r : Option zV) (S' : zS), zEv l X mi_L 31 1150 (lvL i) [] (zSH, μ2) 0 0 r S' → zEv l X mi_L 31 930 (lvL i) [] (zSH, ν) 0 0 r S' := by
  obtain ⟨a, μ1, μ2, c1, c2, c3⟩ := cl_probe (x := X.2 (5 * i + 1)) (y := X.2 (5 * i + 2)) h l X
  refine ⟨μ2, c3, fun r S' hk => ?_⟩
  refine pv_aload_n (i := 1) t_L_law_930 rfl rfl ?_
  refine pv_aload_n (i := 0) t_L_law_931 rfl rfl ?_
  refine pv_iload_n (i := 3) t_L_law_932 rfl rfl ?_
  refine pv_iconst (v := 1) t_L_law_933 zi_1 ?_
  refine pv_iadd t_L_law_934 ?_
  refine sc_ld (k := 5 * i + 1) t_L_law_935 (nI_add (5 * i) 1) (by omega) hX ?_
  refine pv_aload_n (i := 0) t_L_law_936 rfl rfl ?_
  refine pv_iload_n (i := 3) t_L_law_937 rfl rfl ?_
  refine pv_iconst (v := 2) t_L_law_938 zi_2 ?_
  refine pv_iadd t_L_law_939 ?_
  refine sc_ld (k := 5 * i + 2) t_L_law_940 (nI_add (5 * i) 2) (by omega) hX ?_
  refine pv_gV2 t_L_law_941 ml_L_122 mo_X10_probe hh_0 rfl (Nat.le_of_ble_eq_true rfl) c1 (Nat.le_of_ble_eq_true rfl) ?_
  refine pv_aload_n (i := 2) t_L_law_944 rfl rfl ?_
  refine pv_aload_n (i := 0) t_L_law_945 rfl rfl ?_
  refine pv_iload_n (i := 3) t_L_law_946 rfl rfl ?_
  refine pv_iconst (v := 1) t_L_law_947 zi_1 ?_
  refine pv_iadd t_L_law_948 ?_
  refine sc_ld (k := 5 * i + 1) t_L_law_949 (nI_add (5 * i) 1) (by omega) hX ?_
  refine pv_aload_n (i := 0) t_L_law_950 rfl rfl ?_
  refine pv_iload_n (i := 3) t_L_law_951 rfl rfl ?_
  refine pv_iconst (v := 2) t_L_law_952 zi_2 ?_
  refine pv_iadd t_L_law_953 ?_
  refine sc_ld (k := 5 * i + 2) t_L_law_954 (nI_add (5 * i) 2) (by omega) hX ?_
  refine pv_gV2 t_L_law_955 ml_L_125 mo_X11_probe hh_67 rfl (Nat.le_of_ble_eq_true rfl) c2 (Nat.le_of_ble_eq_true rfl) ?_
  exact pv_icmp_eq t_L_law_958 (fun _ => hk) (fun c => absurd rfl c)
theorem law_cheek {l : Launch} {X : zX} {i M : Nat} {ν : zH} (hi : 5 * i + 5 ≤ X.1) (hX : X.1 ≤ 2560) (hM : M < 1000) (h : WI M ν) : ∃ μ2, WI (M + 1) μ2 ∧ ∀ (r : Option zV) (S' : zS), zEv l X mi_L 31 1150 (lvL i) [] (zSH, μ2) 0 0 r S' → zEv l X mi_L 31 963 (lvL i) [] (zSH, ν) 0 0 r S' := by
  obtain ⟨a, μ1, μ2, c1, c2, c3⟩ := cl_cheek (x := X.2 (5 * i + 1)) h l X
  refine ⟨μ2, c3, fun r S' hk => ?_⟩
  refine pv_aload_n (i := 1) t_L_law_963 rfl rfl ?_
  refine pv_aload_n (i := 0) t_L_law_964 rfl rfl ?_
  refine pv_iload_n (i := 3) t_L_law_965 rfl rfl ?_
  refine pv_iconst (v := 1) t_L_law_966 zi_1 ?_
  refine pv_iadd t_L_law_967 ?_
  refine sc_ld (k := 5 * i + 1) t_L_law_968 (nI_add (5 * i) 1) (by omega) hX ?_
  refine pv_gV1 t_L_law_969 ml_L_126 mo_X10_cheek hh_0 rfl (Nat.le_of_ble_eq_true rfl) c1 (Nat.le_of_ble_eq_true rfl) ?_
  refine pv_aload_n (i := 2) t_L_law_972 rfl rfl ?_
  refine pv_aload_n (i := 0) t_L_law_973 rfl rfl ?_
  refine pv_iload_n (i := 3) t_L_law_974 rfl rfl ?_
  refine pv_iconst (v := 1) t_L_law_975 zi_1 ?_
  refine pv_iadd t_L_law_976 ?_
  refine sc_ld (k := 5 * i + 1) t_L_law_977 (nI_add (5 * i) 1) (by omega) hX ?_
  refine pv_gV1 t_L_law_978 ml_L_129 mo_X11_cheek hh_67 rfl (Nat.le_of_ble_eq_true rfl) c2 (Nat.le_of_ble_eq_true rfl) ?_
  exact pv_icmp_eq t_L_law_981 (fun _ => hk) (fun c => absurd rfl c)
theorem law_said {l : Launch} {X : zX} {i M : Nat} {ν : zH} (hi : 5 * i + 5 ≤ X.1) (hX : X.1 ≤ 2560) (hM : M < 1000) (h : WI M ν) : ∃ μ2, WI (M + 1) μ2 ∧ ∀ (r : Option zV) (S' : zS), zEv l X mi_L 31 1150 (lvL i) [] (zSH, μ2) 0 0 r S' → zEv l X mi_L 31 986 (lvL i) [] (zSH, ν) 0 0 r S' := by
  obtain ⟨a, μ1, μ2, c1, c2, c3⟩ := cl_said (x := X.2 (5 * i + 1)) (by omega) h l X
  refine ⟨μ2, c3, fun r S' hk => ?_⟩
  refine pv_aload_n (i := 1) t_L_law_986 rfl rfl ?_
  refine pv_aload_n (i := 0) t_L_law_987 rfl rfl ?_
  refine pv_iload_n (i := 3) t_L_law_988 rfl rfl ?_
  refine pv_iconst (v := 1) t_L_law_989 zi_1 ?_
  refine pv_iadd t_L_law_990 ?_
  refine sc_ld (k := 5 * i + 1) t_L_law_991 (nI_add (5 * i) 1) (by omega) hX ?_
  refine pv_gV1 t_L_law_992 ml_L_130 mo_X10_said hh_0 rfl (Nat.le_of_ble_eq_true rfl) c1 (Nat.le_of_ble_eq_true rfl) ?_
  refine pv_aload_n (i := 2) t_L_law_995 rfl rfl ?_
  refine pv_aload_n (i := 0) t_L_law_996 rfl rfl ?_
  refine pv_iload_n (i := 3) t_L_law_997 rfl rfl ?_
  refine pv_iconst (v := 1) t_L_law_998 zi_1 ?_
  refine pv_iadd t_L_law_999 ?_
  refine sc_ld (k := 5 * i + 1) t_L_law_1000 (nI_add (5 * i) 1) (by omega) hX ?_
  refine pv_gV1 t_L_law_1001 ml_L_133 mo_X11_said hh_67 rfl (Nat.le_of_ble_eq_true rfl) c2 (Nat.le_of_ble_eq_true rfl) ?_
  exact pv_icmp_eq t_L_law_1004 (fun _ => hk) (fun c => absurd rfl c)
theorem law_surely {l : Launch} {X : zX} {i M : Nat} {ν : zH} (hi : 5 * i + 5 ≤ X.1) (hX : X.1 ≤ 2560) (hM : M < 1000) (h : WI M ν) : ∃ μ2, WI (M + 1) μ2 ∧ ∀ (r : Option zV) (S' : zS), zEv l X mi_L 31 1150 (lvL i) [] (zSH, μ2) 0 0 r S' → zEv l X mi_L 31 1009 (lvL i) [] (zSH, ν) 0 0 r S' := by
  obtain ⟨a, μ1, μ2, c1, c2, c3⟩ := cl_surely  (by omega) h l X
  refine ⟨μ2, c3, fun r S' hk => ?_⟩
  refine pv_aload_n (i := 1) t_L_law_1009 rfl rfl ?_
  refine pv_gV0 t_L_law_1010 ml_L_134 mo_X10_surely hh_0 rfl (Nat.le_of_ble_eq_true rfl) c1 (Nat.le_of_ble_eq_true rfl) ?_
  refine pv_aload_n (i := 2) t_L_law_1013 rfl rfl ?_
  refine pv_gV0 t_L_law_1014 ml_L_137 mo_X11_surely hh_67 rfl (Nat.le_of_ble_eq_true rfl) c2 (Nat.le_of_ble_eq_true rfl) ?_
  exact pv_icmp_eq t_L_law_1017 (fun _ => hk) (fun c => absurd rfl c)
theorem law_write {l : Launch} {X : zX} {i M : Nat} {ν : zH} (hi : 5 * i + 5 ≤ X.1) (hX : X.1 ≤ 2560) (hM : M < 1000) (h : WI M ν) : ∃ μ2, WI (M + 1) μ2 ∧ ∀ (r : Option zV) (S' : zS), zEv l X mi_L 31 1150 (lvL i) [] (zSH, μ2) 0 0 r S' → zEv l X mi_L 31 1022 (lvL i) [] (zSH, ν) 0 0 r S' := by
  obtain ⟨a, μ1, μ2, c1, c2, c3⟩ := cl_write (x := X.2 (5 * i + 1)) h l X
  refine ⟨μ2, c3, fun r S' hk => ?_⟩
  refine pv_aload_n (i := 1) t_L_law_1022 rfl rfl ?_
  refine pv_aload_n (i := 0) t_L_law_1023 rfl rfl ?_
  refine pv_iload_n (i := 3) t_L_law_1024 rfl rfl ?_
  refine pv_iconst (v := 1) t_L_law_1025 zi_1 ?_
  refine pv_iadd t_L_law_1026 ?_
  refine sc_ld (k := 5 * i + 1) t_L_law_1027 (nI_add (5 * i) 1) (by omega) hX ?_
  refine pv_gV1 t_L_law_1028 ml_L_138 mo_X10_write hh_0 rfl (Nat.le_of_ble_eq_true rfl) c1 (Nat.le_of_ble_eq_true rfl) ?_
  refine pv_aload_n (i := 2) t_L_law_1031 rfl rfl ?_
  refine pv_aload_n (i := 0) t_L_law_1032 rfl rfl ?_
  refine pv_iload_n (i := 3) t_L_law_1033 rfl rfl ?_
  refine pv_iconst (v := 1) t_L_law_1034 zi_1 ?_
  refine pv_iadd t_L_law_1035 ?_
  refine sc_ld (k := 5 * i + 1) t_L_law_1036 (nI_add (5 * i) 1) (by omega) hX ?_
  refine pv_gV1 t_L_law_1037 ml_L_141 mo_X11_write hh_67 rfl (Nat.le_of_ble_eq_true rfl) c2 (Nat.le_of_ble_eq_true rfl) ?_
  exact pv_icmp_eq t_L_law_1040 (fun _ => hk) (fun c => absurd rfl c)
theorem law_judge {l : Launch} {X : zX} {i M : Nat} {ν : zH} (hi : 5 * i + 5 ≤ X.1) (hX : X.1 ≤ 2560) (hM : M < 1000) (h : WI M ν) : ∃ μ2, WI (M + 1) μ2 ∧ ∀ (r : Option zV) (S' : zS), zEv l X mi_L 31 1150 (lvL i) [] (zSH, μ2) 0 0 r S' → zEv l X mi_L 31 1045 (lvL i) [] (zSH, ν) 0 0 r S' := by
  obtain ⟨a, μ1, μ2, c1, c2, c3⟩ := cl_judge (x := X.2 (5 * i + 1)) (by omega) h l X
  refine ⟨μ2, c3, fun r S' hk => ?_⟩
  refine pv_aload_n (i := 1) t_L_law_1045 rfl rfl ?_
  refine pv_aload_n (i := 0) t_L_law_1046 rfl rfl ?_
  refine pv_iload_n (i := 3) t_L_law_1047 rfl rfl ?_
  refine pv_iconst (v := 1) t_L_law_1048 zi_1 ?_
  refine pv_iadd t_L_law_1049 ?_
  refine sc_ld (k := 5 * i + 1) t_L_law_1050 (nI_add (5 * i) 1) (by omega) hX ?_
  refine pv_gV1 t_L_law_1051 ml_L_142 mo_X10_judge hh_0 rfl (Nat.le_of_ble_eq_true rfl) c1 (Nat.le_of_ble_eq_true rfl) ?_
  refine pv_aload_n (i := 2) t_L_law_1054 rfl rfl ?_
  refine pv_aload_n (i := 0) t_L_law_1055 rfl rfl ?_
  refine pv_iload_n (i := 3) t_L_law_1056 rfl rfl ?_
  refine pv_iconst (v := 1) t_L_law_1057 zi_1 ?_
  refine pv_iadd t_L_law_1058 ?_
  refine sc_ld (k := 5 * i + 1) t_L_law_1059 (nI_add (5 * i) 1) (by omega) hX ?_
  refine pv_gV1 t_L_law_1060 ml_L_145 mo_X11_judge hh_67 rfl (Nat.le_of_ble_eq_true rfl) c2 (Nat.le_of_ble_eq_true rfl) ?_
  exact pv_icmp_eq t_L_law_1063 (fun _ => hk) (fun c => absurd rfl c)
theorem law_tear {l : Launch} {X : zX} {i M : Nat} {ν : zH} (hi : 5 * i + 5 ≤ X.1) (hX : X.1 ≤ 2560) (hM : M < 1000) (h : WI M ν) : ∃ μ2, WI (M + 1) μ2 ∧ ∀ (r : Option zV) (S' : zS), zEv l X mi_L 31 1150 (lvL i) [] (zSH, μ2) 0 0 r S' → zEv l X mi_L 31 1068 (lvL i) [] (zSH, ν) 0 0 r S' := by
  obtain ⟨a, μ1, μ2, c1, c2, c3⟩ := cl_tear  h l X
  refine ⟨μ2, c3, fun r S' hk => ?_⟩
  refine pv_aload_n (i := 1) t_L_law_1068 rfl rfl ?_
  refine pv_gV0 t_L_law_1069 ml_L_146 mo_X10_tear hh_0 rfl (Nat.le_of_ble_eq_true rfl) c1 (Nat.le_of_ble_eq_true rfl) ?_
  refine pv_aload_n (i := 2) t_L_law_1072 rfl rfl ?_
  refine pv_gV0 t_L_law_1073 ml_L_149 mo_X11_tear hh_67 rfl (Nat.le_of_ble_eq_true rfl) c2 (Nat.le_of_ble_eq_true rfl) ?_
  exact pv_icmp_eq t_L_law_1076 (fun _ => hk) (fun c => absurd rfl c)
theorem law_seed {l : Launch} {X : zX} {i M : Nat} {ν : zH} (hi : 5 * i + 5 ≤ X.1) (hX : X.1 ≤ 2560) (hM : M < 1000) (h : WI M ν) : ∃ μ2, WI (M + 1) μ2 ∧ ∀ (r : Option zV) (S' : zS), zEv l X mi_L 31 1150 (lvL i) [] (zSH, μ2) 0 0 r S' → zEv l X mi_L 31 1081 (lvL i) [] (zSH, ν) 0 0 r S' := by
  obtain ⟨a, μ1, μ2, c1, c2, c3⟩ := cl_seed (x := X.2 (5 * i + 1)) h l X
  refine ⟨μ2, c3, fun r S' hk => ?_⟩
  refine pv_aload_n (i := 1) t_L_law_1081 rfl rfl ?_
  refine pv_aload_n (i := 0) t_L_law_1082 rfl rfl ?_
  refine pv_iload_n (i := 3) t_L_law_1083 rfl rfl ?_
  refine pv_iconst (v := 1) t_L_law_1084 zi_1 ?_
  refine pv_iadd t_L_law_1085 ?_
  refine sc_ld (k := 5 * i + 1) t_L_law_1086 (nI_add (5 * i) 1) (by omega) hX ?_
  refine pv_gV1 t_L_law_1087 ml_L_150 mo_X10_seed hh_0 rfl (Nat.le_of_ble_eq_true rfl) c1 (Nat.le_of_ble_eq_true rfl) ?_
  refine pv_aload_n (i := 2) t_L_law_1090 rfl rfl ?_
  refine pv_aload_n (i := 0) t_L_law_1091 rfl rfl ?_
  refine pv_iload_n (i := 3) t_L_law_1092 rfl rfl ?_
  refine pv_iconst (v := 1) t_L_law_1093 zi_1 ?_
  refine pv_iadd t_L_law_1094 ?_
  refine sc_ld (k := 5 * i + 1) t_L_law_1095 (nI_add (5 * i) 1) (by omega) hX ?_
  refine pv_gV1 t_L_law_1096 ml_L_153 mo_X11_seed hh_67 rfl (Nat.le_of_ble_eq_true rfl) c2 (Nat.le_of_ble_eq_true rfl) ?_
  exact pv_icmp_eq t_L_law_1099 (fun _ => hk) (fun c => absurd rfl c)
theorem law_keep {l : Launch} {X : zX} {i M : Nat} {ν : zH} (hi : 5 * i + 5 ≤ X.1) (hX : X.1 ≤ 2560) (hM : M < 1000) (h : WI M ν) : ∃ μ2, WI (M + 1) μ2 ∧ ∀ (r : Option zV) (S' : zS), zEv l X mi_L 31 1150 (lvL i) [] (zSH, μ2) 0 0 r S' → zEv l X mi_L 31 1104 (lvL i) [] (zSH, ν) 0 0 r S' := by
  obtain ⟨a, μ1, μ2, c1, c2, c3⟩ := cl_keep (x := X.2 (5 * i + 1)) h l X
  refine ⟨μ2, c3, fun r S' hk => ?_⟩
  refine pv_aload_n (i := 1) t_L_law_1104 rfl rfl ?_
  refine pv_aload_n (i := 0) t_L_law_1105 rfl rfl ?_
  refine pv_iload_n (i := 3) t_L_law_1106 rfl rfl ?_
  refine pv_iconst (v := 1) t_L_law_1107 zi_1 ?_
  refine pv_iadd t_L_law_1108 ?_
  refine sc_ld (k := 5 * i + 1) t_L_law_1109 (nI_add (5 * i) 1) (by omega) hX ?_
  refine pv_gV1 t_L_law_1110 ml_L_154 mo_X10_keep hh_0 rfl (Nat.le_of_ble_eq_true rfl) c1 (Nat.le_of_ble_eq_true rfl) ?_
  refine pv_aload_n (i := 2) t_L_law_1113 rfl rfl ?_
  refine pv_aload_n (i := 0) t_L_law_1114 rfl rfl ?_
  refine pv_iload_n (i := 3) t_L_law_1115 rfl rfl ?_
  refine pv_iconst (v := 1) t_L_law_1116 zi_1 ?_
  refine pv_iadd t_L_law_1117 ?_
  refine sc_ld (k := 5 * i + 1) t_L_law_1118 (nI_add (5 * i) 1) (by omega) hX ?_
  refine pv_gV1 t_L_law_1119 ml_L_157 mo_X11_keep hh_67 rfl (Nat.le_of_ble_eq_true rfl) c2 (Nat.le_of_ble_eq_true rfl) ?_
  exact pv_icmp_eq t_L_law_1122 (fun _ => hk) (fun c => absurd rfl c)
theorem law_goBack {l : Launch} {X : zX} {i M : Nat} {ν : zH} (hi : 5 * i + 5 ≤ X.1) (hX : X.1 ≤ 2560) (hM : M < 1000) (h : WI M ν) : ∃ μ2, WI (M + 1) μ2 ∧ ∀ (r : Option zV) (S' : zS), zEv l X mi_L 31 1150 (lvL i) [] (zSH, μ2) 0 0 r S' → zEv l X mi_L 31 1127 (lvL i) [] (zSH, ν) 0 0 r S' := by
  obtain ⟨a, μ1, μ2, c1, c2, c3⟩ := cl_goBack (x := X.2 (5 * i + 1)) h l X
  refine ⟨μ2, c3, fun r S' hk => ?_⟩
  refine pv_aload_n (i := 1) t_L_law_1127 rfl rfl ?_
  refine pv_aload_n (i := 0) t_L_law_1128 rfl rfl ?_
  refine pv_iload_n (i := 3) t_L_law_1129 rfl rfl ?_
  refine pv_iconst (v := 1) t_L_law_1130 zi_1 ?_
  refine pv_iadd t_L_law_1131 ?_
  refine sc_ld (k := 5 * i + 1) t_L_law_1132 (nI_add (5 * i) 1) (by omega) hX ?_
  refine pv_gV1 t_L_law_1133 ml_L_158 mo_X10_goBack hh_0 rfl (Nat.le_of_ble_eq_true rfl) c1 (Nat.le_of_ble_eq_true rfl) ?_
  refine pv_aload_n (i := 2) t_L_law_1136 rfl rfl ?_
  refine pv_aload_n (i := 0) t_L_law_1137 rfl rfl ?_
  refine pv_iload_n (i := 3) t_L_law_1138 rfl rfl ?_
  refine pv_iconst (v := 1) t_L_law_1139 zi_1 ?_
  refine pv_iadd t_L_law_1140 ?_
  refine sc_ld (k := 5 * i + 1) t_L_law_1141 (nI_add (5 * i) 1) (by omega) hX ?_
  refine pv_gV1 t_L_law_1142 ml_L_161 mo_X11_goBack hh_67 rfl (Nat.le_of_ble_eq_true rfl) c2 (Nat.le_of_ble_eq_true rfl) ?_
  exact pv_icmp_eq t_L_law_1145 (fun _ => hk) (fun c => absurd rfl c)
theorem and63 (x : Int32) : ∃ k, k < 64 ∧ x &&& 63 = nI k := pk_andE x 6 rfl
theorem law_loop {l : Launch} {X : zX} (hX : X.1 ≤ 2560) : ∀ j i (ν : zH), i + j = 513 → WI (i + 1) ν → ∃ S' : zS, S'.1 = zSH ∧ zEv l X mi_L 31 18 (lvL i) [] (zSH, ν) 0 0 (some (.inl 1)) S' := by
  have hend : ∀ i (ν : zH), zEv l X mi_L 31 1156 (lvL i) [] (zSH, ν) 0 0 (some (.inl 1)) (zSH, ν) := fun i ν => by
    refine pv_iconst (v := 1) t_L_law_1156 zi_1 ?_
    exact ev_iretz t_L_law_1157 rfl ⟨rfl, Or.inr rfl⟩ rfl
  have hcmp : ∀ i, i ≤ 513 → ((nI X.1 - 5 < nI (5 * i)) ↔ X.1 < 5 * i + 5) := fun i hi => by
    rw [Int32.lt_iff_toInt_lt, show (nI X.1 - 5).toInt = (X.1 : Int) - 5 from pk_sub_toInt (a := X.1) (b := 5) (by omega) (by decide), nI_toInt (by omega)]
    omega
  intro j
  induction j with
  | zero =>
    intro i ν hij h
    refine ⟨(zSH, ν), rfl, ?_⟩
    refine pv_iload_n (i := 3) t_L_law_18 rfl rfl ?_
    refine pv_aload_n (i := 0) t_L_law_19 rfl rfl ?_
    refine sc_len t_L_law_20 ?_
    refine pv_iconst (v := 5) t_L_law_21 zi_5 ?_
    refine pv_isub t_L_law_22 ?_
    exact pv_icmp_gt t_L_law_23 (fun _ => hend i ν) (fun c => absurd ((hcmp i (by omega)).mpr (by omega)) c)
  | succ j ih =>
    intro i ν hij h
    by_cases hi : 5 * i + 5 ≤ X.1
    · -- behind the call
      have hback : ∀ μ2 : zH, WI (i + 2) μ2 → ∃ S' : zS, S'.1 = zSH ∧ zEv l X mi_L 31 1150 (lvL i) [] (zSH, μ2) 0 0 (some (.inl 1)) S' := fun μ2 h2 => by
        obtain ⟨S', s1, s2⟩ := ih (i + 1) μ2 (by omega) h2
        refine ⟨S', s1, ?_⟩
        refine pv_iinc (v := 5) t_L_law_1150 rfl zi_5 ?_
        refine pv_goto t_L_law_1153 ?_
        have e : nI (5 * i) + 5 = nI (5 * (i + 1)) := nI_add (5 * i) 5
        refine pv_loc (lv' := lvL (i + 1)) ⟨rfl, rfl, rfl, by show some (Sum.inl (nI (5 * i) + 5)) = _; rw [e], trivial⟩ ?_
        exact s2
      -- up to the switch
      have hsw : ∀ (r : Option zV) (S' : zS), zEv l X mi_L 31 32 (lvL i) [.inl (X.2 (5 * i) &&& 63)] (zSH, ν) 0 0 r S' → zEv l X mi_L 31 18 (lvL i) [] (zSH, ν) 0 0 r S' := fun r S' hk => by
        refine pv_iload_n (i := 3) t_L_law_18 rfl rfl ?_
        refine pv_aload_n (i := 0) t_L_law_19 rfl rfl ?_
        refine sc_len t_L_law_20 ?_
        refine pv_iconst (v := 5) t_L_law_21 zi_5 ?_
        refine pv_isub t_L_law_22 ?_
        refine pv_icmp_gt t_L_law_23 (fun c => absurd ((hcmp i (by omega)).mp c) (by omega)) (fun _ => ?_)
        refine pv_aload_n (i := 0) t_L_law_26 rfl rfl ?_
        refine pv_iload_n (i := 3) t_L_law_27 rfl rfl ?_
        refine sc_ld (k := 5 * i) t_L_law_28 rfl (by omega) hX ?_
        refine pv_bipush (v := 63) t_L_law_29 zb_63 ?_
        refine pv_iand t_L_law_31 ?_
        exact hk
      obtain ⟨k, hk64, hke⟩ := and63 (X.2 (5 * i))
      rw [hke] at hsw
      by_cases hk36 : 36 ≤ k
      · obtain ⟨S', s1, s2⟩ := hback ν h.mono1
        refine ⟨S', s1, hsw _ _ ?_⟩
        exact pv_tabOut (tgt := 1150) t_L_law_32 (Or.inr (by rw [nI_toInt (by omega)]; omega)) rfl s2
      rcases (by omega : k = 0 ∨ k = 1 ∨ k = 2 ∨ k = 3 ∨ k = 4 ∨ k = 5 ∨ k = 6 ∨ k = 7 ∨ k = 8 ∨ k = 9 ∨ k = 10 ∨ k = 11 ∨ k = 12 ∨ k = 13 ∨ k = 14 ∨ k = 15 ∨ k = 16 ∨ k = 17 ∨ k = 18 ∨ k = 19 ∨ k = 20 ∨ k = 21 ∨ k = 22 ∨ k = 23 ∨ k = 24 ∨ k = 25 ∨ k = 26 ∨ k = 27 ∨ k = 28 ∨ k = 29 ∨ k = 30 ∨ k = 31 ∨ k = 32 ∨ k = 33 ∨ k = 34 ∨ k = 35) with rfl | rfl | rfl | rfl | rfl | rfl | rfl | rfl | rfl | rfl | rfl | rfl | rfl | rfl | rfl | rfl | rfl | rfl | rfl | rfl | rfl | rfl | rfl | rfl | rfl | rfl | rfl | rfl | rfl | rfl | rfl | rfl | rfl | rfl | rfl | rfl
      · obtain ⟨μ2, h2, hg⟩ := law_feed (l := l) hi hX (show i + 1 < 1000 by omega) h
        obtain ⟨S', s1, s2⟩ := hback μ2 h2
        exact ⟨S', s1, hsw _ _ (pv_tabIn (tgt := 192) (off := 160) t_L_law_32 (by decide) (by decide) rfl rfl (hg _ _ s2))⟩
      · obtain ⟨μ2, h2, hg⟩ := law_meadow (l := l) hi hX (show i + 1 < 1000 by omega) h
        obtain ⟨S', s1, s2⟩ := hback μ2 h2
        exact ⟨S', s1, hsw _ _ (pv_tabIn (tgt := 215) (off := 183) t_L_law_32 (by decide) (by decide) rfl rfl (hg _ _ s2))⟩
      · obtain ⟨μ2, h2, hg⟩ := law_fault (l := l) hi hX (show i + 1 < 1000 by omega) h
        obtain ⟨S', s1, s2⟩ := hback μ2 h2
        exact ⟨S', s1, hsw _ _ (pv_tabIn (tgt := 228) (off := 196) t_L_law_32 (by decide) (by decide) rfl rfl (hg _ _ s2))⟩
      · obtain ⟨μ2, h2, hg⟩ := law_told (l := l) hi hX (show i + 1 < 1000 by omega) h
        obtain ⟨S', s1, s2⟩ := hback μ2 h2
        exact ⟨S', s1, hsw _ _ (pv_tabIn (tgt := 241) (off := 209) t_L_law_32 (by decide) (by decide) rfl rfl (hg _ _ s2))⟩
      · obtain ⟨μ2, h2, hg⟩ := law_duellist (l := l) hi hX (show i + 1 < 1000 by omega) h
        obtain ⟨S', s1, s2⟩ := hback μ2 h2
        exact ⟨S', s1, hsw _ _ (pv_tabIn (tgt := 264) (off := 232) t_L_law_32 (by decide) (by decide) rfl rfl (hg _ _ s2))⟩
      · obtain ⟨μ2, h2, hg⟩ := law_compliment (l := l) hi hX (show i + 1 < 1000 by omega) h
        obtain ⟨S', s1, s2⟩ := hback μ2 h2
        exact ⟨S', s1, hsw _ _ (pv_tabIn (tgt := 297) (off := 265) t_L_law_32 (by decide) (by decide) rfl rfl (hg _ _ s2))⟩
      · obtain ⟨μ2, h2, hg⟩ := law_truth (l := l) hi hX (show i + 1 < 1000 by omega) h
        obtain ⟨S', s1, s2⟩ := hback μ2 h2
        exact ⟨S', s1, hsw _ _ (pv_tabIn (tgt := 330) (off := 298) t_L_law_32 (by decide) (by decide) rfl rfl (hg _ _ s2))⟩
      · obtain ⟨μ2, h2, hg⟩ := law_effect (l := l) hi hX (show i + 1 < 1000 by omega) h
        obtain ⟨S', s1, s2⟩ := hback μ2 h2
        exact ⟨S', s1, hsw _ _ (pv_tabIn (tgt := 363) (off := 331) t_L_law_32 (by decide) (by decide) rfl rfl (hg _ _ s2))⟩
      · obtain ⟨μ2, h2, hg⟩ := law_duel (l := l) hi hX (show i + 1 < 1000 by omega) h
        obtain ⟨S', s1, s2⟩ := hback μ2 h2
        exact ⟨S', s1, hsw _ _ (pv_tabIn (tgt := 396) (off := 364) t_L_law_32 (by decide) (by decide) rfl rfl (hg _ _ s2))⟩
      · obtain ⟨μ2, h2, hg⟩ := law_say (l := l) hi hX (show i + 1 < 1000 by omega) h
        obtain ⟨S', s1, s2⟩ := hback μ2 h2
        exact ⟨S', s1, hsw _ _ (pv_tabIn (tgt := 429) (off := 397) t_L_law_32 (by decide) (by decide) rfl rfl (hg _ _ s2))⟩
      · obtain ⟨μ2, h2, hg⟩ := law_pass (l := l) hi hX (show i + 1 < 1000 by omega) h
        obtain ⟨S', s1, s2⟩ := hback μ2 h2
        exact ⟨S', s1, hsw _ _ (pv_tabIn (tgt := 452) (off := 420) t_L_law_32 (by decide) (by decide) rfl rfl (hg _ _ s2))⟩
      · obtain ⟨μ2, h2, hg⟩ := law_sorr (l := l) hi hX (show i + 1 < 1000 by omega) h
        obtain ⟨S', s1, s2⟩ := hback μ2 h2
        exact ⟨S', s1, hsw _ _ (pv_tabIn (tgt := 465) (off := 433) t_L_law_32 (by decide) (by decide) rfl rfl (hg _ _ s2))⟩
      · obtain ⟨μ2, h2, hg⟩ := law_undo (l := l) hi hX (show i + 1 < 1000 by omega) h
        obtain ⟨S', s1, s2⟩ := hback μ2 h2
        exact ⟨S', s1, hsw _ _ (pv_tabIn (tgt := 478) (off := 446) t_L_law_32 (by decide) (by decide) rfl rfl (hg _ _ s2))⟩
      · obtain ⟨μ2, h2, hg⟩ := law_act (l := l) hi hX (show i + 1 < 1000 by omega) h
        obtain ⟨S', s1, s2⟩ := hback μ2 h2
        exact ⟨S', s1, hsw _ _ (pv_tabIn (tgt := 501) (off := 469) t_L_law_32 (by decide) (by decide) rfl rfl (hg _ _ s2))⟩
      · obtain ⟨μ2, h2, hg⟩ := law_vanity (l := l) hi hX (show i + 1 < 1000 by omega) h
        obtain ⟨S', s1, s2⟩ := hback μ2 h2
        exact ⟨S', s1, hsw _ _ (pv_tabIn (tgt := 534) (off := 502) t_L_law_32 (by decide) (by decide) rfl rfl (hg _ _ s2))⟩
      · obtain ⟨μ2, h2, hg⟩ := law_drift (l := l) hi hX (show i + 1 < 1000 by omega) h
        obtain ⟨S', s1, s2⟩ := hback μ2 h2
        exact ⟨S', s1, hsw _ _ (pv_tabIn (tgt := 577) (off := 545) t_L_law_32 (by decide) (by decide) rfl rfl (hg _ _ s2))⟩
      · obtain ⟨μ2, h2, hg⟩ := law_best (l := l) hi hX (show i + 1 < 1000 by omega) h
        obtain ⟨S', s1, s2⟩ := hback μ2 h2
        exact ⟨S', s1, hsw _ _ (pv_tabIn (tgt := 600) (off := 568) t_L_law_32 (by decide) (by decide) rfl rfl (hg _ _ s2))⟩
      · obtain ⟨μ2, h2, hg⟩ := law_greatest (l := l) hi hX (show i + 1 < 1000 by omega) h
        obtain ⟨S', s1, s2⟩ := hback μ2 h2
        exact ⟨S', s1, hsw _ _ (pv_tabIn (tgt := 623) (off := 591) t_L_law_32 (by decide) (by decide) rfl rfl (hg _ _ s2))⟩
      · obtain ⟨μ2, h2, hg⟩ := law_harden (l := l) hi hX (show i + 1 < 1000 by omega) h
        obtain ⟨S', s1, s2⟩ := hback μ2 h2
        exact ⟨S', s1, hsw _ _ (pv_tabIn (tgt := 646) (off := 614) t_L_law_32 (by decide) (by decide) rfl rfl (hg _ _ s2))⟩
      · obtain ⟨μ2, h2, hg⟩ := law_deeds (l := l) hi hX (show i + 1 < 1000 by omega) h
        obtain ⟨S', s1, s2⟩ := hback μ2 h2
        exact ⟨S', s1, hsw _ _ (pv_tabIn (tgt := 699) (off := 667) t_L_law_32 (by decide) (by decide) rfl rfl (hg _ _ s2))⟩
      · obtain ⟨μ2, h2, hg⟩ := law_league (l := l) hi hX (show i + 1 < 1000 by omega) h
        obtain ⟨S', s1, s2⟩ := hback μ2 h2
        exact ⟨S', s1, hsw _ _ (pv_tabIn (tgt := 742) (off := 710) t_L_law_32 (by decide) (by decide) rfl rfl (hg _ _ s2))⟩
      · obtain ⟨μ2, h2, hg⟩ := law_met (l := l) hi hX (show i + 1 < 1000 by omega) h
        obtain ⟨S', s1, s2⟩ := hback μ2 h2
        exact ⟨S', s1, hsw _ _ (pv_tabIn (tgt := 765) (off := 733) t_L_law_32 (by decide) (by decide) rfl rfl (hg _ _ s2))⟩
      · obtain ⟨μ2, h2, hg⟩ := law_shared (l := l) hi hX (show i + 1 < 1000 by omega) h
        obtain ⟨S', s1, s2⟩ := hback μ2 h2
        exact ⟨S', s1, hsw _ _ (pv_tabIn (tgt := 798) (off := 766) t_L_law_32 (by decide) (by decide) rfl rfl (hg _ _ s2))⟩
      · obtain ⟨μ2, h2, hg⟩ := law_powder (l := l) hi hX (show i + 1 < 1000 by omega) h
        obtain ⟨S', s1, s2⟩ := hback μ2 h2
        exact ⟨S', s1, hsw _ _ (pv_tabIn (tgt := 831) (off := 799) t_L_law_32 (by decide) (by decide) rfl rfl (hg _ _ s2))⟩
      · obtain ⟨μ2, h2, hg⟩ := law_warm (l := l) hi hX (show i + 1 < 1000 by omega) h
        obtain ⟨S', s1, s2⟩ := hback μ2 h2
        exact ⟨S', s1, hsw _ _ (pv_tabIn (tgt := 844) (off := 812) t_L_law_32 (by decide) (by decide) rfl rfl (hg _ _ s2))⟩
      · obtain ⟨μ2, h2, hg⟩ := law_vain (l := l) hi hX (show i + 1 < 1000 by omega) h
        obtain ⟨S', s1, s2⟩ := hback μ2 h2
        exact ⟨S', s1, hsw _ _ (pv_tabIn (tgt := 897) (off := 865) t_L_law_32 (by decide) (by decide) rfl rfl (hg _ _ s2))⟩
      · obtain ⟨μ2, h2, hg⟩ := law_probe (l := l) hi hX (show i + 1 < 1000 by omega) h
        obtain ⟨S', s1, s2⟩ := hback μ2 h2
        exact ⟨S', s1, hsw _ _ (pv_tabIn (tgt := 930) (off := 898) t_L_law_32 (by decide) (by decide) rfl rfl (hg _ _ s2))⟩
      · obtain ⟨μ2, h2, hg⟩ := law_cheek (l := l) hi hX (show i + 1 < 1000 by omega) h
        obtain ⟨S', s1, s2⟩ := hback μ2 h2
        exact ⟨S', s1, hsw _ _ (pv_tabIn (tgt := 963) (off := 931) t_L_law_32 (by decide) (by decide) rfl rfl (hg _ _ s2))⟩
      · obtain ⟨μ2, h2, hg⟩ := law_said (l := l) hi hX (show i + 1 < 1000 by omega) h
        obtain ⟨S', s1, s2⟩ := hback μ2 h2
        exact ⟨S', s1, hsw _ _ (pv_tabIn (tgt := 986) (off := 954) t_L_law_32 (by decide) (by decide) rfl rfl (hg _ _ s2))⟩
      · obtain ⟨μ2, h2, hg⟩ := law_surely (l := l) hi hX (show i + 1 < 1000 by omega) h
        obtain ⟨S', s1, s2⟩ := hback μ2 h2
        exact ⟨S', s1, hsw _ _ (pv_tabIn (tgt := 1009) (off := 977) t_L_law_32 (by decide) (by decide) rfl rfl (hg _ _ s2))⟩
      · obtain ⟨μ2, h2, hg⟩ := law_write (l := l) hi hX (show i + 1 < 1000 by omega) h
        obtain ⟨S', s1, s2⟩ := hback μ2 h2
        exact ⟨S', s1, hsw _ _ (pv_tabIn (tgt := 1022) (off := 990) t_L_law_32 (by decide) (by decide) rfl rfl (hg _ _ s2))⟩
      · obtain ⟨μ2, h2, hg⟩ := law_judge (l := l) hi hX (show i + 1 < 1000 by omega) h
        obtain ⟨S', s1, s2⟩ := hback μ2 h2
        exact ⟨S', s1, hsw _ _ (pv_tabIn (tgt := 1045) (off := 1013) t_L_law_32 (by decide) (by decide) rfl rfl (hg _ _ s2))⟩
      · obtain ⟨μ2, h2, hg⟩ := law_tear (l := l) hi hX (show i + 1 < 1000 by omega) h
        obtain ⟨S', s1, s2⟩ := hback μ2 h2
        exact ⟨S', s1, hsw _ _ (pv_tabIn (tgt := 1068) (off := 1036) t_L_law_32 (by decide) (by decide) rfl rfl (hg _ _ s2))⟩
      · obtain ⟨μ2, h2, hg⟩ := law_seed (l := l) hi hX (show i + 1 < 1000 by omega) h
        obtain ⟨S', s1, s2⟩ := hback μ2 h2
        exact ⟨S', s1, hsw _ _ (pv_tabIn (tgt := 1081) (off := 1049) t_L_law_32 (by decide) (by decide) rfl rfl (hg _ _ s2))⟩
      · obtain ⟨μ2, h2, hg⟩ := law_keep (l := l) hi hX (show i + 1 < 1000 by omega) h
        obtain ⟨S', s1, s2⟩ := hback μ2 h2
        exact ⟨S', s1, hsw _ _ (pv_tabIn (tgt := 1104) (off := 1072) t_L_law_32 (by decide) (by decide) rfl rfl (hg _ _ s2))⟩
      · obtain ⟨μ2, h2, hg⟩ := law_goBack (l := l) hi hX (show i + 1 < 1000 by omega) h
        obtain ⟨S', s1, s2⟩ := hback μ2 h2
        exact ⟨S', s1, hsw _ _ (pv_tabIn (tgt := 1127) (off := 1095) t_L_law_32 (by decide) (by decide) rfl rfl (hg _ _ s2))⟩
    · refine ⟨(zSH, ν), rfl, ?_⟩
      refine pv_iload_n (i := 3) t_L_law_18 rfl rfl ?_
      refine pv_aload_n (i := 0) t_L_law_19 rfl rfl ?_
      refine sc_len t_L_law_20 ?_
      refine pv_iconst (v := 5) t_L_law_21 zi_5 ?_
      refine pv_isub t_L_law_22 ?_
      exact pv_icmp_gt t_L_law_23 (fun _ => hend i ν) (fun c => absurd ((hcmp i (by omega)).mpr (by omega)) c)
