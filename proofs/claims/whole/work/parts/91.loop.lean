/-! the law's loop: every answer of the class is the reference's -/
theorem p_sldN {d y pc cn : Nat} {ls : List (Nat × Value)} {rest : List Value} {I : Nat → Nat → Int32} {J : Nat → Nat → Int64} {K : Nat → Nat → Option Nat} {h : List xSh} {Φ : xPost} {k n : Nat} {sc : Nat → Int32} (hd0 : xdec y pc = some (cn, .iaload, 1)) (hk : k < n) (hn9 : n ≤ 3072) (hsc : I 1000000 = sc) (hn : I 1000001 0 = nI n) (k0 : EvP d y (pc + 1) ls (.int (sc k) :: rest) (I, J, K, h) Φ) : EvP d y pc ls (.int (nI k) :: .ref 1000000 :: rest) (I, J, K, h) Φ :=
  p_sld hd0 (by rw [hn, nI_clamp (show n < 2 ^ 31 by omega)]; exact vp_in_nI hk (by omega)) (by rw [nI_clamp (show k < 2 ^ 31 by omega), hsc]; exact k0)
theorem and63 (x : Int32) : ∃ v, v < 64 ∧ x &&& nI 63 = nI v := by
  refine ⟨(x.toBitVec &&& 63#32).toNat, ?_, ?_⟩
  · rw [BitVec.toNat_and]
    exact Nat.lt_of_le_of_lt Nat.and_le_right (by decide)
  · apply Int32.toBitVec_inj.mp
    show x.toBitVec &&& 63#32 = BitVec.ofNat 32 _
    rw [BitVec.ofNat_toNat, BitVec.setWidth_eq]
theorem lg_self (x : Int64) : lg_cmp x x = 0 := by
  unfold lg_cmp
  simp
theorem le6 {n i : Nat} (hn : n ≤ 3072) (hi : i ≤ n) (h : ¬ nI n - nI 6 < nI i) : i + 6 ≤ n := by
  rw [i_lt, Int32.toInt_sub, nI_t (by omega), nI_t (by omega), nI_t (by omega), Int.bmod_eq_of_le (by omega) (by omega)] at h
  omega
theorem gt6 {n i : Nat} (hn : n ≤ 3072) (hi : i ≤ n) (h : n ≤ i + 5) : nI n - nI 6 < nI i := by
  rw [i_lt, Int32.toInt_sub, nI_t (by omega), nI_t (by omega), nI_t (by omega), Int.bmod_eq_of_le (by omega) (by omega)]
  omega
set_option maxRecDepth 100000 in
set_option maxHeartbeats 40000000 in
theorem LAW_18 {d n B : Nat} {sc : Nat → Int32} (hn9 : n ≤ 3072) (hB : B ≤ 899999) : ∀ (j i N : Nat) (I : Nat → Nat → Int32) (J : Nat → Nat → Int64) (K : Nat → Nat → Option Nat) (h : List xSh), n ≤ i + 6 * j + 5 → i ≤ n → N + j ≤ B → INV I J K h N → I 1000000 = sc → I 1000001 0 = nI n → EvP (d + 21) 244 18 [(0, .ref (1000000)), (1, .ref (0)), (2, .ref (98)), (3, .int (nI (i)))] [] (I, J, K, h) (QI (fun x t => x = bI true ∧ HL t.2.2.2 B)) := by
  intro j
  induction j with
  | zero =>
    intro i N I J K h h1 h2 h3 H hsc hn
    have S := H.1.1
    refine p_iload_n k244_18 rfl ?_
    refine p_aload_n k244_19 rfl ?_
    refine p_slen k244_20 ?_
    refine p_toI (z := (nI (n))) hn ?_
    refine p_bipush (v := nI 6) k244_21 (by decide) ?_
    refine p_isub k244_23 ?_
    refine p_icmp_gt (tgt := 1512) k244_24 (by decide) (fun _ => ?_) (fun c => False.elim (by exact c (gt6 hn9 h2 h1)))
    refine p_iconst (v := bI true) k244_1512 (by decide) ?_
    refine p_returnB k244_1513 rt_244 ?_
    exact ⟨rfl, H.1.2.mono (by omega)⟩
  | succ j ih =>
    intro i N I J K h h1 h2 h3 H hsc hn
    have S := H.1.1
    refine p_iload_n k244_18 rfl ?_
    refine p_aload_n k244_19 rfl ?_
    refine p_slen k244_20 ?_
    refine p_toI (z := (nI (n))) hn ?_
    refine p_bipush (v := nI 6) k244_21 (by decide) ?_
    refine p_isub k244_23 ?_
    refine p_icmp_gt (tgt := 1512) k244_24 (by decide) (fun cq24 => ?_) (fun cq24 => ?_)
    · skip
      refine p_iconst (v := bI true) k244_1512 (by decide) ?_
      refine p_returnB k244_1513 rt_244 ?_
      exact ⟨rfl, H.1.2.mono (by omega)⟩
    · skip
      have h6 := le6 hn9 h2 cq24
      refine p_aload_n k244_27 rfl ?_
      refine p_iload_n k244_28 rfl ?_
      refine p_sldN k244_29 (by omega) hn9 (by assumption) (by assumption) ?_
      refine p_bipush (v := nI 63) k244_30 (by decide) ?_
      refine p_iand k244_32 ?_
      obtain ⟨v, hv64, hv⟩ := and63 (sc i)
      refine p_toI (z := (nI (v))) hv ?_
      rcases (show v = 0 ∨ v = 1 ∨ v = 2 ∨ v = 3 ∨ v = 4 ∨ v = 5 ∨ v = 6 ∨ v = 7 ∨ v = 8 ∨ v = 9 ∨ v = 10 ∨ v = 11 ∨ v = 12 ∨ v = 13 ∨ v = 14 ∨ v = 15 ∨ v = 16 ∨ v = 17 ∨ v = 18 ∨ v = 19 ∨ v = 20 ∨ v = 21 ∨ v = 22 ∨ v = 23 ∨ v = 24 ∨ v = 25 ∨ v = 26 ∨ v = 27 ∨ v = 28 ∨ v = 29 ∨ v = 30 ∨ v = 31 ∨ v = 32 ∨ v = 33 ∨ v = 34 ∨ v = 35 ∨ v = 36 ∨ v = 37 ∨ v = 38 ∨ v = 39 ∨ v = 40 ∨ v = 41 ∨ v = 42 ∨ v = 43 ∨ v = 44 ∨ 45 ≤ v by omega) with rfl | rfl | rfl | rfl | rfl | rfl | rfl | rfl | rfl | rfl | rfl | rfl | rfl | rfl | rfl | rfl | rfl | rfl | rfl | rfl | rfl | rfl | rfl | rfl | rfl | rfl | rfl | rfl | rfl | rfl | rfl | rfl | rfl | rfl | rfl | rfl | rfl | rfl | rfl | rfl | rfl | rfl | rfl | rfl | rfl | hv45
      · skip
        refine p_tswI (tgt := 228) k244_33 (by decide) (by decide) (by decide) rfl (by decide) ?_
        refine p_aload_n k244_228 rfl ?_
        refine p_aload_n k244_229 rfl ?_
        refine p_iload_n k244_230 rfl ?_
        refine p_iconst (v := nI 1) k244_231 (by decide) ?_
        refine p_iaddN k244_232 ?_
        refine p_sldN k244_233 (by omega) hn9 (by assumption) (by assumption) ?_
        refine p_cV1i k244_234 (s_0 S) c_13_13_11 rfl (Nat.le_of_ble_eq_true rfl) (LC_head H hsc hn _) (fun x1 m1 hq => ?_)
        obtain ⟨I1, J1, K1, h1a, rfl, S1, ⟨hs1, hn1⟩, hR⟩ := hq
        generalize x1 = xa at hR ⊢
        replace S := S1
        refine p_aload_n k244_237 rfl ?_
        refine p_aload_n k244_238 rfl ?_
        refine p_iload_n k244_239 rfl ?_
        refine p_iconst (v := nI 1) k244_240 (by decide) ?_
        refine p_iaddN k244_241 ?_
        refine p_sldN k244_242 (by omega) hn9 (by assumption) (by assumption) ?_
        refine p_cV1i k244_243 (s_98 S) c_13_17_12 rfl (Nat.le_of_ble_eq_true rfl) (hR _) (fun x1 m1 hq => ?_)
        obtain ⟨rfl, I2, J2, K2, h2a, rfl, hI2, hs2, hn2⟩ := hq
        refine p_icmp_eq (tgt := 1506) k244_246 (by decide) (fun _ => ?_) (fun c => False.elim (by exact c rfl))
        refine p_iinc (v := (nI (i + 6))) (ls' := [(0, _), (1, _), (2, _), (3, _)]) k244_1506 rfl (nI_add i 6) rfl ?_
        refine p_goto (tgt := 18) k244_1509 (by decide) ?_
        exact ih (i + 6) (N + 1) I2 J2 K2 h2a (by omega) (by omega) (by omega) hI2 hs2 hn2
      · skip
        refine p_tswI (tgt := 251) k244_33 (by decide) (by decide) (by decide) rfl (by decide) ?_
        refine p_aload_n k244_251 rfl ?_
        refine p_aload_n k244_252 rfl ?_
        refine p_iload_n k244_253 rfl ?_
        refine p_iconst (v := nI 1) k244_254 (by decide) ?_
        refine p_iaddN k244_255 ?_
        refine p_sldN k244_256 (by omega) hn9 (by assumption) (by assumption) ?_
        refine p_aload_n k244_257 rfl ?_
        refine p_iload_n k244_258 rfl ?_
        refine p_iconst (v := nI 2) k244_259 (by decide) ?_
        refine p_iaddN k244_260 ?_
        refine p_sldN k244_261 (by omega) hn9 (by assumption) (by assumption) ?_
        refine p_aload_n k244_262 rfl ?_
        refine p_iload_n k244_263 rfl ?_
        refine p_iconst (v := nI 3) k244_264 (by decide) ?_
        refine p_iaddN k244_265 ?_
        refine p_sldN k244_266 (by omega) hn9 (by assumption) (by assumption) ?_
        refine p_aload_n k244_267 rfl ?_
        refine p_iload_n k244_268 rfl ?_
        refine p_iconst (v := nI 4) k244_269 (by decide) ?_
        refine p_iaddN k244_270 ?_
        refine p_sldN k244_271 (by omega) hn9 (by assumption) (by assumption) ?_
        refine p_aload_n k244_272 rfl ?_
        refine p_iload_n k244_273 rfl ?_
        refine p_iconst (v := nI 5) k244_274 (by decide) ?_
        refine p_iaddN k244_275 ?_
        refine p_sldN k244_276 (by omega) hn9 (by assumption) (by assumption) ?_
        refine p_cV5i k244_277 (s_0 S) c_13_18_11 rfl rfl rfl rfl rfl (Nat.le_of_ble_eq_true rfl) (LC_hat H hsc hn (by omega) _ _ _ _ _) (fun x1 m1 hq => ?_)
        obtain ⟨I1, J1, K1, h1a, rfl, S1, ⟨hs1, hn1⟩, hR⟩ := hq
        generalize x1 = xa at hR ⊢
        replace S := S1
        refine p_aload_n k244_280 rfl ?_
        refine p_aload_n k244_281 rfl ?_
        refine p_iload_n k244_282 rfl ?_
        refine p_iconst (v := nI 1) k244_283 (by decide) ?_
        refine p_iaddN k244_284 ?_
        refine p_sldN k244_285 (by omega) hn9 (by assumption) (by assumption) ?_
        refine p_aload_n k244_286 rfl ?_
        refine p_iload_n k244_287 rfl ?_
        refine p_iconst (v := nI 2) k244_288 (by decide) ?_
        refine p_iaddN k244_289 ?_
        refine p_sldN k244_290 (by omega) hn9 (by assumption) (by assumption) ?_
        refine p_aload_n k244_291 rfl ?_
        refine p_iload_n k244_292 rfl ?_
        refine p_iconst (v := nI 3) k244_293 (by decide) ?_
        refine p_iaddN k244_294 ?_
        refine p_sldN k244_295 (by omega) hn9 (by assumption) (by assumption) ?_
        refine p_aload_n k244_296 rfl ?_
        refine p_iload_n k244_297 rfl ?_
        refine p_iconst (v := nI 4) k244_298 (by decide) ?_
        refine p_iaddN k244_299 ?_
        refine p_sldN k244_300 (by omega) hn9 (by assumption) (by assumption) ?_
        refine p_aload_n k244_301 rfl ?_
        refine p_iload_n k244_302 rfl ?_
        refine p_iconst (v := nI 5) k244_303 (by decide) ?_
        refine p_iaddN k244_304 ?_
        refine p_sldN k244_305 (by omega) hn9 (by assumption) (by assumption) ?_
        refine p_cV5i k244_306 (s_98 S) c_13_22_12 rfl rfl rfl rfl rfl (Nat.le_of_ble_eq_true rfl) (hR _) (fun x1 m1 hq => ?_)
        obtain ⟨rfl, I2, J2, K2, h2a, rfl, hI2, hs2, hn2⟩ := hq
        refine p_icmp_eq (tgt := 1506) k244_309 (by decide) (fun _ => ?_) (fun c => False.elim (by exact c rfl))
        refine p_iinc (v := (nI (i + 6))) (ls' := [(0, _), (1, _), (2, _), (3, _)]) k244_1506 rfl (nI_add i 6) rfl ?_
        refine p_goto (tgt := 18) k244_1509 (by decide) ?_
        exact ih (i + 6) (N + 1) I2 J2 K2 h2a (by omega) (by omega) (by omega) hI2 hs2 hn2
      · skip
        refine p_tswI (tgt := 314) k244_33 (by decide) (by decide) (by decide) rfl (by decide) ?_
        refine p_aload_n k244_314 rfl ?_
        refine p_aload_n k244_315 rfl ?_
        refine p_iload_n k244_316 rfl ?_
        refine p_iconst (v := nI 1) k244_317 (by decide) ?_
        refine p_iaddN k244_318 ?_
        refine p_sldN k244_319 (by omega) hn9 (by assumption) (by assumption) ?_
        refine p_aload_n k244_320 rfl ?_
        refine p_iload_n k244_321 rfl ?_
        refine p_iconst (v := nI 2) k244_322 (by decide) ?_
        refine p_iaddN k244_323 ?_
        refine p_sldN k244_324 (by omega) hn9 (by assumption) (by assumption) ?_
        refine p_cV2i k244_325 (s_0 S) c_13_23_11 rfl rfl (Nat.le_of_ble_eq_true rfl) (LC_of H hsc hn _ _) (fun x1 m1 hq => ?_)
        obtain ⟨I1, J1, K1, h1a, rfl, S1, ⟨hs1, hn1⟩, hR⟩ := hq
        generalize x1 = xa at hR ⊢
        replace S := S1
        refine p_aload_n k244_328 rfl ?_
        refine p_aload_n k244_329 rfl ?_
        refine p_iload_n k244_330 rfl ?_
        refine p_iconst (v := nI 1) k244_331 (by decide) ?_
        refine p_iaddN k244_332 ?_
        refine p_sldN k244_333 (by omega) hn9 (by assumption) (by assumption) ?_
        refine p_aload_n k244_334 rfl ?_
        refine p_iload_n k244_335 rfl ?_
        refine p_iconst (v := nI 2) k244_336 (by decide) ?_
        refine p_iaddN k244_337 ?_
        refine p_sldN k244_338 (by omega) hn9 (by assumption) (by assumption) ?_
        refine p_cV2i k244_339 (s_98 S) c_13_27_12 rfl rfl (Nat.le_of_ble_eq_true rfl) (hR _) (fun x1 m1 hq => ?_)
        obtain ⟨rfl, I2, J2, K2, h2a, rfl, hI2, hs2, hn2⟩ := hq
        refine p_icmp_eq (tgt := 1506) k244_342 (by decide) (fun _ => ?_) (fun c => False.elim (by exact c rfl))
        refine p_iinc (v := (nI (i + 6))) (ls' := [(0, _), (1, _), (2, _), (3, _)]) k244_1506 rfl (nI_add i 6) rfl ?_
        refine p_goto (tgt := 18) k244_1509 (by decide) ?_
        exact ih (i + 6) (N + 1) I2 J2 K2 h2a (by omega) (by omega) (by omega) hI2 hs2 hn2
      · skip
        refine p_tswI (tgt := 347) k244_33 (by decide) (by decide) (by decide) rfl (by decide) ?_
        refine p_aload_n k244_347 rfl ?_
        refine p_aload_n k244_348 rfl ?_
        refine p_iload_n k244_349 rfl ?_
        refine p_iconst (v := nI 1) k244_350 (by decide) ?_
        refine p_iaddN k244_351 ?_
        refine p_sldN k244_352 (by omega) hn9 (by assumption) (by assumption) ?_
        refine p_aload_n k244_353 rfl ?_
        refine p_iload_n k244_354 rfl ?_
        refine p_iconst (v := nI 2) k244_355 (by decide) ?_
        refine p_iaddN k244_356 ?_
        refine p_sldN k244_357 (by omega) hn9 (by assumption) (by assumption) ?_
        refine p_cV2i k244_358 (s_0 S) c_13_28_11 rfl rfl (Nat.le_of_ble_eq_true rfl) (LC_at H hsc hn _ _) (fun x1 m1 hq => ?_)
        obtain ⟨I1, J1, K1, h1a, rfl, S1, ⟨hs1, hn1⟩, hR⟩ := hq
        generalize x1 = xa at hR ⊢
        replace S := S1
        refine p_aload_n k244_361 rfl ?_
        refine p_aload_n k244_362 rfl ?_
        refine p_iload_n k244_363 rfl ?_
        refine p_iconst (v := nI 1) k244_364 (by decide) ?_
        refine p_iaddN k244_365 ?_
        refine p_sldN k244_366 (by omega) hn9 (by assumption) (by assumption) ?_
        refine p_aload_n k244_367 rfl ?_
        refine p_iload_n k244_368 rfl ?_
        refine p_iconst (v := nI 2) k244_369 (by decide) ?_
        refine p_iaddN k244_370 ?_
        refine p_sldN k244_371 (by omega) hn9 (by assumption) (by assumption) ?_
        refine p_cV2i k244_372 (s_98 S) c_13_31_12 rfl rfl (Nat.le_of_ble_eq_true rfl) (hR _) (fun x1 m1 hq => ?_)
        obtain ⟨rfl, I2, J2, K2, h2a, rfl, hI2, hs2, hn2⟩ := hq
        refine p_icmp_eq (tgt := 1506) k244_375 (by decide) (fun _ => ?_) (fun c => False.elim (by exact c rfl))
        refine p_iinc (v := (nI (i + 6))) (ls' := [(0, _), (1, _), (2, _), (3, _)]) k244_1506 rfl (nI_add i 6) rfl ?_
        refine p_goto (tgt := 18) k244_1509 (by decide) ?_
        exact ih (i + 6) (N + 1) I2 J2 K2 h2a (by omega) (by omega) (by omega) hI2 hs2 hn2
      · skip
        refine p_tswI (tgt := 380) k244_33 (by decide) (by decide) (by decide) rfl (by decide) ?_
        refine p_aload_n k244_380 rfl ?_
        refine p_aload_n k244_381 rfl ?_
        refine p_iload_n k244_382 rfl ?_
        refine p_iconst (v := nI 1) k244_383 (by decide) ?_
        refine p_iaddN k244_384 ?_
        refine p_sldN k244_385 (by omega) hn9 (by assumption) (by assumption) ?_
        refine p_aload_n k244_386 rfl ?_
        refine p_iload_n k244_387 rfl ?_
        refine p_iconst (v := nI 2) k244_388 (by decide) ?_
        refine p_iaddN k244_389 ?_
        refine p_sldN k244_390 (by omega) hn9 (by assumption) (by assumption) ?_
        refine p_aload_n k244_391 rfl ?_
        refine p_iload_n k244_392 rfl ?_
        refine p_iconst (v := nI 3) k244_393 (by decide) ?_
        refine p_iaddN k244_394 ?_
        refine p_sldN k244_395 (by omega) hn9 (by assumption) (by assumption) ?_
        refine p_cV3i k244_396 (s_0 S) c_13_32_11 rfl rfl rfl (Nat.le_of_ble_eq_true rfl) (LC_row H hsc hn _ _ _) (fun x1 m1 hq => ?_)
        obtain ⟨I1, J1, K1, h1a, rfl, S1, ⟨hs1, hn1⟩, hR⟩ := hq
        generalize x1 = xa at hR ⊢
        replace S := S1
        refine p_aload_n k244_399 rfl ?_
        refine p_aload_n k244_400 rfl ?_
        refine p_iload_n k244_401 rfl ?_
        refine p_iconst (v := nI 1) k244_402 (by decide) ?_
        refine p_iaddN k244_403 ?_
        refine p_sldN k244_404 (by omega) hn9 (by assumption) (by assumption) ?_
        refine p_aload_n k244_405 rfl ?_
        refine p_iload_n k244_406 rfl ?_
        refine p_iconst (v := nI 2) k244_407 (by decide) ?_
        refine p_iaddN k244_408 ?_
        refine p_sldN k244_409 (by omega) hn9 (by assumption) (by assumption) ?_
        refine p_aload_n k244_410 rfl ?_
        refine p_iload_n k244_411 rfl ?_
        refine p_iconst (v := nI 3) k244_412 (by decide) ?_
        refine p_iaddN k244_413 ?_
        refine p_sldN k244_414 (by omega) hn9 (by assumption) (by assumption) ?_
        refine p_cV3i k244_415 (s_98 S) c_13_36_12 rfl rfl rfl (Nat.le_of_ble_eq_true rfl) (hR _) (fun x1 m1 hq => ?_)
        obtain ⟨rfl, I2, J2, K2, h2a, rfl, hI2, hs2, hn2⟩ := hq
        refine p_icmp_eq (tgt := 1506) k244_418 (by decide) (fun _ => ?_) (fun c => False.elim (by exact c rfl))
        refine p_iinc (v := (nI (i + 6))) (ls' := [(0, _), (1, _), (2, _), (3, _)]) k244_1506 rfl (nI_add i 6) rfl ?_
        refine p_goto (tgt := 18) k244_1509 (by decide) ?_
        exact ih (i + 6) (N + 1) I2 J2 K2 h2a (by omega) (by omega) (by omega) hI2 hs2 hn2
      · skip
        refine p_tswI (tgt := 423) k244_33 (by decide) (by decide) (by decide) rfl (by decide) ?_
        refine p_aload_n k244_423 rfl ?_
        refine p_aload_n k244_424 rfl ?_
        refine p_iload_n k244_425 rfl ?_
        refine p_iconst (v := nI 1) k244_426 (by decide) ?_
        refine p_iaddN k244_427 ?_
        refine p_sldN k244_428 (by omega) hn9 (by assumption) (by assumption) ?_
        refine p_aload_n k244_429 rfl ?_
        refine p_iload_n k244_430 rfl ?_
        refine p_iconst (v := nI 2) k244_431 (by decide) ?_
        refine p_iaddN k244_432 ?_
        refine p_sldN k244_433 (by omega) hn9 (by assumption) (by assumption) ?_
        refine p_cV2i k244_434 (s_0 S) c_13_37_11 rfl rfl (Nat.le_of_ble_eq_true rfl) (LC_put H hsc hn _ _) (fun x1 m1 hq => ?_)
        obtain ⟨I1, J1, K1, h1a, rfl, S1, ⟨hs1, hn1⟩, hR⟩ := hq
        generalize x1 = xa at hR ⊢
        replace S := S1
        refine p_aload_n k244_437 rfl ?_
        refine p_aload_n k244_438 rfl ?_
        refine p_iload_n k244_439 rfl ?_
        refine p_iconst (v := nI 1) k244_440 (by decide) ?_
        refine p_iaddN k244_441 ?_
        refine p_sldN k244_442 (by omega) hn9 (by assumption) (by assumption) ?_
        refine p_aload_n k244_443 rfl ?_
        refine p_iload_n k244_444 rfl ?_
        refine p_iconst (v := nI 2) k244_445 (by decide) ?_
        refine p_iaddN k244_446 ?_
        refine p_sldN k244_447 (by omega) hn9 (by assumption) (by assumption) ?_
        refine p_cV2i k244_448 (s_98 S) c_13_40_12 rfl rfl (Nat.le_of_ble_eq_true rfl) (hR _) (fun x1 m1 hq => ?_)
        obtain ⟨rfl, I2, J2, K2, h2a, rfl, hI2, hs2, hn2⟩ := hq
        refine p_icmp_eq (tgt := 1506) k244_451 (by decide) (fun _ => ?_) (fun c => False.elim (by exact c rfl))
        refine p_iinc (v := (nI (i + 6))) (ls' := [(0, _), (1, _), (2, _), (3, _)]) k244_1506 rfl (nI_add i 6) rfl ?_
        refine p_goto (tgt := 18) k244_1509 (by decide) ?_
        exact ih (i + 6) (N + 1) I2 J2 K2 h2a (by omega) (by omega) (by omega) hI2 hs2 hn2
      · skip
        refine p_tswI (tgt := 456) k244_33 (by decide) (by decide) (by decide) rfl (by decide) ?_
        refine p_aload_n k244_456 rfl ?_
        refine p_aload_n k244_457 rfl ?_
        refine p_iload_n k244_458 rfl ?_
        refine p_iconst (v := nI 1) k244_459 (by decide) ?_
        refine p_iaddN k244_460 ?_
        refine p_sldN k244_461 (by omega) hn9 (by assumption) (by assumption) ?_
        refine p_aload_n k244_462 rfl ?_
        refine p_iload_n k244_463 rfl ?_
        refine p_iconst (v := nI 2) k244_464 (by decide) ?_
        refine p_iaddN k244_465 ?_
        refine p_sldN k244_466 (by omega) hn9 (by assumption) (by assumption) ?_
        refine p_cV2i k244_467 (s_0 S) c_13_41_11 rfl rfl (Nat.le_of_ble_eq_true rfl) (LC_own H hsc hn _ _) (fun x1 m1 hq => ?_)
        obtain ⟨I1, J1, K1, h1a, rfl, S1, ⟨hs1, hn1⟩, hR⟩ := hq
        generalize x1 = xa at hR ⊢
        replace S := S1
        refine p_aload_n k244_470 rfl ?_
        refine p_aload_n k244_471 rfl ?_
        refine p_iload_n k244_472 rfl ?_
        refine p_iconst (v := nI 1) k244_473 (by decide) ?_
        refine p_iaddN k244_474 ?_
        refine p_sldN k244_475 (by omega) hn9 (by assumption) (by assumption) ?_
        refine p_aload_n k244_476 rfl ?_
        refine p_iload_n k244_477 rfl ?_
        refine p_iconst (v := nI 2) k244_478 (by decide) ?_
        refine p_iaddN k244_479 ?_
        refine p_sldN k244_480 (by omega) hn9 (by assumption) (by assumption) ?_
        refine p_cV2i k244_481 (s_98 S) c_13_44_12 rfl rfl (Nat.le_of_ble_eq_true rfl) (hR _) (fun x1 m1 hq => ?_)
        obtain ⟨rfl, I2, J2, K2, h2a, rfl, hI2, hs2, hn2⟩ := hq
        refine p_icmp_eq (tgt := 1506) k244_484 (by decide) (fun _ => ?_) (fun c => False.elim (by exact c rfl))
        refine p_iinc (v := (nI (i + 6))) (ls' := [(0, _), (1, _), (2, _), (3, _)]) k244_1506 rfl (nI_add i 6) rfl ?_
        refine p_goto (tgt := 18) k244_1509 (by decide) ?_
        exact ih (i + 6) (N + 1) I2 J2 K2 h2a (by omega) (by omega) (by omega) hI2 hs2 hn2
      · skip
        refine p_tswI (tgt := 489) k244_33 (by decide) (by decide) (by decide) rfl (by decide) ?_
        refine p_aload_n k244_489 rfl ?_
        refine p_aload_n k244_490 rfl ?_
        refine p_iload_n k244_491 rfl ?_
        refine p_iconst (v := nI 1) k244_492 (by decide) ?_
        refine p_iaddN k244_493 ?_
        refine p_sldN k244_494 (by omega) hn9 (by assumption) (by assumption) ?_
        refine p_aload_n k244_495 rfl ?_
        refine p_iload_n k244_496 rfl ?_
        refine p_iconst (v := nI 2) k244_497 (by decide) ?_
        refine p_iaddN k244_498 ?_
        refine p_sldN k244_499 (by omega) hn9 (by assumption) (by assumption) ?_
        refine p_cV2i k244_500 (s_0 S) c_13_45_11 rfl rfl (Nat.le_of_ble_eq_true rfl) (LC_skill H hsc hn _ _) (fun x1 m1 hq => ?_)
        obtain ⟨I1, J1, K1, h1a, rfl, S1, ⟨hs1, hn1⟩, hR⟩ := hq
        generalize x1 = xa at hR ⊢
        replace S := S1
        refine p_aload_n k244_503 rfl ?_
        refine p_aload_n k244_504 rfl ?_
        refine p_iload_n k244_505 rfl ?_
        refine p_iconst (v := nI 1) k244_506 (by decide) ?_
        refine p_iaddN k244_507 ?_
        refine p_sldN k244_508 (by omega) hn9 (by assumption) (by assumption) ?_
        refine p_aload_n k244_509 rfl ?_
        refine p_iload_n k244_510 rfl ?_
        refine p_iconst (v := nI 2) k244_511 (by decide) ?_
        refine p_iaddN k244_512 ?_
        refine p_sldN k244_513 (by omega) hn9 (by assumption) (by assumption) ?_
        refine p_cV2i k244_514 (s_98 S) c_13_48_12 rfl rfl (Nat.le_of_ble_eq_true rfl) (hR _) (fun x1 m1 hq => ?_)
        obtain ⟨rfl, I2, J2, K2, h2a, rfl, hI2, hs2, hn2⟩ := hq
        refine p_icmp_eq (tgt := 1506) k244_517 (by decide) (fun _ => ?_) (fun c => False.elim (by exact c rfl))
        refine p_iinc (v := (nI (i + 6))) (ls' := [(0, _), (1, _), (2, _), (3, _)]) k244_1506 rfl (nI_add i 6) rfl ?_
        refine p_goto (tgt := 18) k244_1509 (by decide) ?_
        exact ih (i + 6) (N + 1) I2 J2 K2 h2a (by omega) (by omega) (by omega) hI2 hs2 hn2
      · skip
        refine p_tswI (tgt := 522) k244_33 (by decide) (by decide) (by decide) rfl (by decide) ?_
        refine p_aload_n k244_522 rfl ?_
        refine p_aload_n k244_523 rfl ?_
        refine p_iload_n k244_524 rfl ?_
        refine p_iconst (v := nI 1) k244_525 (by decide) ?_
        refine p_iaddN k244_526 ?_
        refine p_sldN k244_527 (by omega) hn9 (by assumption) (by assumption) ?_
        refine p_cV1i k244_528 (s_0 S) c_13_49_11 rfl (Nat.le_of_ble_eq_true rfl) (LC_feed H hsc hn _) (fun x1 m1 hq => ?_)
        obtain ⟨I1, J1, K1, h1a, rfl, S1, ⟨hs1, hn1⟩, hR⟩ := hq
        generalize x1 = xa at hR ⊢
        replace S := S1
        refine p_aload_n k244_531 rfl ?_
        refine p_aload_n k244_532 rfl ?_
        refine p_iload_n k244_533 rfl ?_
        refine p_iconst (v := nI 1) k244_534 (by decide) ?_
        refine p_iaddN k244_535 ?_
        refine p_sldN k244_536 (by omega) hn9 (by assumption) (by assumption) ?_
        refine p_cV1i k244_537 (s_98 S) c_13_52_12 rfl (Nat.le_of_ble_eq_true rfl) (hR _) (fun x1 m1 hq => ?_)
        obtain ⟨rfl, I2, J2, K2, h2a, rfl, hI2, hs2, hn2⟩ := hq
        refine p_icmp_eq (tgt := 1506) k244_540 (by decide) (fun _ => ?_) (fun c => False.elim (by exact c rfl))
        refine p_iinc (v := (nI (i + 6))) (ls' := [(0, _), (1, _), (2, _), (3, _)]) k244_1506 rfl (nI_add i 6) rfl ?_
        refine p_goto (tgt := 18) k244_1509 (by decide) ?_
        exact ih (i + 6) (N + 1) I2 J2 K2 h2a (by omega) (by omega) (by omega) hI2 hs2 hn2
      · skip
        refine p_tswI (tgt := 545) k244_33 (by decide) (by decide) (by decide) rfl (by decide) ?_
        refine p_aload_n k244_545 rfl ?_
        refine p_cV0i k244_546 (s_0 S) c_13_53_11 (Nat.le_of_ble_eq_true rfl) (LC_town H hsc hn) (fun x1 m1 hq => ?_)
        obtain ⟨I1, J1, K1, h1a, rfl, S1, ⟨hs1, hn1⟩, hR⟩ := hq
        generalize x1 = xa at hR ⊢
        replace S := S1
        refine p_aload_n k244_549 rfl ?_
        refine p_cV0i k244_550 (s_98 S) c_13_57_12 (Nat.le_of_ble_eq_true rfl) (hR _) (fun x1 m1 hq => ?_)
        obtain ⟨rfl, I2, J2, K2, h2a, rfl, hI2, hs2, hn2⟩ := hq
        refine p_icmp_eq (tgt := 1506) k244_553 (by decide) (fun _ => ?_) (fun c => False.elim (by exact c rfl))
        refine p_iinc (v := (nI (i + 6))) (ls' := [(0, _), (1, _), (2, _), (3, _)]) k244_1506 rfl (nI_add i 6) rfl ?_
        refine p_goto (tgt := 18) k244_1509 (by decide) ?_
        exact ih (i + 6) (N + 1) I2 J2 K2 h2a (by omega) (by omega) (by omega) hI2 hs2 hn2
      · skip
        refine p_tswI (tgt := 558) k244_33 (by decide) (by decide) (by decide) rfl (by decide) ?_
        refine p_aload_n k244_558 rfl ?_
        refine p_aload_n k244_559 rfl ?_
        refine p_iload_n k244_560 rfl ?_
        refine p_iconst (v := nI 1) k244_561 (by decide) ?_
        refine p_iaddN k244_562 ?_
        refine p_sldN k244_563 (by omega) hn9 (by assumption) (by assumption) ?_
        refine p_cV1i k244_564 (s_0 S) c_13_58_11 rfl (Nat.le_of_ble_eq_true rfl) (LC_told H hsc hn _) (fun x1 m1 hq => ?_)
        obtain ⟨I1, J1, K1, h1a, rfl, S1, ⟨hs1, hn1⟩, hR⟩ := hq
        generalize x1 = xa at hR ⊢
        replace S := S1
        refine p_aload_n k244_567 rfl ?_
        refine p_aload_n k244_568 rfl ?_
        refine p_iload_n k244_569 rfl ?_
        refine p_iconst (v := nI 1) k244_570 (by decide) ?_
        refine p_iaddN k244_571 ?_
        refine p_sldN k244_572 (by omega) hn9 (by assumption) (by assumption) ?_
        refine p_cV1i k244_573 (s_98 S) c_13_61_12 rfl (Nat.le_of_ble_eq_true rfl) (hR _) (fun x1 m1 hq => ?_)
        obtain ⟨rfl, I2, J2, K2, h2a, rfl, hI2, hs2, hn2⟩ := hq
        refine p_icmp_eq (tgt := 1506) k244_576 (by decide) (fun _ => ?_) (fun c => False.elim (by exact c rfl))
        refine p_iinc (v := (nI (i + 6))) (ls' := [(0, _), (1, _), (2, _), (3, _)]) k244_1506 rfl (nI_add i 6) rfl ?_
        refine p_goto (tgt := 18) k244_1509 (by decide) ?_
        exact ih (i + 6) (N + 1) I2 J2 K2 h2a (by omega) (by omega) (by omega) hI2 hs2 hn2
      · skip
        refine p_tswI (tgt := 581) k244_33 (by decide) (by decide) (by decide) rfl (by decide) ?_
        refine p_aload_n k244_581 rfl ?_
        refine p_cV0i k244_582 (s_0 S) c_13_62_11 (Nat.le_of_ble_eq_true rfl) (LC_day H hsc hn) (fun x1 m1 hq => ?_)
        obtain ⟨I1, J1, K1, h1a, rfl, S1, ⟨hs1, hn1⟩, hR⟩ := hq
        generalize x1 = xa at hR ⊢
        replace S := S1
        refine p_aload_n k244_585 rfl ?_
        refine p_cV0i k244_586 (s_98 S) c_13_65_12 (Nat.le_of_ble_eq_true rfl) (hR _) (fun x1 m1 hq => ?_)
        obtain ⟨rfl, I2, J2, K2, h2a, rfl, hI2, hs2, hn2⟩ := hq
        refine p_icmp_eq (tgt := 1506) k244_589 (by decide) (fun _ => ?_) (fun c => False.elim (by exact c rfl))
        refine p_iinc (v := (nI (i + 6))) (ls' := [(0, _), (1, _), (2, _), (3, _)]) k244_1506 rfl (nI_add i 6) rfl ?_
        refine p_goto (tgt := 18) k244_1509 (by decide) ?_
        exact ih (i + 6) (N + 1) I2 J2 K2 h2a (by omega) (by omega) (by omega) hI2 hs2 hn2
      · skip
        refine p_tswI (tgt := 594) k244_33 (by decide) (by decide) (by decide) rfl (by decide) ?_
        refine p_aload_n k244_594 rfl ?_
        refine p_aload_n k244_595 rfl ?_
        refine p_iload_n k244_596 rfl ?_
        refine p_iconst (v := nI 1) k244_597 (by decide) ?_
        refine p_iaddN k244_598 ?_
        refine p_sldN k244_599 (by omega) hn9 (by assumption) (by assumption) ?_
        refine p_cV1i k244_600 (s_0 S) c_13_66_11 rfl (Nat.le_of_ble_eq_true rfl) (LC_gust H hsc hn _) (fun x1 m1 hq => ?_)
        obtain ⟨I1, J1, K1, h1a, rfl, S1, ⟨hs1, hn1⟩, hR⟩ := hq
        generalize x1 = xa at hR ⊢
        replace S := S1
        refine p_aload_n k244_603 rfl ?_
        refine p_aload_n k244_604 rfl ?_
        refine p_iload_n k244_605 rfl ?_
        refine p_iconst (v := nI 1) k244_606 (by decide) ?_
        refine p_iaddN k244_607 ?_
        refine p_sldN k244_608 (by omega) hn9 (by assumption) (by assumption) ?_
        refine p_cV1i k244_609 (s_98 S) c_13_69_12 rfl (Nat.le_of_ble_eq_true rfl) (hR _) (fun x1 m1 hq => ?_)
        obtain ⟨rfl, I2, J2, K2, h2a, rfl, hI2, hs2, hn2⟩ := hq
        refine p_icmp_eq (tgt := 1506) k244_612 (by decide) (fun _ => ?_) (fun c => False.elim (by exact c rfl))
        refine p_iinc (v := (nI (i + 6))) (ls' := [(0, _), (1, _), (2, _), (3, _)]) k244_1506 rfl (nI_add i 6) rfl ?_
        refine p_goto (tgt := 18) k244_1509 (by decide) ?_
        exact ih (i + 6) (N + 1) I2 J2 K2 h2a (by omega) (by omega) (by omega) hI2 hs2 hn2
      · skip
        refine p_tswI (tgt := 617) k244_33 (by decide) (by decide) (by decide) rfl (by decide) ?_
        refine p_aload_n k244_617 rfl ?_
        refine p_aload_n k244_618 rfl ?_
        refine p_iload_n k244_619 rfl ?_
        refine p_iconst (v := nI 1) k244_620 (by decide) ?_
        refine p_iaddN k244_621 ?_
        refine p_sldN k244_622 (by omega) hn9 (by assumption) (by assumption) ?_
        refine p_aload_n k244_623 rfl ?_
        refine p_iload_n k244_624 rfl ?_
        refine p_iconst (v := nI 2) k244_625 (by decide) ?_
        refine p_iaddN k244_626 ?_
        refine p_sldN k244_627 (by omega) hn9 (by assumption) (by assumption) ?_
        refine p_cV2i k244_628 (s_0 S) c_13_70_11 rfl rfl (Nat.le_of_ble_eq_true rfl) (LC_change H hsc hn _ _) (fun x1 m1 hq => ?_)
        obtain ⟨I1, J1, K1, h1a, rfl, S1, ⟨hs1, hn1⟩, hR⟩ := hq
        generalize x1 = xa at hR ⊢
        replace S := S1
        refine p_aload_n k244_631 rfl ?_
        refine p_aload_n k244_632 rfl ?_
        refine p_iload_n k244_633 rfl ?_
        refine p_iconst (v := nI 1) k244_634 (by decide) ?_
        refine p_iaddN k244_635 ?_
        refine p_sldN k244_636 (by omega) hn9 (by assumption) (by assumption) ?_
        refine p_aload_n k244_637 rfl ?_
        refine p_iload_n k244_638 rfl ?_
        refine p_iconst (v := nI 2) k244_639 (by decide) ?_
        refine p_iaddN k244_640 ?_
        refine p_sldN k244_641 (by omega) hn9 (by assumption) (by assumption) ?_
        refine p_cV2i k244_642 (s_98 S) c_13_73_12 rfl rfl (Nat.le_of_ble_eq_true rfl) (hR _) (fun x1 m1 hq => ?_)
        obtain ⟨rfl, I2, J2, K2, h2a, rfl, hI2, hs2, hn2⟩ := hq
        refine p_icmp_eq (tgt := 1506) k244_645 (by decide) (fun _ => ?_) (fun c => False.elim (by exact c rfl))
        refine p_iinc (v := (nI (i + 6))) (ls' := [(0, _), (1, _), (2, _), (3, _)]) k244_1506 rfl (nI_add i 6) rfl ?_
        refine p_goto (tgt := 18) k244_1509 (by decide) ?_
        exact ih (i + 6) (N + 1) I2 J2 K2 h2a (by omega) (by omega) (by omega) hI2 hs2 hn2
      · skip
        refine p_tswI (tgt := 650) k244_33 (by decide) (by decide) (by decide) rfl (by decide) ?_
        refine p_aload_n k244_650 rfl ?_
        refine p_aload_n k244_651 rfl ?_
        refine p_iload_n k244_652 rfl ?_
        refine p_iconst (v := nI 1) k244_653 (by decide) ?_
        refine p_iaddN k244_654 ?_
        refine p_sldN k244_655 (by omega) hn9 (by assumption) (by assumption) ?_
        refine p_cV1i k244_656 (s_0 S) c_13_74_11 rfl (Nat.le_of_ble_eq_true rfl) (LC_today H hsc hn _) (fun x1 m1 hq => ?_)
        obtain ⟨I1, J1, K1, h1a, rfl, S1, ⟨hs1, hn1⟩, hR⟩ := hq
        generalize x1 = xa at hR ⊢
        replace S := S1
        refine p_aload_n k244_659 rfl ?_
        refine p_aload_n k244_660 rfl ?_
        refine p_iload_n k244_661 rfl ?_
        refine p_iconst (v := nI 1) k244_662 (by decide) ?_
        refine p_iaddN k244_663 ?_
        refine p_sldN k244_664 (by omega) hn9 (by assumption) (by assumption) ?_
        refine p_cV1i k244_665 (s_98 S) c_13_77_12 rfl (Nat.le_of_ble_eq_true rfl) (hR _) (fun x1 m1 hq => ?_)
        obtain ⟨rfl, I2, J2, K2, h2a, rfl, hI2, hs2, hn2⟩ := hq
        refine p_icmp_eq (tgt := 1506) k244_668 (by decide) (fun _ => ?_) (fun c => False.elim (by exact c rfl))
        refine p_iinc (v := (nI (i + 6))) (ls' := [(0, _), (1, _), (2, _), (3, _)]) k244_1506 rfl (nI_add i 6) rfl ?_
        refine p_goto (tgt := 18) k244_1509 (by decide) ?_
        exact ih (i + 6) (N + 1) I2 J2 K2 h2a (by omega) (by omega) (by omega) hI2 hs2 hn2
      · skip
        refine p_tswI (tgt := 673) k244_33 (by decide) (by decide) (by decide) rfl (by decide) ?_
        refine p_aload_n k244_673 rfl ?_
        refine p_cV0i k244_674 (s_0 S) c_13_78_11 (Nat.le_of_ble_eq_true rfl) (LC_enough H hsc hn) (fun x1 m1 hq => ?_)
        obtain ⟨I1, J1, K1, h1a, rfl, S1, ⟨hs1, hn1⟩, hR⟩ := hq
        generalize x1 = xa at hR ⊢
        replace S := S1
        refine p_aload_n k244_677 rfl ?_
        refine p_cV0i k244_678 (s_98 S) c_13_81_12 (Nat.le_of_ble_eq_true rfl) (hR _) (fun x1 m1 hq => ?_)
        obtain ⟨rfl, I2, J2, K2, h2a, rfl, hI2, hs2, hn2⟩ := hq
        refine p_icmp_eq (tgt := 1506) k244_681 (by decide) (fun _ => ?_) (fun c => False.elim (by exact c rfl))
        refine p_iinc (v := (nI (i + 6))) (ls' := [(0, _), (1, _), (2, _), (3, _)]) k244_1506 rfl (nI_add i 6) rfl ?_
        refine p_goto (tgt := 18) k244_1509 (by decide) ?_
        exact ih (i + 6) (N + 1) I2 J2 K2 h2a (by omega) (by omega) (by omega) hI2 hs2 hn2
      · skip
        refine p_tswI (tgt := 686) k244_33 (by decide) (by decide) (by decide) rfl (by decide) ?_
        refine p_aload_n k244_686 rfl ?_
        refine p_aload_n k244_687 rfl ?_
        refine p_iload_n k244_688 rfl ?_
        refine p_iconst (v := nI 1) k244_689 (by decide) ?_
        refine p_iaddN k244_690 ?_
        refine p_sldN k244_691 (by omega) hn9 (by assumption) (by assumption) ?_
        refine p_cV1i k244_692 (s_0 S) c_13_82_11 rfl (Nat.le_of_ble_eq_true rfl) (LC_best H hsc hn _) (fun x1 m1 hq => ?_)
        obtain ⟨I1, J1, K1, h1a, rfl, S1, ⟨hs1, hn1⟩, hR⟩ := hq
        generalize x1 = xa at hR ⊢
        replace S := S1
        refine p_aload_n k244_695 rfl ?_
        refine p_aload_n k244_696 rfl ?_
        refine p_iload_n k244_697 rfl ?_
        refine p_iconst (v := nI 1) k244_698 (by decide) ?_
        refine p_iaddN k244_699 ?_
        refine p_sldN k244_700 (by omega) hn9 (by assumption) (by assumption) ?_
        refine p_cV1i k244_701 (s_98 S) c_13_85_12 rfl (Nat.le_of_ble_eq_true rfl) (hR _) (fun x1 m1 hq => ?_)
        obtain ⟨rfl, I2, J2, K2, h2a, rfl, hI2, hs2, hn2⟩ := hq
        refine p_icmp_eq (tgt := 1506) k244_704 (by decide) (fun _ => ?_) (fun c => False.elim (by exact c rfl))
        refine p_iinc (v := (nI (i + 6))) (ls' := [(0, _), (1, _), (2, _), (3, _)]) k244_1506 rfl (nI_add i 6) rfl ?_
        refine p_goto (tgt := 18) k244_1509 (by decide) ?_
        exact ih (i + 6) (N + 1) I2 J2 K2 h2a (by omega) (by omega) (by omega) hI2 hs2 hn2
      · skip
        refine p_tswI (tgt := 709) k244_33 (by decide) (by decide) (by decide) rfl (by decide) ?_
        refine p_aload_n k244_709 rfl ?_
        refine p_aload_n k244_710 rfl ?_
        refine p_iload_n k244_711 rfl ?_
        refine p_iconst (v := nI 1) k244_712 (by decide) ?_
        refine p_iaddN k244_713 ?_
        refine p_sldN k244_714 (by omega) hn9 (by assumption) (by assumption) ?_
        refine p_aload_n k244_715 rfl ?_
        refine p_iload_n k244_716 rfl ?_
        refine p_iconst (v := nI 2) k244_717 (by decide) ?_
        refine p_iaddN k244_718 ?_
        refine p_sldN k244_719 (by omega) hn9 (by assumption) (by assumption) ?_
        refine p_cV2i k244_720 (s_0 S) c_13_86_11 rfl rfl (Nat.le_of_ble_eq_true rfl) (LC_on H hsc hn _ _) (fun x1 m1 hq => ?_)
        obtain ⟨I1, J1, K1, h1a, rfl, S1, ⟨hs1, hn1⟩, hR⟩ := hq
        generalize x1 = xa at hR ⊢
        replace S := S1
        refine p_aload_n k244_723 rfl ?_
        refine p_aload_n k244_724 rfl ?_
        refine p_iload_n k244_725 rfl ?_
        refine p_iconst (v := nI 1) k244_726 (by decide) ?_
        refine p_iaddN k244_727 ?_
        refine p_sldN k244_728 (by omega) hn9 (by assumption) (by assumption) ?_
        refine p_aload_n k244_729 rfl ?_
        refine p_iload_n k244_730 rfl ?_
        refine p_iconst (v := nI 2) k244_731 (by decide) ?_
        refine p_iaddN k244_732 ?_
        refine p_sldN k244_733 (by omega) hn9 (by assumption) (by assumption) ?_
        refine p_cV2i k244_734 (s_98 S) c_13_89_12 rfl rfl (Nat.le_of_ble_eq_true rfl) (hR _) (fun x1 m1 hq => ?_)
        obtain ⟨rfl, I2, J2, K2, h2a, rfl, hI2, hs2, hn2⟩ := hq
        refine p_icmp_eq (tgt := 1506) k244_737 (by decide) (fun _ => ?_) (fun c => False.elim (by exact c rfl))
        refine p_iinc (v := (nI (i + 6))) (ls' := [(0, _), (1, _), (2, _), (3, _)]) k244_1506 rfl (nI_add i 6) rfl ?_
        refine p_goto (tgt := 18) k244_1509 (by decide) ?_
        exact ih (i + 6) (N + 1) I2 J2 K2 h2a (by omega) (by omega) (by omega) hI2 hs2 hn2
      · skip
        refine p_tswI (tgt := 742) k244_33 (by decide) (by decide) (by decide) rfl (by decide) ?_
        refine p_aload_n k244_742 rfl ?_
        refine p_aload_n k244_743 rfl ?_
        refine p_iload_n k244_744 rfl ?_
        refine p_iconst (v := nI 1) k244_745 (by decide) ?_
        refine p_iaddN k244_746 ?_
        refine p_sldN k244_747 (by omega) hn9 (by assumption) (by assumption) ?_
        refine p_cV1i k244_748 (s_0 S) c_13_90_11 rfl (Nat.le_of_ble_eq_true rfl) (LC_lasts H hsc hn _) (fun x1 m1 hq => ?_)
        obtain ⟨I1, J1, K1, h1a, rfl, S1, ⟨hs1, hn1⟩, hR⟩ := hq
        generalize x1 = xa at hR ⊢
        replace S := S1
        refine p_aload_n k244_751 rfl ?_
        refine p_aload_n k244_752 rfl ?_
        refine p_iload_n k244_753 rfl ?_
        refine p_iconst (v := nI 1) k244_754 (by decide) ?_
        refine p_iaddN k244_755 ?_
        refine p_sldN k244_756 (by omega) hn9 (by assumption) (by assumption) ?_
        refine p_cV1i k244_757 (s_98 S) c_13_93_12 rfl (Nat.le_of_ble_eq_true rfl) (hR _) (fun x1 m1 hq => ?_)
        obtain ⟨rfl, I2, J2, K2, h2a, rfl, hI2, hs2, hn2⟩ := hq
        refine p_icmp_eq (tgt := 1506) k244_760 (by decide) (fun _ => ?_) (fun c => False.elim (by exact c rfl))
        refine p_iinc (v := (nI (i + 6))) (ls' := [(0, _), (1, _), (2, _), (3, _)]) k244_1506 rfl (nI_add i 6) rfl ?_
        refine p_goto (tgt := 18) k244_1509 (by decide) ?_
        exact ih (i + 6) (N + 1) I2 J2 K2 h2a (by omega) (by omega) (by omega) hI2 hs2 hn2
      · skip
        refine p_tswI (tgt := 765) k244_33 (by decide) (by decide) (by decide) rfl (by decide) ?_
        refine p_aload_n k244_765 rfl ?_
        refine p_aload_n k244_766 rfl ?_
        refine p_iload_n k244_767 rfl ?_
        refine p_iconst (v := nI 1) k244_768 (by decide) ?_
        refine p_iaddN k244_769 ?_
        refine p_sldN k244_770 (by omega) hn9 (by assumption) (by assumption) ?_
        refine p_cV1i k244_771 (s_0 S) c_13_94_11 rfl (Nat.le_of_ble_eq_true rfl) (LC_by H hsc hn _) (fun x1 m1 hq => ?_)
        obtain ⟨I1, J1, K1, h1a, rfl, S1, ⟨hs1, hn1⟩, hR⟩ := hq
        generalize x1 = xa at hR ⊢
        replace S := S1
        refine p_aload_n k244_774 rfl ?_
        refine p_aload_n k244_775 rfl ?_
        refine p_iload_n k244_776 rfl ?_
        refine p_iconst (v := nI 1) k244_777 (by decide) ?_
        refine p_iaddN k244_778 ?_
        refine p_sldN k244_779 (by omega) hn9 (by assumption) (by assumption) ?_
        refine p_cV1i k244_780 (s_98 S) c_13_97_12 rfl (Nat.le_of_ble_eq_true rfl) (hR _) (fun x1 m1 hq => ?_)
        obtain ⟨rfl, I2, J2, K2, h2a, rfl, hI2, hs2, hn2⟩ := hq
        refine p_icmp_eq (tgt := 1506) k244_783 (by decide) (fun _ => ?_) (fun c => False.elim (by exact c rfl))
        refine p_iinc (v := (nI (i + 6))) (ls' := [(0, _), (1, _), (2, _), (3, _)]) k244_1506 rfl (nI_add i 6) rfl ?_
        refine p_goto (tgt := 18) k244_1509 (by decide) ?_
        exact ih (i + 6) (N + 1) I2 J2 K2 h2a (by omega) (by omega) (by omega) hI2 hs2 hn2
      · skip
        refine p_tswI (tgt := 788) k244_33 (by decide) (by decide) (by decide) rfl (by decide) ?_
        refine p_aload_n k244_788 rfl ?_
        refine p_cV0i k244_789 (s_0 S) c_13_98_11 (Nat.le_of_ble_eq_true rfl) (LC_can H hsc hn) (fun x1 m1 hq => ?_)
        obtain ⟨I1, J1, K1, h1a, rfl, S1, ⟨hs1, hn1⟩, hR⟩ := hq
        generalize x1 = xa at hR ⊢
        replace S := S1
        refine p_aload_n k244_792 rfl ?_
        refine p_cV0i k244_793 (s_98 S) c_13_101_12 (Nat.le_of_ble_eq_true rfl) (hR _) (fun x1 m1 hq => ?_)
        obtain ⟨rfl, I2, J2, K2, h2a, rfl, hI2, hs2, hn2⟩ := hq
        refine p_icmp_eq (tgt := 1506) k244_796 (by decide) (fun _ => ?_) (fun c => False.elim (by exact c rfl))
        refine p_iinc (v := (nI (i + 6))) (ls' := [(0, _), (1, _), (2, _), (3, _)]) k244_1506 rfl (nI_add i 6) rfl ?_
        refine p_goto (tgt := 18) k244_1509 (by decide) ?_
        exact ih (i + 6) (N + 1) I2 J2 K2 h2a (by omega) (by omega) (by omega) hI2 hs2 hn2
      · skip
        refine p_tswI (tgt := 801) k244_33 (by decide) (by decide) (by decide) rfl (by decide) ?_
        refine p_aload_n k244_801 rfl ?_
        refine p_cV0i k244_802 (s_0 S) c_13_102_11 (Nat.le_of_ble_eq_true rfl) (LC_back H hsc hn) (fun x1 m1 hq => ?_)
        obtain ⟨I1, J1, K1, h1a, rfl, S1, ⟨hs1, hn1⟩, hR⟩ := hq
        generalize x1 = xa at hR ⊢
        replace S := S1
        refine p_aload_n k244_805 rfl ?_
        refine p_cV0i k244_806 (s_98 S) c_13_105_12 (Nat.le_of_ble_eq_true rfl) (hR _) (fun x1 m1 hq => ?_)
        obtain ⟨rfl, I2, J2, K2, h2a, rfl, hI2, hs2, hn2⟩ := hq
        refine p_icmp_eq (tgt := 1506) k244_809 (by decide) (fun _ => ?_) (fun c => False.elim (by exact c rfl))
        refine p_iinc (v := (nI (i + 6))) (ls' := [(0, _), (1, _), (2, _), (3, _)]) k244_1506 rfl (nI_add i 6) rfl ?_
        refine p_goto (tgt := 18) k244_1509 (by decide) ?_
        exact ih (i + 6) (N + 1) I2 J2 K2 h2a (by omega) (by omega) (by omega) hI2 hs2 hn2
      · skip
        refine p_tswI (tgt := 814) k244_33 (by decide) (by decide) (by decide) rfl (by decide) ?_
        refine p_aload_n k244_814 rfl ?_
        refine p_aload_n k244_815 rfl ?_
        refine p_iload_n k244_816 rfl ?_
        refine p_iconst (v := nI 1) k244_817 (by decide) ?_
        refine p_iaddN k244_818 ?_
        refine p_sldN k244_819 (by omega) hn9 (by assumption) (by assumption) ?_
        refine p_cV1i k244_820 (s_0 S) c_13_106_11 rfl (Nat.le_of_ble_eq_true rfl) (LC_gusted H hsc hn _) (fun x1 m1 hq => ?_)
        obtain ⟨I1, J1, K1, h1a, rfl, S1, ⟨hs1, hn1⟩, hR⟩ := hq
        generalize x1 = xa at hR ⊢
        replace S := S1
        refine p_aload_n k244_823 rfl ?_
        refine p_aload_n k244_824 rfl ?_
        refine p_iload_n k244_825 rfl ?_
        refine p_iconst (v := nI 1) k244_826 (by decide) ?_
        refine p_iaddN k244_827 ?_
        refine p_sldN k244_828 (by omega) hn9 (by assumption) (by assumption) ?_
        refine p_cV1i k244_829 (s_98 S) c_13_109_12 rfl (Nat.le_of_ble_eq_true rfl) (hR _) (fun x1 m1 hq => ?_)
        obtain ⟨rfl, I2, J2, K2, h2a, rfl, hI2, hs2, hn2⟩ := hq
        refine p_icmp_eq (tgt := 1506) k244_832 (by decide) (fun _ => ?_) (fun c => False.elim (by exact c rfl))
        refine p_iinc (v := (nI (i + 6))) (ls' := [(0, _), (1, _), (2, _), (3, _)]) k244_1506 rfl (nI_add i 6) rfl ?_
        refine p_goto (tgt := 18) k244_1509 (by decide) ?_
        exact ih (i + 6) (N + 1) I2 J2 K2 h2a (by omega) (by omega) (by omega) hI2 hs2 hn2
      · skip
        refine p_tswI (tgt := 837) k244_33 (by decide) (by decide) (by decide) rfl (by decide) ?_
        refine p_aload_n k244_837 rfl ?_
        refine p_cV0i k244_838 (s_0 S) c_13_110_11 (Nat.le_of_ble_eq_true rfl) (LC_lucky H hsc hn) (fun x1 m1 hq => ?_)
        obtain ⟨I1, J1, K1, h1a, rfl, S1, ⟨hs1, hn1⟩, hR⟩ := hq
        generalize x1 = xa at hR ⊢
        replace S := S1
        refine p_aload_n k244_841 rfl ?_
        refine p_cV0i k244_842 (s_98 S) c_13_113_12 (Nat.le_of_ble_eq_true rfl) (hR _) (fun x1 m1 hq => ?_)
        obtain ⟨rfl, I2, J2, K2, h2a, rfl, hI2, hs2, hn2⟩ := hq
        refine p_icmp_eq (tgt := 1506) k244_845 (by decide) (fun _ => ?_) (fun c => False.elim (by exact c rfl))
        refine p_iinc (v := (nI (i + 6))) (ls' := [(0, _), (1, _), (2, _), (3, _)]) k244_1506 rfl (nI_add i 6) rfl ?_
        refine p_goto (tgt := 18) k244_1509 (by decide) ?_
        exact ih (i + 6) (N + 1) I2 J2 K2 h2a (by omega) (by omega) (by omega) hI2 hs2 hn2
      · skip
        refine p_tswI (tgt := 850) k244_33 (by decide) (by decide) (by decide) rfl (by decide) ?_
        refine p_aload_n k244_850 rfl ?_
        refine p_cV0i k244_851 (s_0 S) c_13_114_11 (Nat.le_of_ble_eq_true rfl) (LC_swap H hsc hn) (fun x1 m1 hq => ?_)
        obtain ⟨I1, J1, K1, h1a, rfl, S1, ⟨hs1, hn1⟩, hR⟩ := hq
        generalize x1 = xa at hR ⊢
        replace S := S1
        refine p_aload_n k244_854 rfl ?_
        refine p_cV0i k244_855 (s_98 S) c_13_117_12 (Nat.le_of_ble_eq_true rfl) (hR _) (fun x1 m1 hq => ?_)
        obtain ⟨rfl, I2, J2, K2, h2a, rfl, hI2, hs2, hn2⟩ := hq
        refine p_icmp_eq (tgt := 1506) k244_858 (by decide) (fun _ => ?_) (fun c => False.elim (by exact c rfl))
        refine p_iinc (v := (nI (i + 6))) (ls' := [(0, _), (1, _), (2, _), (3, _)]) k244_1506 rfl (nI_add i 6) rfl ?_
        refine p_goto (tgt := 18) k244_1509 (by decide) ?_
        exact ih (i + 6) (N + 1) I2 J2 K2 h2a (by omega) (by omega) (by omega) hI2 hs2 hn2
      · skip
        refine p_tswI (tgt := 863) k244_33 (by decide) (by decide) (by decide) rfl (by decide) ?_
        refine p_aload_n k244_863 rfl ?_
        refine p_aload_n k244_864 rfl ?_
        refine p_iload_n k244_865 rfl ?_
        refine p_iconst (v := nI 1) k244_866 (by decide) ?_
        refine p_iaddN k244_867 ?_
        refine p_sldN k244_868 (by omega) hn9 (by assumption) (by assumption) ?_
        refine p_aload_n k244_869 rfl ?_
        refine p_iload_n k244_870 rfl ?_
        refine p_iconst (v := nI 2) k244_871 (by decide) ?_
        refine p_iaddN k244_872 ?_
        refine p_sldN k244_873 (by omega) hn9 (by assumption) (by assumption) ?_
        refine p_aload_n k244_874 rfl ?_
        refine p_iload_n k244_875 rfl ?_
        refine p_iconst (v := nI 3) k244_876 (by decide) ?_
        refine p_iaddN k244_877 ?_
        refine p_sldN k244_878 (by omega) hn9 (by assumption) (by assumption) ?_
        refine p_cV3i k244_879 (s_0 S) c_13_118_11 rfl rfl rfl (Nat.le_of_ble_eq_true rfl) (LC_quarrel H hsc hn _ _ _) (fun x1 m1 hq => ?_)
        obtain ⟨I1, J1, K1, h1a, rfl, S1, ⟨hs1, hn1⟩, hR⟩ := hq
        generalize x1 = xa at hR ⊢
        replace S := S1
        refine p_aload_n k244_882 rfl ?_
        refine p_aload_n k244_883 rfl ?_
        refine p_iload_n k244_884 rfl ?_
        refine p_iconst (v := nI 1) k244_885 (by decide) ?_
        refine p_iaddN k244_886 ?_
        refine p_sldN k244_887 (by omega) hn9 (by assumption) (by assumption) ?_
        refine p_aload_n k244_888 rfl ?_
        refine p_iload_n k244_889 rfl ?_
        refine p_iconst (v := nI 2) k244_890 (by decide) ?_
        refine p_iaddN k244_891 ?_
        refine p_sldN k244_892 (by omega) hn9 (by assumption) (by assumption) ?_
        refine p_aload_n k244_893 rfl ?_
        refine p_iload_n k244_894 rfl ?_
        refine p_iconst (v := nI 3) k244_895 (by decide) ?_
        refine p_iaddN k244_896 ?_
        refine p_sldN k244_897 (by omega) hn9 (by assumption) (by assumption) ?_
        refine p_cV3i k244_898 (s_98 S) c_13_121_12 rfl rfl rfl (Nat.le_of_ble_eq_true rfl) (hR _) (fun x1 m1 hq => ?_)
        obtain ⟨rfl, I2, J2, K2, h2a, rfl, hI2, hs2, hn2⟩ := hq
        refine p_icmp_eq (tgt := 1506) k244_901 (by decide) (fun _ => ?_) (fun c => False.elim (by exact c rfl))
        refine p_iinc (v := (nI (i + 6))) (ls' := [(0, _), (1, _), (2, _), (3, _)]) k244_1506 rfl (nI_add i 6) rfl ?_
        refine p_goto (tgt := 18) k244_1509 (by decide) ?_
        exact ih (i + 6) (N + 1) I2 J2 K2 h2a (by omega) (by omega) (by omega) hI2 hs2 hn2
      · skip
        refine p_tswI (tgt := 906) k244_33 (by decide) (by decide) (by decide) rfl (by decide) ?_
        refine p_aload_n k244_906 rfl ?_
        refine p_aload_n k244_907 rfl ?_
        refine p_iload_n k244_908 rfl ?_
        refine p_iconst (v := nI 1) k244_909 (by decide) ?_
        refine p_iaddN k244_910 ?_
        refine p_sldN k244_911 (by omega) hn9 (by assumption) (by assumption) ?_
        refine p_cV1i k244_912 (s_0 S) c_13_122_11 rfl (Nat.le_of_ble_eq_true rfl) (LC_how H hsc hn _) (fun x1 m1 hq => ?_)
        obtain ⟨I1, J1, K1, h1a, rfl, S1, ⟨hs1, hn1⟩, hR⟩ := hq
        generalize x1 = xa at hR ⊢
        replace S := S1
        refine p_aload_n k244_915 rfl ?_
        refine p_aload_n k244_916 rfl ?_
        refine p_iload_n k244_917 rfl ?_
        refine p_iconst (v := nI 1) k244_918 (by decide) ?_
        refine p_iaddN k244_919 ?_
        refine p_sldN k244_920 (by omega) hn9 (by assumption) (by assumption) ?_
        refine p_cV1i k244_921 (s_98 S) c_13_125_12 rfl (Nat.le_of_ble_eq_true rfl) (hR _) (fun x1 m1 hq => ?_)
        obtain ⟨rfl, I2, J2, K2, h2a, rfl, hI2, hs2, hn2⟩ := hq
        refine p_icmp_eq (tgt := 1506) k244_924 (by decide) (fun _ => ?_) (fun c => False.elim (by exact c rfl))
        refine p_iinc (v := (nI (i + 6))) (ls' := [(0, _), (1, _), (2, _), (3, _)]) k244_1506 rfl (nI_add i 6) rfl ?_
        refine p_goto (tgt := 18) k244_1509 (by decide) ?_
        exact ih (i + 6) (N + 1) I2 J2 K2 h2a (by omega) (by omega) (by omega) hI2 hs2 hn2
      · skip
        refine p_tswI (tgt := 929) k244_33 (by decide) (by decide) (by decide) rfl (by decide) ?_
        refine p_aload_n k244_929 rfl ?_
        refine p_aload_n k244_930 rfl ?_
        refine p_iload_n k244_931 rfl ?_
        refine p_iconst (v := nI 1) k244_932 (by decide) ?_
        refine p_iaddN k244_933 ?_
        refine p_sldN k244_934 (by omega) hn9 (by assumption) (by assumption) ?_
        refine p_aload_n k244_935 rfl ?_
        refine p_iload_n k244_936 rfl ?_
        refine p_iconst (v := nI 2) k244_937 (by decide) ?_
        refine p_iaddN k244_938 ?_
        refine p_sldN k244_939 (by omega) hn9 (by assumption) (by assumption) ?_
        refine p_cV2i k244_940 (s_0 S) c_13_126_11 rfl rfl (Nat.le_of_ble_eq_true rfl) (LC_see H hsc hn _ _) (fun x1 m1 hq => ?_)
        obtain ⟨I1, J1, K1, h1a, rfl, S1, ⟨hs1, hn1⟩, hR⟩ := hq
        generalize x1 = xa at hR ⊢
        replace S := S1
        refine p_aload_n k244_943 rfl ?_
        refine p_aload_n k244_944 rfl ?_
        refine p_iload_n k244_945 rfl ?_
        refine p_iconst (v := nI 1) k244_946 (by decide) ?_
        refine p_iaddN k244_947 ?_
        refine p_sldN k244_948 (by omega) hn9 (by assumption) (by assumption) ?_
        refine p_aload_n k244_949 rfl ?_
        refine p_iload_n k244_950 rfl ?_
        refine p_iconst (v := nI 2) k244_951 (by decide) ?_
        refine p_iaddN k244_952 ?_
        refine p_sldN k244_953 (by omega) hn9 (by assumption) (by assumption) ?_
        refine p_cV2i k244_954 (s_98 S) c_13_129_12 rfl rfl (Nat.le_of_ble_eq_true rfl) (hR _) (fun x1 m1 hq => ?_)
        obtain ⟨rfl, I2, J2, K2, h2a, rfl, hI2, hs2, hn2⟩ := hq
        refine p_icmp_eq (tgt := 1506) k244_957 (by decide) (fun _ => ?_) (fun c => False.elim (by exact c rfl))
        refine p_iinc (v := (nI (i + 6))) (ls' := [(0, _), (1, _), (2, _), (3, _)]) k244_1506 rfl (nI_add i 6) rfl ?_
        refine p_goto (tgt := 18) k244_1509 (by decide) ?_
        exact ih (i + 6) (N + 1) I2 J2 K2 h2a (by omega) (by omega) (by omega) hI2 hs2 hn2
      · skip
        refine p_tswI (tgt := 962) k244_33 (by decide) (by decide) (by decide) rfl (by decide) ?_
        refine p_aload_n k244_962 rfl ?_
        refine p_aload_n k244_963 rfl ?_
        refine p_iload_n k244_964 rfl ?_
        refine p_iconst (v := nI 1) k244_965 (by decide) ?_
        refine p_iaddN k244_966 ?_
        refine p_sldN k244_967 (by omega) hn9 (by assumption) (by assumption) ?_
        refine p_cV1i k244_968 (s_0 S) c_13_130_11 rfl (Nat.le_of_ble_eq_true rfl) (LC_wore H hsc hn _) (fun x1 m1 hq => ?_)
        obtain ⟨I1, J1, K1, h1a, rfl, S1, ⟨hs1, hn1⟩, hR⟩ := hq
        generalize x1 = xa at hR ⊢
        replace S := S1
        refine p_aload_n k244_971 rfl ?_
        refine p_aload_n k244_972 rfl ?_
        refine p_iload_n k244_973 rfl ?_
        refine p_iconst (v := nI 1) k244_974 (by decide) ?_
        refine p_iaddN k244_975 ?_
        refine p_sldN k244_976 (by omega) hn9 (by assumption) (by assumption) ?_
        refine p_cV1i k244_977 (s_98 S) c_13_133_12 rfl (Nat.le_of_ble_eq_true rfl) (hR _) (fun x1 m1 hq => ?_)
        obtain ⟨rfl, I2, J2, K2, h2a, rfl, hI2, hs2, hn2⟩ := hq
        refine p_icmp_eq (tgt := 1506) k244_980 (by decide) (fun _ => ?_) (fun c => False.elim (by exact c rfl))
        refine p_iinc (v := (nI (i + 6))) (ls' := [(0, _), (1, _), (2, _), (3, _)]) k244_1506 rfl (nI_add i 6) rfl ?_
        refine p_goto (tgt := 18) k244_1509 (by decide) ?_
        exact ih (i + 6) (N + 1) I2 J2 K2 h2a (by omega) (by omega) (by omega) hI2 hs2 hn2
      · skip
        refine p_tswI (tgt := 985) k244_33 (by decide) (by decide) (by decide) rfl (by decide) ?_
        refine p_aload_n k244_985 rfl ?_
        refine p_cV0i k244_986 (s_0 S) c_13_134_11 (Nat.le_of_ble_eq_true rfl) (LC_who H hsc hn) (fun x1 m1 hq => ?_)
        obtain ⟨I1, J1, K1, h1a, rfl, S1, ⟨hs1, hn1⟩, hR⟩ := hq
        generalize x1 = xa at hR ⊢
        replace S := S1
        refine p_aload_n k244_989 rfl ?_
        refine p_cV0i k244_990 (s_98 S) c_13_137_12 (Nat.le_of_ble_eq_true rfl) (hR _) (fun x1 m1 hq => ?_)
        obtain ⟨rfl, I2, J2, K2, h2a, rfl, hI2, hs2, hn2⟩ := hq
        refine p_icmp_eq (tgt := 1506) k244_993 (by decide) (fun _ => ?_) (fun c => False.elim (by exact c rfl))
        refine p_iinc (v := (nI (i + 6))) (ls' := [(0, _), (1, _), (2, _), (3, _)]) k244_1506 rfl (nI_add i 6) rfl ?_
        refine p_goto (tgt := 18) k244_1509 (by decide) ?_
        exact ih (i + 6) (N + 1) I2 J2 K2 h2a (by omega) (by omega) (by omega) hI2 hs2 hn2
      · skip
        refine p_tswI (tgt := 998) k244_33 (by decide) (by decide) (by decide) rfl (by decide) ?_
        refine p_aload_n k244_998 rfl ?_
        refine p_aload_n k244_999 rfl ?_
        refine p_iload_n k244_1000 rfl ?_
        refine p_iconst (v := nI 1) k244_1001 (by decide) ?_
        refine p_iaddN k244_1002 ?_
        refine p_sldN k244_1003 (by omega) hn9 (by assumption) (by assumption) ?_
        refine p_aload_n k244_1004 rfl ?_
        refine p_iload_n k244_1005 rfl ?_
        refine p_iconst (v := nI 2) k244_1006 (by decide) ?_
        refine p_iaddN k244_1007 ?_
        refine p_sldN k244_1008 (by omega) hn9 (by assumption) (by assumption) ?_
        refine p_cV2l k244_1009 (s_0 S) c_13_138_11 rfl rfl (Nat.le_of_ble_eq_true rfl) (LC_odds H hsc hn _ _) (fun x1 m1 hq => ?_)
        obtain ⟨I1, J1, K1, h1a, rfl, S1, ⟨hs1, hn1⟩, hR⟩ := hq
        generalize x1 = xa at hR ⊢
        replace S := S1
        refine p_aload_n k244_1012 rfl ?_
        refine p_aload_n k244_1013 rfl ?_
        refine p_iload_n k244_1014 rfl ?_
        refine p_iconst (v := nI 1) k244_1015 (by decide) ?_
        refine p_iaddN k244_1016 ?_
        refine p_sldN k244_1017 (by omega) hn9 (by assumption) (by assumption) ?_
        refine p_aload_n k244_1018 rfl ?_
        refine p_iload_n k244_1019 rfl ?_
        refine p_iconst (v := nI 2) k244_1020 (by decide) ?_
        refine p_iaddN k244_1021 ?_
        refine p_sldN k244_1022 (by omega) hn9 (by assumption) (by assumption) ?_
        refine p_cV2l k244_1023 (s_98 S) c_13_142_12 rfl rfl (Nat.le_of_ble_eq_true rfl) (hR _) (fun x1 m1 hq => ?_)
        obtain ⟨rfl, I2, J2, K2, h2a, rfl, hI2, hs2, hn2⟩ := hq
        refine p_lcmp k244_1026 ?_
        refine p_if_eq (tgt := 1506) k244_1027 (by decide) (fun _ => ?_) (fun c => False.elim (by exact c (lg_self _)))
        refine p_iinc (v := (nI (i + 6))) (ls' := [(0, _), (1, _), (2, _), (3, _)]) k244_1506 rfl (nI_add i 6) rfl ?_
        refine p_goto (tgt := 18) k244_1509 (by decide) ?_
        exact ih (i + 6) (N + 1) I2 J2 K2 h2a (by omega) (by omega) (by omega) hI2 hs2 hn2
      · skip
        refine p_tswI (tgt := 1032) k244_33 (by decide) (by decide) (by decide) rfl (by decide) ?_
        refine p_aload_n k244_1032 rfl ?_
        refine p_aload_n k244_1033 rfl ?_
        refine p_iload_n k244_1034 rfl ?_
        refine p_iconst (v := nI 1) k244_1035 (by decide) ?_
        refine p_iaddN k244_1036 ?_
        refine p_sldN k244_1037 (by omega) hn9 (by assumption) (by assumption) ?_
        refine p_aload_n k244_1038 rfl ?_
        refine p_iload_n k244_1039 rfl ?_
        refine p_iconst (v := nI 2) k244_1040 (by decide) ?_
        refine p_iaddN k244_1041 ?_
        refine p_sldN k244_1042 (by omega) hn9 (by assumption) (by assumption) ?_
        refine p_cV2l k244_1043 (s_0 S) c_13_143_11 rfl rfl (Nat.le_of_ble_eq_true rfl) (LC_mean H hsc hn _ _) (fun x1 m1 hq => ?_)
        obtain ⟨I1, J1, K1, h1a, rfl, S1, ⟨hs1, hn1⟩, hR⟩ := hq
        generalize x1 = xa at hR ⊢
        replace S := S1
        refine p_aload_n k244_1046 rfl ?_
        refine p_aload_n k244_1047 rfl ?_
        refine p_iload_n k244_1048 rfl ?_
        refine p_iconst (v := nI 1) k244_1049 (by decide) ?_
        refine p_iaddN k244_1050 ?_
        refine p_sldN k244_1051 (by omega) hn9 (by assumption) (by assumption) ?_
        refine p_aload_n k244_1052 rfl ?_
        refine p_iload_n k244_1053 rfl ?_
        refine p_iconst (v := nI 2) k244_1054 (by decide) ?_
        refine p_iaddN k244_1055 ?_
        refine p_sldN k244_1056 (by omega) hn9 (by assumption) (by assumption) ?_
        refine p_cV2l k244_1057 (s_98 S) c_13_146_12 rfl rfl (Nat.le_of_ble_eq_true rfl) (hR _) (fun x1 m1 hq => ?_)
        obtain ⟨rfl, I2, J2, K2, h2a, rfl, hI2, hs2, hn2⟩ := hq
        refine p_lcmp k244_1060 ?_
        refine p_if_eq (tgt := 1506) k244_1061 (by decide) (fun _ => ?_) (fun c => False.elim (by exact c (lg_self _)))
        refine p_iinc (v := (nI (i + 6))) (ls' := [(0, _), (1, _), (2, _), (3, _)]) k244_1506 rfl (nI_add i 6) rfl ?_
        refine p_goto (tgt := 18) k244_1509 (by decide) ?_
        exact ih (i + 6) (N + 1) I2 J2 K2 h2a (by omega) (by omega) (by omega) hI2 hs2 hn2
      · skip
        refine p_tswI (tgt := 1066) k244_33 (by decide) (by decide) (by decide) rfl (by decide) ?_
        refine p_aload_n k244_1066 rfl ?_
        refine p_aload_n k244_1067 rfl ?_
        refine p_iload_n k244_1068 rfl ?_
        refine p_iconst (v := nI 1) k244_1069 (by decide) ?_
        refine p_iaddN k244_1070 ?_
        refine p_sldN k244_1071 (by omega) hn9 (by assumption) (by assumption) ?_
        refine p_aload_n k244_1072 rfl ?_
        refine p_iload_n k244_1073 rfl ?_
        refine p_iconst (v := nI 2) k244_1074 (by decide) ?_
        refine p_iaddN k244_1075 ?_
        refine p_sldN k244_1076 (by omega) hn9 (by assumption) (by assumption) ?_
        refine p_cV2i k244_1077 (s_0 S) c_13_147_11 rfl rfl (Nat.le_of_ble_eq_true rfl) (LC_book H hsc hn _ _) (fun x1 m1 hq => ?_)
        obtain ⟨I1, J1, K1, h1a, rfl, S1, ⟨hs1, hn1⟩, hR⟩ := hq
        generalize x1 = xa at hR ⊢
        replace S := S1
        refine p_aload_n k244_1080 rfl ?_
        refine p_aload_n k244_1081 rfl ?_
        refine p_iload_n k244_1082 rfl ?_
        refine p_iconst (v := nI 1) k244_1083 (by decide) ?_
        refine p_iaddN k244_1084 ?_
        refine p_sldN k244_1085 (by omega) hn9 (by assumption) (by assumption) ?_
        refine p_aload_n k244_1086 rfl ?_
        refine p_iload_n k244_1087 rfl ?_
        refine p_iconst (v := nI 2) k244_1088 (by decide) ?_
        refine p_iaddN k244_1089 ?_
        refine p_sldN k244_1090 (by omega) hn9 (by assumption) (by assumption) ?_
        refine p_cV2i k244_1091 (s_98 S) c_13_150_12 rfl rfl (Nat.le_of_ble_eq_true rfl) (hR _) (fun x1 m1 hq => ?_)
        obtain ⟨rfl, I2, J2, K2, h2a, rfl, hI2, hs2, hn2⟩ := hq
        refine p_icmp_eq (tgt := 1506) k244_1094 (by decide) (fun _ => ?_) (fun c => False.elim (by exact c rfl))
        refine p_iinc (v := (nI (i + 6))) (ls' := [(0, _), (1, _), (2, _), (3, _)]) k244_1506 rfl (nI_add i 6) rfl ?_
        refine p_goto (tgt := 18) k244_1509 (by decide) ?_
        exact ih (i + 6) (N + 1) I2 J2 K2 h2a (by omega) (by omega) (by omega) hI2 hs2 hn2
      · skip
        refine p_tswI (tgt := 1099) k244_33 (by decide) (by decide) (by decide) rfl (by decide) ?_
        refine p_aload_n k244_1099 rfl ?_
        refine p_cV0i k244_1100 (s_0 S) c_13_151_11 (Nat.le_of_ble_eq_true rfl) (LC_looked H hsc hn) (fun x1 m1 hq => ?_)
        obtain ⟨I1, J1, K1, h1a, rfl, S1, ⟨hs1, hn1⟩, hR⟩ := hq
        generalize x1 = xa at hR ⊢
        replace S := S1
        refine p_aload_n k244_1103 rfl ?_
        refine p_cV0i k244_1104 (s_98 S) c_13_154_12 (Nat.le_of_ble_eq_true rfl) (hR _) (fun x1 m1 hq => ?_)
        obtain ⟨rfl, I2, J2, K2, h2a, rfl, hI2, hs2, hn2⟩ := hq
        refine p_icmp_eq (tgt := 1506) k244_1107 (by decide) (fun _ => ?_) (fun c => False.elim (by exact c rfl))
        refine p_iinc (v := (nI (i + 6))) (ls' := [(0, _), (1, _), (2, _), (3, _)]) k244_1506 rfl (nI_add i 6) rfl ?_
        refine p_goto (tgt := 18) k244_1509 (by decide) ?_
        exact ih (i + 6) (N + 1) I2 J2 K2 h2a (by omega) (by omega) (by omega) hI2 hs2 hn2
      · skip
        refine p_tswI (tgt := 1112) k244_33 (by decide) (by decide) (by decide) rfl (by decide) ?_
        refine p_aload_n k244_1112 rfl ?_
        refine p_aload_n k244_1113 rfl ?_
        refine p_iload_n k244_1114 rfl ?_
        refine p_iconst (v := nI 1) k244_1115 (by decide) ?_
        refine p_iaddN k244_1116 ?_
        refine p_sldN k244_1117 (by omega) hn9 (by assumption) (by assumption) ?_
        refine p_aload_n k244_1118 rfl ?_
        refine p_iload_n k244_1119 rfl ?_
        refine p_iconst (v := nI 2) k244_1120 (by decide) ?_
        refine p_iaddN k244_1121 ?_
        refine p_sldN k244_1122 (by omega) hn9 (by assumption) (by assumption) ?_
        refine p_cV2i k244_1123 (s_0 S) c_13_155_11 rfl rfl (Nat.le_of_ble_eq_true rfl) (LC_judge H hsc hn _ _) (fun x1 m1 hq => ?_)
        obtain ⟨I1, J1, K1, h1a, rfl, S1, ⟨hs1, hn1⟩, hR⟩ := hq
        generalize x1 = xa at hR ⊢
        replace S := S1
        refine p_aload_n k244_1126 rfl ?_
        refine p_aload_n k244_1127 rfl ?_
        refine p_iload_n k244_1128 rfl ?_
        refine p_iconst (v := nI 1) k244_1129 (by decide) ?_
        refine p_iaddN k244_1130 ?_
        refine p_sldN k244_1131 (by omega) hn9 (by assumption) (by assumption) ?_
        refine p_aload_n k244_1132 rfl ?_
        refine p_iload_n k244_1133 rfl ?_
        refine p_iconst (v := nI 2) k244_1134 (by decide) ?_
        refine p_iaddN k244_1135 ?_
        refine p_sldN k244_1136 (by omega) hn9 (by assumption) (by assumption) ?_
        refine p_cV2i k244_1137 (s_98 S) c_13_158_12 rfl rfl (Nat.le_of_ble_eq_true rfl) (hR _) (fun x1 m1 hq => ?_)
        obtain ⟨rfl, I2, J2, K2, h2a, rfl, hI2, hs2, hn2⟩ := hq
        refine p_icmp_eq (tgt := 1506) k244_1140 (by decide) (fun _ => ?_) (fun c => False.elim (by exact c rfl))
        refine p_iinc (v := (nI (i + 6))) (ls' := [(0, _), (1, _), (2, _), (3, _)]) k244_1506 rfl (nI_add i 6) rfl ?_
        refine p_goto (tgt := 18) k244_1509 (by decide) ?_
        exact ih (i + 6) (N + 1) I2 J2 K2 h2a (by omega) (by omega) (by omega) hI2 hs2 hn2
      · skip
        refine p_tswI (tgt := 1145) k244_33 (by decide) (by decide) (by decide) rfl (by decide) ?_
        refine p_aload_n k244_1145 rfl ?_
        refine p_cV0i k244_1146 (s_0 S) c_13_159_11 (Nat.le_of_ble_eq_true rfl) (LC_image H hsc hn) (fun x1 m1 hq => ?_)
        obtain ⟨I1, J1, K1, h1a, rfl, S1, ⟨hs1, hn1⟩, hR⟩ := hq
        generalize x1 = xa at hR ⊢
        replace S := S1
        refine p_aload_n k244_1149 rfl ?_
        refine p_cV0i k244_1150 (s_98 S) c_13_162_12 (Nat.le_of_ble_eq_true rfl) (hR _) (fun x1 m1 hq => ?_)
        obtain ⟨rfl, I2, J2, K2, h2a, rfl, hI2, hs2, hn2⟩ := hq
        refine p_icmp_eq (tgt := 1506) k244_1153 (by decide) (fun _ => ?_) (fun c => False.elim (by exact c rfl))
        refine p_iinc (v := (nI (i + 6))) (ls' := [(0, _), (1, _), (2, _), (3, _)]) k244_1506 rfl (nI_add i 6) rfl ?_
        refine p_goto (tgt := 18) k244_1509 (by decide) ?_
        exact ih (i + 6) (N + 1) I2 J2 K2 h2a (by omega) (by omega) (by omega) hI2 hs2 hn2
      · skip
        refine p_tswI (tgt := 1158) k244_33 (by decide) (by decide) (by decide) rfl (by decide) ?_
        refine p_aload_n k244_1158 rfl ?_
        refine p_cV0i k244_1159 (s_0 S) c_13_163_11 (Nat.le_of_ble_eq_true rfl) (LC_undo H hsc hn) (fun x1 m1 hq => ?_)
        obtain ⟨I1, J1, K1, h1a, rfl, S1, ⟨hs1, hn1⟩, hR⟩ := hq
        generalize x1 = xa at hR ⊢
        replace S := S1
        refine p_aload_n k244_1162 rfl ?_
        refine p_cV0i k244_1163 (s_98 S) c_13_166_12 (Nat.le_of_ble_eq_true rfl) (hR _) (fun x1 m1 hq => ?_)
        obtain ⟨rfl, I2, J2, K2, h2a, rfl, hI2, hs2, hn2⟩ := hq
        refine p_icmp_eq (tgt := 1506) k244_1166 (by decide) (fun _ => ?_) (fun c => False.elim (by exact c rfl))
        refine p_iinc (v := (nI (i + 6))) (ls' := [(0, _), (1, _), (2, _), (3, _)]) k244_1506 rfl (nI_add i 6) rfl ?_
        refine p_goto (tgt := 18) k244_1509 (by decide) ?_
        exact ih (i + 6) (N + 1) I2 J2 K2 h2a (by omega) (by omega) (by omega) hI2 hs2 hn2
      · skip
        refine p_tswI (tgt := 1171) k244_33 (by decide) (by decide) (by decide) rfl (by decide) ?_
        refine p_aload_n k244_1171 rfl ?_
        refine p_aload_n k244_1172 rfl ?_
        refine p_iload_n k244_1173 rfl ?_
        refine p_iconst (v := nI 1) k244_1174 (by decide) ?_
        refine p_iaddN k244_1175 ?_
        refine p_sldN k244_1176 (by omega) hn9 (by assumption) (by assumption) ?_
        refine p_aload_n k244_1177 rfl ?_
        refine p_iload_n k244_1178 rfl ?_
        refine p_iconst (v := nI 2) k244_1179 (by decide) ?_
        refine p_iaddN k244_1180 ?_
        refine p_sldN k244_1181 (by omega) hn9 (by assumption) (by assumption) ?_
        refine p_aload_n k244_1182 rfl ?_
        refine p_iload_n k244_1183 rfl ?_
        refine p_iconst (v := nI 3) k244_1184 (by decide) ?_
        refine p_iaddN k244_1185 ?_
        refine p_sldN k244_1186 (by omega) hn9 (by assumption) (by assumption) ?_
        refine p_cV3i k244_1187 (s_0 S) c_13_167_11 rfl rfl rfl (Nat.le_of_ble_eq_true rfl) (LC_act H hsc hn _ _ _) (fun x1 m1 hq => ?_)
        obtain ⟨I1, J1, K1, h1a, rfl, S1, ⟨hs1, hn1⟩, hR⟩ := hq
        generalize x1 = xa at hR ⊢
        replace S := S1
        refine p_aload_n k244_1190 rfl ?_
        refine p_aload_n k244_1191 rfl ?_
        refine p_iload_n k244_1192 rfl ?_
        refine p_iconst (v := nI 1) k244_1193 (by decide) ?_
        refine p_iaddN k244_1194 ?_
        refine p_sldN k244_1195 (by omega) hn9 (by assumption) (by assumption) ?_
        refine p_aload_n k244_1196 rfl ?_
        refine p_iload_n k244_1197 rfl ?_
        refine p_iconst (v := nI 2) k244_1198 (by decide) ?_
        refine p_iaddN k244_1199 ?_
        refine p_sldN k244_1200 (by omega) hn9 (by assumption) (by assumption) ?_
        refine p_aload_n k244_1201 rfl ?_
        refine p_iload_n k244_1202 rfl ?_
        refine p_iconst (v := nI 3) k244_1203 (by decide) ?_
        refine p_iaddN k244_1204 ?_
        refine p_sldN k244_1205 (by omega) hn9 (by assumption) (by assumption) ?_
        refine p_cV3i k244_1206 (s_98 S) c_13_170_12 rfl rfl rfl (Nat.le_of_ble_eq_true rfl) (hR _) (fun x1 m1 hq => ?_)
        obtain ⟨rfl, I2, J2, K2, h2a, rfl, hI2, hs2, hn2⟩ := hq
        refine p_icmp_eq (tgt := 1506) k244_1209 (by decide) (fun _ => ?_) (fun c => False.elim (by exact c rfl))
        refine p_iinc (v := (nI (i + 6))) (ls' := [(0, _), (1, _), (2, _), (3, _)]) k244_1506 rfl (nI_add i 6) rfl ?_
        refine p_goto (tgt := 18) k244_1509 (by decide) ?_
        exact ih (i + 6) (N + 1) I2 J2 K2 h2a (by omega) (by omega) (by omega) hI2 hs2 hn2
      · skip
        refine p_tswI (tgt := 1214) k244_33 (by decide) (by decide) (by decide) rfl (by decide) ?_
        refine p_aload_n k244_1214 rfl ?_
        refine p_aload_n k244_1215 rfl ?_
        refine p_iload_n k244_1216 rfl ?_
        refine p_iconst (v := nI 1) k244_1217 (by decide) ?_
        refine p_iaddN k244_1218 ?_
        refine p_sldN k244_1219 (by omega) hn9 (by assumption) (by assumption) ?_
        refine p_cV1i k244_1220 (s_0 S) c_13_171_11 rfl (Nat.le_of_ble_eq_true rfl) (LC_trace H hsc hn _) (fun x1 m1 hq => ?_)
        obtain ⟨I1, J1, K1, h1a, rfl, S1, ⟨hs1, hn1⟩, hR⟩ := hq
        generalize x1 = xa at hR ⊢
        replace S := S1
        refine p_aload_n k244_1223 rfl ?_
        refine p_aload_n k244_1224 rfl ?_
        refine p_iload_n k244_1225 rfl ?_
        refine p_iconst (v := nI 1) k244_1226 (by decide) ?_
        refine p_iaddN k244_1227 ?_
        refine p_sldN k244_1228 (by omega) hn9 (by assumption) (by assumption) ?_
        refine p_cV1i k244_1229 (s_98 S) c_13_174_12 rfl (Nat.le_of_ble_eq_true rfl) (hR _) (fun x1 m1 hq => ?_)
        obtain ⟨rfl, I2, J2, K2, h2a, rfl, hI2, hs2, hn2⟩ := hq
        refine p_icmp_eq (tgt := 1506) k244_1232 (by decide) (fun _ => ?_) (fun c => False.elim (by exact c rfl))
        refine p_iinc (v := (nI (i + 6))) (ls' := [(0, _), (1, _), (2, _), (3, _)]) k244_1506 rfl (nI_add i 6) rfl ?_
        refine p_goto (tgt := 18) k244_1509 (by decide) ?_
        exact ih (i + 6) (N + 1) I2 J2 K2 h2a (by omega) (by omega) (by omega) hI2 hs2 hn2
      · skip
        refine p_tswI (tgt := 1237) k244_33 (by decide) (by decide) (by decide) rfl (by decide) ?_
        refine p_aload_n k244_1237 rfl ?_
        refine p_aload_n k244_1238 rfl ?_
        refine p_iload_n k244_1239 rfl ?_
        refine p_iconst (v := nI 1) k244_1240 (by decide) ?_
        refine p_iaddN k244_1241 ?_
        refine p_sldN k244_1242 (by omega) hn9 (by assumption) (by assumption) ?_
        refine p_aload_n k244_1243 rfl ?_
        refine p_iload_n k244_1244 rfl ?_
        refine p_iconst (v := nI 2) k244_1245 (by decide) ?_
        refine p_iaddN k244_1246 ?_
        refine p_sldN k244_1247 (by omega) hn9 (by assumption) (by assumption) ?_
        refine p_cV2i k244_1248 (s_0 S) c_13_175_11 rfl rfl (Nat.le_of_ble_eq_true rfl) (LC_taken H hsc hn _ _) (fun x1 m1 hq => ?_)
        obtain ⟨I1, J1, K1, h1a, rfl, S1, ⟨hs1, hn1⟩, hR⟩ := hq
        generalize x1 = xa at hR ⊢
        replace S := S1
        refine p_aload_n k244_1251 rfl ?_
        refine p_aload_n k244_1252 rfl ?_
        refine p_iload_n k244_1253 rfl ?_
        refine p_iconst (v := nI 1) k244_1254 (by decide) ?_
        refine p_iaddN k244_1255 ?_
        refine p_sldN k244_1256 (by omega) hn9 (by assumption) (by assumption) ?_
        refine p_aload_n k244_1257 rfl ?_
        refine p_iload_n k244_1258 rfl ?_
        refine p_iconst (v := nI 2) k244_1259 (by decide) ?_
        refine p_iaddN k244_1260 ?_
        refine p_sldN k244_1261 (by omega) hn9 (by assumption) (by assumption) ?_
        refine p_cV2i k244_1262 (s_98 S) c_13_178_12 rfl rfl (Nat.le_of_ble_eq_true rfl) (hR _) (fun x1 m1 hq => ?_)
        obtain ⟨rfl, I2, J2, K2, h2a, rfl, hI2, hs2, hn2⟩ := hq
        refine p_icmp_eq (tgt := 1506) k244_1265 (by decide) (fun _ => ?_) (fun c => False.elim (by exact c rfl))
        refine p_iinc (v := (nI (i + 6))) (ls' := [(0, _), (1, _), (2, _), (3, _)]) k244_1506 rfl (nI_add i 6) rfl ?_
        refine p_goto (tgt := 18) k244_1509 (by decide) ?_
        exact ih (i + 6) (N + 1) I2 J2 K2 h2a (by omega) (by omega) (by omega) hI2 hs2 hn2
      · skip
        refine p_tswI (tgt := 1270) k244_33 (by decide) (by decide) (by decide) rfl (by decide) ?_
        refine p_aload_n k244_1270 rfl ?_
        refine p_aload_n k244_1271 rfl ?_
        refine p_iload_n k244_1272 rfl ?_
        refine p_iconst (v := nI 1) k244_1273 (by decide) ?_
        refine p_iaddN k244_1274 ?_
        refine p_sldN k244_1275 (by omega) hn9 (by assumption) (by assumption) ?_
        refine p_cV1i k244_1276 (s_0 S) c_13_179_11 rfl (Nat.le_of_ble_eq_true rfl) (LC_count H hsc hn _) (fun x1 m1 hq => ?_)
        obtain ⟨I1, J1, K1, h1a, rfl, S1, ⟨hs1, hn1⟩, hR⟩ := hq
        generalize x1 = xa at hR ⊢
        replace S := S1
        refine p_aload_n k244_1279 rfl ?_
        refine p_aload_n k244_1280 rfl ?_
        refine p_iload_n k244_1281 rfl ?_
        refine p_iconst (v := nI 1) k244_1282 (by decide) ?_
        refine p_iaddN k244_1283 ?_
        refine p_sldN k244_1284 (by omega) hn9 (by assumption) (by assumption) ?_
        refine p_cV1i k244_1285 (s_98 S) c_13_182_12 rfl (Nat.le_of_ble_eq_true rfl) (hR _) (fun x1 m1 hq => ?_)
        obtain ⟨rfl, I2, J2, K2, h2a, rfl, hI2, hs2, hn2⟩ := hq
        refine p_icmp_eq (tgt := 1506) k244_1288 (by decide) (fun _ => ?_) (fun c => False.elim (by exact c rfl))
        refine p_iinc (v := (nI (i + 6))) (ls' := [(0, _), (1, _), (2, _), (3, _)]) k244_1506 rfl (nI_add i 6) rfl ?_
        refine p_goto (tgt := 18) k244_1509 (by decide) ?_
        exact ih (i + 6) (N + 1) I2 J2 K2 h2a (by omega) (by omega) (by omega) hI2 hs2 hn2
      · skip
        refine p_tswI (tgt := 1293) k244_33 (by decide) (by decide) (by decide) rfl (by decide) ?_
        refine p_aload_n k244_1293 rfl ?_
        refine p_aload_n k244_1294 rfl ?_
        refine p_iload_n k244_1295 rfl ?_
        refine p_iconst (v := nI 1) k244_1296 (by decide) ?_
        refine p_iaddN k244_1297 ?_
        refine p_sldN k244_1298 (by omega) hn9 (by assumption) (by assumption) ?_
        refine p_aload_n k244_1299 rfl ?_
        refine p_iload_n k244_1300 rfl ?_
        refine p_iconst (v := nI 2) k244_1301 (by decide) ?_
        refine p_iaddN k244_1302 ?_
        refine p_sldN k244_1303 (by omega) hn9 (by assumption) (by assumption) ?_
        refine p_aload_n k244_1304 rfl ?_
        refine p_iload_n k244_1305 rfl ?_
        refine p_iconst (v := nI 3) k244_1306 (by decide) ?_
        refine p_iaddN k244_1307 ?_
        refine p_sldN k244_1308 (by omega) hn9 (by assumption) (by assumption) ?_
        refine p_cV3i k244_1309 (s_0 S) c_13_183_11 rfl rfl rfl (Nat.le_of_ble_eq_true rfl) (LC_tape H hsc hn _ _ _) (fun x1 m1 hq => ?_)
        obtain ⟨I1, J1, K1, h1a, rfl, S1, ⟨hs1, hn1⟩, hR⟩ := hq
        generalize x1 = xa at hR ⊢
        replace S := S1
        refine p_aload_n k244_1312 rfl ?_
        refine p_aload_n k244_1313 rfl ?_
        refine p_iload_n k244_1314 rfl ?_
        refine p_iconst (v := nI 1) k244_1315 (by decide) ?_
        refine p_iaddN k244_1316 ?_
        refine p_sldN k244_1317 (by omega) hn9 (by assumption) (by assumption) ?_
        refine p_aload_n k244_1318 rfl ?_
        refine p_iload_n k244_1319 rfl ?_
        refine p_iconst (v := nI 2) k244_1320 (by decide) ?_
        refine p_iaddN k244_1321 ?_
        refine p_sldN k244_1322 (by omega) hn9 (by assumption) (by assumption) ?_
        refine p_aload_n k244_1323 rfl ?_
        refine p_iload_n k244_1324 rfl ?_
        refine p_iconst (v := nI 3) k244_1325 (by decide) ?_
        refine p_iaddN k244_1326 ?_
        refine p_sldN k244_1327 (by omega) hn9 (by assumption) (by assumption) ?_
        refine p_cV3i k244_1328 (s_98 S) c_13_186_12 rfl rfl rfl (Nat.le_of_ble_eq_true rfl) (hR _) (fun x1 m1 hq => ?_)
        obtain ⟨rfl, I2, J2, K2, h2a, rfl, hI2, hs2, hn2⟩ := hq
        refine p_icmp_eq (tgt := 1506) k244_1331 (by decide) (fun _ => ?_) (fun c => False.elim (by exact c rfl))
        refine p_iinc (v := (nI (i + 6))) (ls' := [(0, _), (1, _), (2, _), (3, _)]) k244_1506 rfl (nI_add i 6) rfl ?_
        refine p_goto (tgt := 18) k244_1509 (by decide) ?_
        exact ih (i + 6) (N + 1) I2 J2 K2 h2a (by omega) (by omega) (by omega) hI2 hs2 hn2
      · skip
        refine p_tswI (tgt := 1336) k244_33 (by decide) (by decide) (by decide) rfl (by decide) ?_
        refine p_aload_n k244_1336 rfl ?_
        refine p_aload_n k244_1337 rfl ?_
        refine p_iload_n k244_1338 rfl ?_
        refine p_iconst (v := nI 1) k244_1339 (by decide) ?_
        refine p_iaddN k244_1340 ?_
        refine p_sldN k244_1341 (by omega) hn9 (by assumption) (by assumption) ?_
        refine p_aload_n k244_1342 rfl ?_
        refine p_iload_n k244_1343 rfl ?_
        refine p_iconst (v := nI 2) k244_1344 (by decide) ?_
        refine p_iaddN k244_1345 ?_
        refine p_sldN k244_1346 (by omega) hn9 (by assumption) (by assumption) ?_
        refine p_aload_n k244_1347 rfl ?_
        refine p_iload_n k244_1348 rfl ?_
        refine p_iconst (v := nI 3) k244_1349 (by decide) ?_
        refine p_iaddN k244_1350 ?_
        refine p_sldN k244_1351 (by omega) hn9 (by assumption) (by assumption) ?_
        refine p_i2l k244_1352 ?_
        refine p_bipush (v := nI 32) k244_1353 (by decide) ?_
        refine p_lshl k244_1355 ?_
        refine p_aload_n k244_1356 rfl ?_
        refine p_iload_n k244_1357 rfl ?_
        refine p_iconst (v := nI 4) k244_1358 (by decide) ?_
        refine p_iaddN k244_1359 ?_
        refine p_sldN k244_1360 (by omega) hn9 (by assumption) (by assumption) ?_
        refine p_i2l k244_1361 ?_
        refine p_ldc2 (v := (4294967295)) k244_1362 (by decide) ?_
        refine p_land k244_1365 ?_
        refine p_lor k244_1366 ?_
        refine p_cV3Li k244_1367 (s_0 S) c_13_189_11 (Nat.le_of_ble_eq_true rfl) rfl rfl rfl (Nat.le_of_ble_eq_true rfl) (LC_item H hsc hn _ _ _) (fun x1 m1 hq => ?_)
        obtain ⟨I1, J1, K1, h1a, rfl, S1, ⟨hs1, hn1⟩, hR⟩ := hq
        generalize x1 = xa at hR ⊢
        replace S := S1
        refine p_aload_n k244_1370 rfl ?_
        refine p_aload_n k244_1371 rfl ?_
        refine p_iload_n k244_1372 rfl ?_
        refine p_iconst (v := nI 1) k244_1373 (by decide) ?_
        refine p_iaddN k244_1374 ?_
        refine p_sldN k244_1375 (by omega) hn9 (by assumption) (by assumption) ?_
        refine p_aload_n k244_1376 rfl ?_
        refine p_iload_n k244_1377 rfl ?_
        refine p_iconst (v := nI 2) k244_1378 (by decide) ?_
        refine p_iaddN k244_1379 ?_
        refine p_sldN k244_1380 (by omega) hn9 (by assumption) (by assumption) ?_
        refine p_aload_n k244_1381 rfl ?_
        refine p_iload_n k244_1382 rfl ?_
        refine p_iconst (v := nI 3) k244_1383 (by decide) ?_
        refine p_iaddN k244_1384 ?_
        refine p_sldN k244_1385 (by omega) hn9 (by assumption) (by assumption) ?_
        refine p_i2l k244_1386 ?_
        refine p_bipush (v := nI 32) k244_1387 (by decide) ?_
        refine p_lshl k244_1389 ?_
        refine p_aload_n k244_1390 rfl ?_
        refine p_iload_n k244_1391 rfl ?_
        refine p_iconst (v := nI 4) k244_1392 (by decide) ?_
        refine p_iaddN k244_1393 ?_
        refine p_sldN k244_1394 (by omega) hn9 (by assumption) (by assumption) ?_
        refine p_i2l k244_1395 ?_
        refine p_ldc2 (v := (4294967295)) k244_1396 (by decide) ?_
        refine p_land k244_1399 ?_
        refine p_lor k244_1400 ?_
        refine p_cV3Li k244_1401 (s_98 S) c_13_193_12 (Nat.le_of_ble_eq_true rfl) rfl rfl rfl (Nat.le_of_ble_eq_true rfl) (hR _) (fun x1 m1 hq => ?_)
        obtain ⟨rfl, I2, J2, K2, h2a, rfl, hI2, hs2, hn2⟩ := hq
        refine p_icmp_eq (tgt := 1506) k244_1404 (by decide) (fun _ => ?_) (fun c => False.elim (by exact c rfl))
        refine p_iinc (v := (nI (i + 6))) (ls' := [(0, _), (1, _), (2, _), (3, _)]) k244_1506 rfl (nI_add i 6) rfl ?_
        refine p_goto (tgt := 18) k244_1509 (by decide) ?_
        exact ih (i + 6) (N + 1) I2 J2 K2 h2a (by omega) (by omega) (by omega) hI2 hs2 hn2
      · skip
        refine p_tswI (tgt := 1409) k244_33 (by decide) (by decide) (by decide) rfl (by decide) ?_
        refine p_aload_n k244_1409 rfl ?_
        refine p_aload_n k244_1410 rfl ?_
        refine p_iload_n k244_1411 rfl ?_
        refine p_iconst (v := nI 1) k244_1412 (by decide) ?_
        refine p_iaddN k244_1413 ?_
        refine p_sldN k244_1414 (by omega) hn9 (by assumption) (by assumption) ?_
        refine p_aload_n k244_1415 rfl ?_
        refine p_iload_n k244_1416 rfl ?_
        refine p_iconst (v := nI 2) k244_1417 (by decide) ?_
        refine p_iaddN k244_1418 ?_
        refine p_sldN k244_1419 (by omega) hn9 (by assumption) (by assumption) ?_
        refine p_cV2l k244_1420 (s_0 S) c_13_194_11 rfl rfl (Nat.le_of_ble_eq_true rfl) (LC_read H hsc hn _ _) (fun x1 m1 hq => ?_)
        obtain ⟨I1, J1, K1, h1a, rfl, S1, ⟨hs1, hn1⟩, hR⟩ := hq
        generalize x1 = xa at hR ⊢
        replace S := S1
        refine p_aload_n k244_1423 rfl ?_
        refine p_aload_n k244_1424 rfl ?_
        refine p_iload_n k244_1425 rfl ?_
        refine p_iconst (v := nI 1) k244_1426 (by decide) ?_
        refine p_iaddN k244_1427 ?_
        refine p_sldN k244_1428 (by omega) hn9 (by assumption) (by assumption) ?_
        refine p_aload_n k244_1429 rfl ?_
        refine p_iload_n k244_1430 rfl ?_
        refine p_iconst (v := nI 2) k244_1431 (by decide) ?_
        refine p_iaddN k244_1432 ?_
        refine p_sldN k244_1433 (by omega) hn9 (by assumption) (by assumption) ?_
        refine p_cV2l k244_1434 (s_98 S) c_13_197_12 rfl rfl (Nat.le_of_ble_eq_true rfl) (hR _) (fun x1 m1 hq => ?_)
        obtain ⟨rfl, I2, J2, K2, h2a, rfl, hI2, hs2, hn2⟩ := hq
        refine p_lcmp k244_1437 ?_
        refine p_if_eq (tgt := 1506) k244_1438 (by decide) (fun _ => ?_) (fun c => False.elim (by exact c (lg_self _)))
        refine p_iinc (v := (nI (i + 6))) (ls' := [(0, _), (1, _), (2, _), (3, _)]) k244_1506 rfl (nI_add i 6) rfl ?_
        refine p_goto (tgt := 18) k244_1509 (by decide) ?_
        exact ih (i + 6) (N + 1) I2 J2 K2 h2a (by omega) (by omega) (by omega) hI2 hs2 hn2
      · skip
        refine p_tswI (tgt := 1443) k244_33 (by decide) (by decide) (by decide) rfl (by decide) ?_
        refine p_aload_n k244_1443 rfl ?_
        refine p_aload_n k244_1444 rfl ?_
        refine p_iload_n k244_1445 rfl ?_
        refine p_iconst (v := nI 1) k244_1446 (by decide) ?_
        refine p_iaddN k244_1447 ?_
        refine p_sldN k244_1448 (by omega) hn9 (by assumption) (by assumption) ?_
        refine p_aload_n k244_1449 rfl ?_
        refine p_iload_n k244_1450 rfl ?_
        refine p_iconst (v := nI 2) k244_1451 (by decide) ?_
        refine p_iaddN k244_1452 ?_
        refine p_sldN k244_1453 (by omega) hn9 (by assumption) (by assumption) ?_
        refine p_aload_n k244_1454 rfl ?_
        refine p_iload_n k244_1455 rfl ?_
        refine p_iconst (v := nI 3) k244_1456 (by decide) ?_
        refine p_iaddN k244_1457 ?_
        refine p_sldN k244_1458 (by omega) hn9 (by assumption) (by assumption) ?_
        refine p_aload_n k244_1459 rfl ?_
        refine p_iload_n k244_1460 rfl ?_
        refine p_iconst (v := nI 4) k244_1461 (by decide) ?_
        refine p_iaddN k244_1462 ?_
        refine p_sldN k244_1463 (by omega) hn9 (by assumption) (by assumption) ?_
        refine p_aload_n k244_1464 rfl ?_
        refine p_iload_n k244_1465 rfl ?_
        refine p_iconst (v := nI 5) k244_1466 (by decide) ?_
        refine p_iaddN k244_1467 ?_
        refine p_sldN k244_1468 (by omega) hn9 (by assumption) (by assumption) ?_
        refine p_cV5i k244_1469 (s_0 S) c_13_198_11 rfl rfl rfl rfl rfl (Nat.le_of_ble_eq_true rfl) (LC_shift H hsc hn _ _ _ _ _) (fun x1 m1 hq => ?_)
        obtain ⟨I1, J1, K1, h1a, rfl, S1, ⟨hs1, hn1⟩, hR⟩ := hq
        generalize x1 = xa at hR ⊢
        replace S := S1
        refine p_aload_n k244_1472 rfl ?_
        refine p_aload_n k244_1473 rfl ?_
        refine p_iload_n k244_1474 rfl ?_
        refine p_iconst (v := nI 1) k244_1475 (by decide) ?_
        refine p_iaddN k244_1476 ?_
        refine p_sldN k244_1477 (by omega) hn9 (by assumption) (by assumption) ?_
        refine p_aload_n k244_1478 rfl ?_
        refine p_iload_n k244_1479 rfl ?_
        refine p_iconst (v := nI 2) k244_1480 (by decide) ?_
        refine p_iaddN k244_1481 ?_
        refine p_sldN k244_1482 (by omega) hn9 (by assumption) (by assumption) ?_
        refine p_aload_n k244_1483 rfl ?_
        refine p_iload_n k244_1484 rfl ?_
        refine p_iconst (v := nI 3) k244_1485 (by decide) ?_
        refine p_iaddN k244_1486 ?_
        refine p_sldN k244_1487 (by omega) hn9 (by assumption) (by assumption) ?_
        refine p_aload_n k244_1488 rfl ?_
        refine p_iload_n k244_1489 rfl ?_
        refine p_iconst (v := nI 4) k244_1490 (by decide) ?_
        refine p_iaddN k244_1491 ?_
        refine p_sldN k244_1492 (by omega) hn9 (by assumption) (by assumption) ?_
        refine p_aload_n k244_1493 rfl ?_
        refine p_iload_n k244_1494 rfl ?_
        refine p_iconst (v := nI 5) k244_1495 (by decide) ?_
        refine p_iaddN k244_1496 ?_
        refine p_sldN k244_1497 (by omega) hn9 (by assumption) (by assumption) ?_
        refine p_cV5i k244_1498 (s_98 S) c_13_201_12 rfl rfl rfl rfl rfl (Nat.le_of_ble_eq_true rfl) (hR _) (fun x1 m1 hq => ?_)
        obtain ⟨rfl, I2, J2, K2, h2a, rfl, hI2, hs2, hn2⟩ := hq
        refine p_icmp_eq (tgt := 1506) k244_1501 (by decide) (fun _ => ?_) (fun c => False.elim (by exact c rfl))
        refine p_iinc (v := (nI (i + 6))) (ls' := [(0, _), (1, _), (2, _), (3, _)]) k244_1506 rfl (nI_add i 6) rfl ?_
        refine p_goto (tgt := 18) k244_1509 (by decide) ?_
        exact ih (i + 6) (N + 1) I2 J2 K2 h2a (by omega) (by omega) (by omega) hI2 hs2 hn2
      · skip
        refine p_tswO (tgt := 1506) k244_33 (by omega) (by omega) (by decide) ?_
        refine p_iinc (v := (nI (i + 6))) (ls' := [(0, _), (1, _), (2, _), (3, _)]) k244_1506 rfl (nI_add i 6) rfl ?_
        refine p_goto (tgt := 18) k244_1509 (by decide) ?_
        exact ih (i + 6) (N + 1) I J K h (by omega) (by omega) (by omega) (H.mono (Nat.le_succ N)) hsc hn
