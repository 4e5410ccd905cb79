/-! the law's cases -/
theorem st_fl9 {I J M : Nat → Nat → Int32} {S : SZ} {cd : Nat} {C : Int32} {α : Type} {x y : α} (h : REL I M S) (hc : C = nI cd) (hn : ¬ C = 0) (w : cd ≠ 0 → J = I) : up2 M 0 15 C 0 15 = nI cd ∧ (cd = 0 → x = y) ∧ REL J (up2 M 0 15 C) S := st_fl (R := fun (_ : α) _ => True) h hc hn ⟨fun _ => trivial, w⟩
section LCS
variable {X : EN} {D : va_G} {dT : Nat → ClassId} {ad : Nat → Nat} {b m0 o o2 L : Nat} {xs : Nat → Int32} {Z : ZT} {I M : Nat → Nat → Int32} {S : SZ} {g : Nat → Int64} {g2 : Nat → UInt64} {ad8 : Nat → Nat}
set_option maxRecDepth 100000 in
set_option maxHeartbeats 4000000 in
theorem lc_roll (hX : CX X D (tyL dT) cL_law RL wsL_law room_1 9) (hL : XLX X Z) (hs : XSX X b L xs) {i : Nat} (hi : i + 5 ≤ L) (hL2 : L ≤ 2560) {ce sl : Nat} (hce : ce + 862 ≤ 603072) (hsl : sl + 5100 ≤ 7198825) (hN : NX X D dT Z ad b m0 o o2 (nI i) 2327 (ce + 862) (sl + 5100)) (hr : REL I M S) (h8 : ad8 0 = m0) (h9 : ad8 99999 = Z.1) : GW X D (LW dT ad I o g o2 g2 ad8 M S) (lvW b (ad 0) m0 o o2 (nI i)) ce sl 208 [] := by
  refine g_aload_n hX 4 rfl dL_law_208 rfl ?_
  refine g_aload_n hX 2 rfl dL_law_209 rfl ?_
  refine gw_w LW_J ?_
  refine l_callS hX hL [.ref (ad 0), .ref o] (k_L_roll I) gL_law_L_roll rfl rfl rfl hd_L_roll ⟨Nat.le_of_ble_eq_true rfl, Nat.le_of_ble_eq_true rfl⟩ ⟨by show _ ≤ 603072; omega, by show _ ≤ 7198825; omega⟩ rfl (Nat.le_of_ble_eq_true rfl) dL_law_210 (fun r w hw => ?_)
  obtain ⟨J, g9, rfl, rfl, hR, hJ⟩ := hw
  refine gw_w LW_J.symm ?_
  refine g_istore hX ((6, .int (nI (krl I))) :: lvW b (ad 0) m0 o o2 (nI i)) rfl dL_law_213 (Nat.le_of_ble_eq_true rfl) ?_
  refine g_aload_n hX 4 rfl dL_law_215 rfl ?_
  refine l_callMI hX hL h8 [] (k_X8_roll M S hr.1.1 hr.1.2.1 hr.1.2.2.1 hr.1.2.2.2 h9) gL_law_X8_roll rfl rfl rfl hd_X8_roll ⟨Nat.le_of_ble_eq_true rfl, Nat.le_of_ble_eq_true rfl⟩ ⟨by show _ ≤ 603072; omega, by show _ ≤ 7198825; omega⟩ rfl (Nat.le_of_ble_eq_true rfl) dL_law_216 (fun r u hu => ?_)
  obtain ⟨ad2, hA, (⟨c0, rfl, rfl⟩ | ⟨c0, rfl⟩)⟩ := hu
  · refine ⟨_, _, _, rfl, ?_⟩
    exact l_tailI hX hL hN (by omega) (by omega) hce hsl ((hA 0 (Or.inl (m_lo (by decide))) (by decide) (Or.inl (by decide))).trans h8) (AGm_z hA h9) (n0 (by unfold krl; (repeat' split) <;> decide)) (st_roll hr c0 ⟨hR, hJ⟩) dL_law_219 dL_law_221 dL_law_222 dL_law_225 dL_law_227 dL_law_232 dL_law_234 dL_law_237 dL_law_238 dL_law_239 dL_law_240 dL_law_242 dL_law_243 dL_law_244 dL_law_249 (by decide)
  · refine ⟨_, _, _, rfl, ?_⟩
    exact l_tailI hX hL hN (by omega) (by omega) hce hsl ((hA 0 (Or.inl (m_lo (by decide))) (by decide) (Or.inl (by decide))).trans h8) (AGm_z hA h9) (n0 (by unfold krl; (repeat' split) <;> decide)) (st_fl9 hr (by rw [c_rl hr.2.1.1 hr.2.1.2.1, if_neg c0]; rfl) (by decide) hJ) dL_law_219 dL_law_221 dL_law_222 dL_law_225 dL_law_227 dL_law_232 dL_law_234 dL_law_237 dL_law_238 dL_law_239 dL_law_240 dL_law_242 dL_law_243 dL_law_244 dL_law_249 (by decide)
set_option maxRecDepth 100000 in
set_option maxHeartbeats 4000000 in
theorem lc_punch (hX : CX X D (tyL dT) cL_law RL wsL_law room_1 9) (hL : XLX X Z) (hs : XSX X b L xs) {i : Nat} (hi : i + 5 ≤ L) (hL2 : L ≤ 2560) {ce sl : Nat} (hce : ce + 862 ≤ 603072) (hsl : sl + 5100 ≤ 7198825) (hN : NX X D dT Z ad b m0 o o2 (nI i) 2327 (ce + 862) (sl + 5100)) (hr : REL I M S) (h8 : ad8 0 = m0) (h9 : ad8 99999 = Z.1) : GW X D (LW dT ad I o g o2 g2 ad8 M S) (lvW b (ad 0) m0 o o2 (nI i)) ce sl 252 [] := by
  refine g_aload_n hX 4 rfl dL_law_252 rfl ?_
  refine l_arg (k := 1) hX hs 5 0 (by omega) hL2 rfl rfl rfl dL_law_253 dL_law_254 dL_law_256 dL_law_257 dL_law_258 ?_
  refine l_arg (k := 2) hX hs 5 0 (by omega) hL2 rfl rfl rfl dL_law_259 dL_law_260 dL_law_262 dL_law_263 dL_law_264 ?_
  refine l_arg (k := 3) hX hs 5 0 (by omega) hL2 rfl rfl rfl dL_law_265 dL_law_266 dL_law_268 dL_law_269 dL_law_270 ?_
  refine l_arg (k := 4) hX hs 5 0 (by omega) hL2 rfl rfl rfl dL_law_271 dL_law_272 dL_law_274 dL_law_275 dL_law_276 ?_
  refine l_bool hX dL_law_277 dL_law_280 dL_law_281 dL_law_284 ?_
  refine g_aload_n hX 2 rfl dL_law_285 rfl ?_
  refine gw_w LW_J ?_
  refine l_callS hX hL [.ref (ad 0), .int (xs (i + 1)), .int (xs (i + 2)), .int (xs (i + 3)), .int (bl (xs (i + 4))), .ref o] (k_L_punch I (xs (i + 1)) (xs (i + 2)) (xs (i + 3)) (bl (xs (i + 4)))) gL_law_L_punch rfl rfl rfl hd_L_punch ⟨Nat.le_of_ble_eq_true rfl, Nat.le_of_ble_eq_true rfl⟩ ⟨by show _ ≤ 603072; omega, by show _ ≤ 7198825; omega⟩ rfl (Nat.le_of_ble_eq_true rfl) dL_law_286 (fun r w hw => ?_)
  obtain ⟨J, g9, rfl, rfl, hR, hJ⟩ := hw
  refine gw_w LW_J.symm ?_
  refine g_istore hX ((6, .int (nI (kpu I (xs (i + 1)) (xs (i + 2)) (xs (i + 3))))) :: lvW b (ad 0) m0 o o2 (nI i)) rfl dL_law_289 (Nat.le_of_ble_eq_true rfl) ?_
  refine g_aload_n hX 4 rfl dL_law_291 rfl ?_
  refine l_arg (k := 1) hX hs 6 1 (by omega) hL2 rfl rfl rfl dL_law_292 dL_law_293 dL_law_295 dL_law_296 dL_law_297 ?_
  refine l_arg (k := 2) hX hs 6 1 (by omega) hL2 rfl rfl rfl dL_law_298 dL_law_299 dL_law_301 dL_law_302 dL_law_303 ?_
  refine l_arg (k := 3) hX hs 6 1 (by omega) hL2 rfl rfl rfl dL_law_304 dL_law_305 dL_law_307 dL_law_308 dL_law_309 ?_
  refine l_arg (k := 4) hX hs 6 1 (by omega) hL2 rfl rfl rfl dL_law_310 dL_law_311 dL_law_313 dL_law_314 dL_law_315 ?_
  refine l_bool hX dL_law_316 dL_law_319 dL_law_320 dL_law_323 ?_
  refine l_callMI hX hL h8 [.int (xs (i + 1)), .int (xs (i + 2)), .int (xs (i + 3)), .int (bl (xs (i + 4)))] (k_X8_punch M S hr.1.1 hr.1.2.1 hr.1.2.2.1 hr.1.2.2.2 (rel_bit hr) (xs (i + 1)) (xs (i + 2)) (xs (i + 3)) (bl (xs (i + 4))) (bl_01 _)) gL_law_X8_punch rfl rfl rfl hd_X8_punch ⟨Nat.le_of_ble_eq_true rfl, Nat.le_of_ble_eq_true rfl⟩ ⟨by show _ ≤ 603072; omega, by show _ ≤ 7198825; omega⟩ rfl (Nat.le_of_ble_eq_true rfl) dL_law_324 (fun r u hu => ?_)
  obtain ⟨rfl, rfl⟩ := hu
  refine ⟨_, _, _, rfl, ?_⟩
  exact l_tailB hX hL hN (by omega) (by omega) hce hsl h8 h9 (n0 (by unfold kpu; (repeat' split) <;> decide)) (st_punch hr (xs (i + 1)) (xs (i + 2)) (xs (i + 3)) (bl (xs (i + 4))) (bl_01 _) ⟨hR, hJ⟩) dL_law_327 dL_law_329 dL_law_330 dL_law_333 dL_law_335 dL_law_340 dL_law_342 dL_law_345 dL_law_346 dL_law_347 dL_law_348 dL_law_350 dL_law_353 dL_law_354 dL_law_357 dL_law_358 dL_law_359 dL_law_364 (by decide)
set_option maxRecDepth 100000 in
set_option maxHeartbeats 4000000 in
theorem lc_hole (hX : CX X D (tyL dT) cL_law RL wsL_law room_1 9) (hL : XLX X Z) (hs : XSX X b L xs) {i : Nat} (hi : i + 5 ≤ L) (hL2 : L ≤ 2560) {ce sl : Nat} (hce : ce + 862 ≤ 603072) (hsl : sl + 5100 ≤ 7198825) (hN : NX X D dT Z ad b m0 o o2 (nI i) 2327 (ce + 862) (sl + 5100)) (hr : REL I M S) (h8 : ad8 0 = m0) (h9 : ad8 99999 = Z.1) : GW X D (LW dT ad I o g o2 g2 ad8 M S) (lvW b (ad 0) m0 o o2 (nI i)) ce sl 367 [] := by
  refine g_aload_n hX 4 rfl dL_law_367 rfl ?_
  refine l_arg (k := 1) hX hs 5 0 (by omega) hL2 rfl rfl rfl dL_law_368 dL_law_369 dL_law_371 dL_law_372 dL_law_373 ?_
  refine l_arg (k := 2) hX hs 5 0 (by omega) hL2 rfl rfl rfl dL_law_374 dL_law_375 dL_law_377 dL_law_378 dL_law_379 ?_
  refine l_arg (k := 3) hX hs 5 0 (by omega) hL2 rfl rfl rfl dL_law_380 dL_law_381 dL_law_383 dL_law_384 dL_law_385 ?_
  refine g_aload_n hX 2 rfl dL_law_386 rfl ?_
  refine gw_w LW_J ?_
  refine l_callS hX hL [.ref (ad 0), .int (xs (i + 1)), .int (xs (i + 2)), .int (xs (i + 3)), .ref o] (k_L_hole I (xs (i + 1)) (xs (i + 2)) (xs (i + 3))) gL_law_L_hole rfl rfl rfl hd_L_hole ⟨Nat.le_of_ble_eq_true rfl, Nat.le_of_ble_eq_true rfl⟩ ⟨by show _ ≤ 603072; omega, by show _ ≤ 7198825; omega⟩ rfl (Nat.le_of_ble_eq_true rfl) dL_law_387 (fun r w hw => ?_)
  obtain ⟨J, g9, rfl, rfl, hR, hJ⟩ := hw
  refine gw_w LW_J.symm ?_
  refine g_istore hX ((6, .int (nI (kpu I (xs (i + 1)) (xs (i + 2)) (xs (i + 3))))) :: lvW b (ad 0) m0 o o2 (nI i)) rfl dL_law_390 (Nat.le_of_ble_eq_true rfl) ?_
  refine g_aload_n hX 4 rfl dL_law_392 rfl ?_
  refine l_arg (k := 1) hX hs 6 1 (by omega) hL2 rfl rfl rfl dL_law_393 dL_law_394 dL_law_396 dL_law_397 dL_law_398 ?_
  refine l_arg (k := 2) hX hs 6 1 (by omega) hL2 rfl rfl rfl dL_law_399 dL_law_400 dL_law_402 dL_law_403 dL_law_404 ?_
  refine l_arg (k := 3) hX hs 6 1 (by omega) hL2 rfl rfl rfl dL_law_405 dL_law_406 dL_law_408 dL_law_409 dL_law_410 ?_
  refine l_callMI hX hL h8 [.int (xs (i + 1)), .int (xs (i + 2)), .int (xs (i + 3))] (k_X8_hole M S hr.1.1 hr.1.2.1 hr.1.2.2.1 hr.1.2.2.2 (xs (i + 1)) (xs (i + 2)) (xs (i + 3))) gL_law_X8_hole rfl rfl rfl hd_X8_hole ⟨Nat.le_of_ble_eq_true rfl, Nat.le_of_ble_eq_true rfl⟩ ⟨by show _ ≤ 603072; omega, by show _ ≤ 7198825; omega⟩ rfl (Nat.le_of_ble_eq_true rfl) dL_law_411 (fun r u hu => ?_)
  obtain ⟨rfl, rfl⟩ := hu
  refine ⟨_, _, _, rfl, ?_⟩
  exact l_tailB hX hL hN (by omega) (by omega) hce hsl h8 h9 (n0 (by unfold kpu; (repeat' split) <;> decide)) (st_hole hr (xs (i + 1)) (xs (i + 2)) (xs (i + 3)) ⟨hR, hJ⟩) dL_law_414 dL_law_416 dL_law_417 dL_law_420 dL_law_422 dL_law_427 dL_law_429 dL_law_432 dL_law_433 dL_law_434 dL_law_435 dL_law_437 dL_law_440 dL_law_441 dL_law_444 dL_law_445 dL_law_446 dL_law_451 (by decide)
set_option maxRecDepth 100000 in
set_option maxHeartbeats 4000000 in
theorem lc_length (hX : CX X D (tyL dT) cL_law RL wsL_law room_1 9) (hL : XLX X Z) (hs : XSX X b L xs) {i : Nat} (hi : i + 5 ≤ L) (hL2 : L ≤ 2560) {ce sl : Nat} (hce : ce + 862 ≤ 603072) (hsl : sl + 5100 ≤ 7198825) (hN : NX X D dT Z ad b m0 o o2 (nI i) 2327 (ce + 862) (sl + 5100)) (hr : REL I M S) (h8 : ad8 0 = m0) (h9 : ad8 99999 = Z.1) : GW X D (LW dT ad I o g o2 g2 ad8 M S) (lvW b (ad 0) m0 o o2 (nI i)) ce sl 454 [] := by
  refine g_aload_n hX 4 rfl dL_law_454 rfl ?_
  refine l_arg (k := 1) hX hs 5 0 (by omega) hL2 rfl rfl rfl dL_law_455 dL_law_456 dL_law_458 dL_law_459 dL_law_460 ?_
  refine g_aload_n hX 2 rfl dL_law_461 rfl ?_
  refine gw_w LW_J ?_
  refine l_callS hX hL [.ref (ad 0), .int (xs (i + 1)), .ref o] (k_L_length I (xs (i + 1))) gL_law_L_length rfl rfl rfl hd_L_length ⟨Nat.le_of_ble_eq_true rfl, Nat.le_of_ble_eq_true rfl⟩ ⟨by show _ ≤ 603072; omega, by show _ ≤ 7198825; omega⟩ rfl (Nat.le_of_ble_eq_true rfl) dL_law_462 (fun r w hw => ?_)
  obtain ⟨J, g9, rfl, rfl, hR, hJ⟩ := hw
  refine gw_w LW_J.symm ?_
  refine g_istore hX ((6, .int (nI (kr1 I (xs (i + 1))))) :: lvW b (ad 0) m0 o o2 (nI i)) rfl dL_law_465 (Nat.le_of_ble_eq_true rfl) ?_
  refine g_aload_n hX 4 rfl dL_law_467 rfl ?_
  refine l_arg (k := 1) hX hs 6 1 (by omega) hL2 rfl rfl rfl dL_law_468 dL_law_469 dL_law_471 dL_law_472 dL_law_473 ?_
  refine l_callMI hX hL h8 [.int (xs (i + 1))] (k_X8_length M S hr.1.1 hr.1.2.1 hr.1.2.2.1 hr.1.2.2.2 (xs (i + 1))) gL_law_X8_length rfl rfl rfl hd_X8_length ⟨Nat.le_of_ble_eq_true rfl, Nat.le_of_ble_eq_true rfl⟩ ⟨by show _ ≤ 603072; omega, by show _ ≤ 7198825; omega⟩ rfl (Nat.le_of_ble_eq_true rfl) dL_law_474 (fun r u hu => ?_)
  obtain ⟨rfl, rfl⟩ := hu
  refine ⟨_, _, _, rfl, ?_⟩
  exact l_tailI hX hL hN (by omega) (by omega) hce hsl h8 h9 (n0 (by unfold kr1; (repeat' split) <;> decide)) (st_length hr (xs (i + 1)) ⟨hR, hJ⟩) dL_law_477 dL_law_479 dL_law_480 dL_law_483 dL_law_485 dL_law_490 dL_law_492 dL_law_495 dL_law_496 dL_law_497 dL_law_498 dL_law_500 dL_law_501 dL_law_502 dL_law_507 (by decide)
set_option maxRecDepth 100000 in
set_option maxHeartbeats 4000000 in
theorem lc_holes (hX : CX X D (tyL dT) cL_law RL wsL_law room_1 9) (hL : XLX X Z) (hs : XSX X b L xs) {i : Nat} (hi : i + 5 ≤ L) (hL2 : L ≤ 2560) {ce sl : Nat} (hce : ce + 862 ≤ 603072) (hsl : sl + 5100 ≤ 7198825) (hN : NX X D dT Z ad b m0 o o2 (nI i) 2327 (ce + 862) (sl + 5100)) (hr : REL I M S) (h8 : ad8 0 = m0) (h9 : ad8 99999 = Z.1) : GW X D (LW dT ad I o g o2 g2 ad8 M S) (lvW b (ad 0) m0 o o2 (nI i)) ce sl 510 [] := by
  refine g_aload_n hX 4 rfl dL_law_510 rfl ?_
  refine l_arg (k := 1) hX hs 5 0 (by omega) hL2 rfl rfl rfl dL_law_511 dL_law_512 dL_law_514 dL_law_515 dL_law_516 ?_
  refine l_arg (k := 2) hX hs 5 0 (by omega) hL2 rfl rfl rfl dL_law_517 dL_law_518 dL_law_520 dL_law_521 dL_law_522 ?_
  refine g_aload_n hX 2 rfl dL_law_523 rfl ?_
  refine gw_w LW_J ?_
  refine l_callS hX hL [.ref (ad 0), .int (xs (i + 1)), .int (xs (i + 2)), .ref o] (k_L_holes I (xs (i + 1)) (xs (i + 2))) gL_law_L_holes rfl rfl rfl hd_L_holes ⟨Nat.le_of_ble_eq_true rfl, Nat.le_of_ble_eq_true rfl⟩ ⟨by show _ ≤ 603072; omega, by show _ ≤ 7198825; omega⟩ rfl (Nat.le_of_ble_eq_true rfl) dL_law_524 (fun r w hw => ?_)
  obtain ⟨J, g9, rfl, rfl, hR, hJ⟩ := hw
  refine gw_w LW_J.symm ?_
  refine g_istore hX ((6, .int (nI (kho I (xs (i + 1)) (xs (i + 2))))) :: lvW b (ad 0) m0 o o2 (nI i)) rfl dL_law_527 (Nat.le_of_ble_eq_true rfl) ?_
  refine g_aload_n hX 4 rfl dL_law_529 rfl ?_
  refine l_arg (k := 1) hX hs 6 1 (by omega) hL2 rfl rfl rfl dL_law_530 dL_law_531 dL_law_533 dL_law_534 dL_law_535 ?_
  refine l_arg (k := 2) hX hs 6 1 (by omega) hL2 rfl rfl rfl dL_law_536 dL_law_537 dL_law_539 dL_law_540 dL_law_541 ?_
  refine l_callMI hX hL h8 [.int (xs (i + 1)), .int (xs (i + 2))] (k_X8_holes M S hr.1.1 hr.1.2.1 hr.1.2.2.1 hr.1.2.2.2 (xs (i + 1)) (xs (i + 2))) gL_law_X8_holes rfl rfl rfl hd_X8_holes ⟨Nat.le_of_ble_eq_true rfl, Nat.le_of_ble_eq_true rfl⟩ ⟨by show _ ≤ 603072; omega, by show _ ≤ 7198825; omega⟩ rfl (Nat.le_of_ble_eq_true rfl) dL_law_542 (fun r u hu => ?_)
  obtain ⟨rfl, rfl⟩ := hu
  refine ⟨_, _, _, rfl, ?_⟩
  exact l_tailI hX hL hN (by omega) (by omega) hce hsl h8 h9 (n0 (by unfold kho; (repeat' split) <;> decide)) (st_holes hr (xs (i + 1)) (xs (i + 2)) ⟨hR, hJ⟩) dL_law_545 dL_law_547 dL_law_548 dL_law_551 dL_law_553 dL_law_558 dL_law_560 dL_law_563 dL_law_564 dL_law_565 dL_law_566 dL_law_568 dL_law_569 dL_law_570 dL_law_575 (by decide)
set_option maxRecDepth 100000 in
set_option maxHeartbeats 4000000 in
theorem lc_copy (hX : CX X D (tyL dT) cL_law RL wsL_law room_1 9) (hL : XLX X Z) (hs : XSX X b L xs) {i : Nat} (hi : i + 5 ≤ L) (hL2 : L ≤ 2560) {ce sl : Nat} (hce : ce + 862 ≤ 603072) (hsl : sl + 5100 ≤ 7198825) (hN : NX X D dT Z ad b m0 o o2 (nI i) 2327 (ce + 862) (sl + 5100)) (hr : REL I M S) (h8 : ad8 0 = m0) (h9 : ad8 99999 = Z.1) : GW X D (LW dT ad I o g o2 g2 ad8 M S) (lvW b (ad 0) m0 o o2 (nI i)) ce sl 578 [] := by
  refine g_aload_n hX 4 rfl dL_law_578 rfl ?_
  refine l_arg (k := 1) hX hs 5 0 (by omega) hL2 rfl rfl rfl dL_law_579 dL_law_580 dL_law_582 dL_law_583 dL_law_584 ?_
  refine g_aload_n hX 2 rfl dL_law_585 rfl ?_
  refine gw_w LW_J ?_
  refine l_callS hX hL [.ref (ad 0), .int (xs (i + 1)), .ref o] (k_L_copy I S.1 hr.2.1.1 hr.2.1.2.1 (xs (i + 1))) gL_law_L_copy rfl rfl rfl hd_L_copy ⟨Nat.le_of_ble_eq_true rfl, Nat.le_of_ble_eq_true rfl⟩ ⟨by show _ ≤ 603072; omega, by show _ ≤ 7198825; omega⟩ rfl (Nat.le_of_ble_eq_true rfl) dL_law_586 (fun r w hw => ?_)
  obtain ⟨J, g9, rfl, rfl, hR, hJ⟩ := hw
  refine gw_w LW_J.symm ?_
  refine g_istore hX ((6, .int (nI (kcp I (xs (i + 1))))) :: lvW b (ad 0) m0 o o2 (nI i)) rfl dL_law_589 (Nat.le_of_ble_eq_true rfl) ?_
  refine g_aload_n hX 4 rfl dL_law_591 rfl ?_
  refine l_arg (k := 1) hX hs 6 1 (by omega) hL2 rfl rfl rfl dL_law_592 dL_law_593 dL_law_595 dL_law_596 dL_law_597 ?_
  refine l_callMI hX hL h8 [.int (xs (i + 1))] (k_X8_copy M S hr.1.1 hr.1.2.1 hr.1.2.2.1 hr.1.2.2.2 h9 (rel_bit hr) (xs (i + 1))) gL_law_X8_copy rfl rfl rfl hd_X8_copy ⟨Nat.le_of_ble_eq_true rfl, Nat.le_of_ble_eq_true rfl⟩ ⟨by show _ ≤ 603072; omega, by show _ ≤ 7198825; omega⟩ rfl (Nat.le_of_ble_eq_true rfl) dL_law_598 (fun r u hu => ?_)
  obtain ⟨ad2, hA, (⟨c0, rfl, rfl⟩ | ⟨c0, rfl⟩)⟩ := hu
  · refine ⟨_, _, _, rfl, ?_⟩
    exact l_tailI hX hL hN (by omega) (by omega) hce hsl ((hA 0 (Or.inl (m_lo (by decide))) (by decide) (Or.inl (by decide))).trans h8) (AGm_z hA h9) (n0 (by unfold kcp; (repeat' split) <;> decide)) (st_copy hr (xs (i + 1)) c0 ⟨hR, hJ⟩) dL_law_601 dL_law_603 dL_law_604 dL_law_607 dL_law_609 dL_law_614 dL_law_616 dL_law_619 dL_law_620 dL_law_621 dL_law_622 dL_law_624 dL_law_625 dL_law_626 dL_law_631 (by decide)
  · refine ⟨_, _, _, rfl, ?_⟩
    exact l_tailI hX hL hN (by omega) (by omega) hce hsl ((hA 0 (Or.inl (m_lo (by decide))) (by decide) (Or.inl (by decide))).trans h8) (AGm_z hA h9) (n0 (by unfold kcp; (repeat' split) <;> decide)) (st_fl9 hr (c_cp hr.2.1.1 hr.2.1.2.1 (xs (i + 1))) c0 hJ) dL_law_601 dL_law_603 dL_law_604 dL_law_607 dL_law_609 dL_law_614 dL_law_616 dL_law_619 dL_law_620 dL_law_621 dL_law_622 dL_law_624 dL_law_625 dL_law_626 dL_law_631 (by decide)
set_option maxRecDepth 100000 in
set_option maxHeartbeats 4000000 in
theorem lc_unlike (hX : CX X D (tyL dT) cL_law RL wsL_law room_1 9) (hL : XLX X Z) (hs : XSX X b L xs) {i : Nat} (hi : i + 5 ≤ L) (hL2 : L ≤ 2560) {ce sl : Nat} (hce : ce + 862 ≤ 603072) (hsl : sl + 5100 ≤ 7198825) (hN : NX X D dT Z ad b m0 o o2 (nI i) 2327 (ce + 862) (sl + 5100)) (hr : REL I M S) (h8 : ad8 0 = m0) (h9 : ad8 99999 = Z.1) : GW X D (LW dT ad I o g o2 g2 ad8 M S) (lvW b (ad 0) m0 o o2 (nI i)) ce sl 634 [] := by
  refine g_aload_n hX 4 rfl dL_law_634 rfl ?_
  refine l_arg (k := 1) hX hs 5 0 (by omega) hL2 rfl rfl rfl dL_law_635 dL_law_636 dL_law_638 dL_law_639 dL_law_640 ?_
  refine l_arg (k := 2) hX hs 5 0 (by omega) hL2 rfl rfl rfl dL_law_641 dL_law_642 dL_law_644 dL_law_645 dL_law_646 ?_
  refine g_aload_n hX 2 rfl dL_law_647 rfl ?_
  refine gw_w LW_J ?_
  refine l_callS hX hL [.ref (ad 0), .int (xs (i + 1)), .int (xs (i + 2)), .ref o] (k_L_unlike I (xs (i + 1)) (xs (i + 2))) gL_law_L_unlike rfl rfl rfl hd_L_unlike ⟨Nat.le_of_ble_eq_true rfl, Nat.le_of_ble_eq_true rfl⟩ ⟨by show _ ≤ 603072; omega, by show _ ≤ 7198825; omega⟩ rfl (Nat.le_of_ble_eq_true rfl) dL_law_648 (fun r w hw => ?_)
  obtain ⟨J, g9, rfl, rfl, hR, hJ⟩ := hw
  refine gw_w LW_J.symm ?_
  refine g_istore hX ((6, .int (nI (kun I (xs (i + 1)) (xs (i + 2))))) :: lvW b (ad 0) m0 o o2 (nI i)) rfl dL_law_651 (Nat.le_of_ble_eq_true rfl) ?_
  refine g_aload_n hX 4 rfl dL_law_653 rfl ?_
  refine l_arg (k := 1) hX hs 6 1 (by omega) hL2 rfl rfl rfl dL_law_654 dL_law_655 dL_law_657 dL_law_658 dL_law_659 ?_
  refine l_arg (k := 2) hX hs 6 1 (by omega) hL2 rfl rfl rfl dL_law_660 dL_law_661 dL_law_663 dL_law_664 dL_law_665 ?_
  refine l_callMI hX hL h8 [.int (xs (i + 1)), .int (xs (i + 2))] (k_X8_unlike M S hr.1.1 hr.1.2.1 hr.1.2.2.1 hr.1.2.2.2 (xs (i + 1)) (xs (i + 2))) gL_law_X8_unlike rfl rfl rfl hd_X8_unlike ⟨Nat.le_of_ble_eq_true rfl, Nat.le_of_ble_eq_true rfl⟩ ⟨by show _ ≤ 603072; omega, by show _ ≤ 7198825; omega⟩ rfl (Nat.le_of_ble_eq_true rfl) dL_law_666 (fun r u hu => ?_)
  obtain ⟨rfl, rfl⟩ := hu
  refine ⟨_, _, _, rfl, ?_⟩
  exact l_tailI hX hL hN (by omega) (by omega) hce hsl h8 h9 (n0 (by unfold kun; (repeat' split) <;> decide)) (st_unlike hr (xs (i + 1)) (xs (i + 2)) ⟨hR, hJ⟩) dL_law_669 dL_law_671 dL_law_672 dL_law_675 dL_law_677 dL_law_682 dL_law_684 dL_law_687 dL_law_688 dL_law_689 dL_law_690 dL_law_692 dL_law_693 dL_law_694 dL_law_699 (by decide)
set_option maxRecDepth 100000 in
set_option maxHeartbeats 4000000 in
theorem lc_parent (hX : CX X D (tyL dT) cL_law RL wsL_law room_1 9) (hL : XLX X Z) (hs : XSX X b L xs) {i : Nat} (hi : i + 5 ≤ L) (hL2 : L ≤ 2560) {ce sl : Nat} (hce : ce + 862 ≤ 603072) (hsl : sl + 5100 ≤ 7198825) (hN : NX X D dT Z ad b m0 o o2 (nI i) 2327 (ce + 862) (sl + 5100)) (hr : REL I M S) (h8 : ad8 0 = m0) (h9 : ad8 99999 = Z.1) : GW X D (LW dT ad I o g o2 g2 ad8 M S) (lvW b (ad 0) m0 o o2 (nI i)) ce sl 702 [] := by
  refine g_aload_n hX 4 rfl dL_law_702 rfl ?_
  refine l_arg (k := 1) hX hs 5 0 (by omega) hL2 rfl rfl rfl dL_law_703 dL_law_704 dL_law_706 dL_law_707 dL_law_708 ?_
  refine g_aload_n hX 2 rfl dL_law_709 rfl ?_
  refine gw_w LW_J ?_
  refine l_callS hX hL [.ref (ad 0), .int (xs (i + 1)), .ref o] (k_L_parent I S.1 hr.2.1.1 hr.2.1.2.1 (xs (i + 1))) gL_law_L_parent rfl rfl rfl hd_L_parent ⟨Nat.le_of_ble_eq_true rfl, Nat.le_of_ble_eq_true rfl⟩ ⟨by show _ ≤ 603072; omega, by show _ ≤ 7198825; omega⟩ rfl (Nat.le_of_ble_eq_true rfl) dL_law_710 (fun r w hw => ?_)
  obtain ⟨J, g9, rfl, rfl, hR, hJ⟩ := hw
  refine gw_w LW_J.symm ?_
  refine g_istore hX ((6, .int (nI (kpa I (xs (i + 1))))) :: lvW b (ad 0) m0 o o2 (nI i)) rfl dL_law_713 (Nat.le_of_ble_eq_true rfl) ?_
  refine g_aload_n hX 4 rfl dL_law_715 rfl ?_
  refine l_arg (k := 1) hX hs 6 1 (by omega) hL2 rfl rfl rfl dL_law_716 dL_law_717 dL_law_719 dL_law_720 dL_law_721 ?_
  refine l_callMI hX hL h8 [.int (xs (i + 1))] (k_X8_parent M S hr.1.1 hr.1.2.1 hr.1.2.2.1 hr.1.2.2.2 (xs (i + 1))) gL_law_X8_parent rfl rfl rfl hd_X8_parent ⟨Nat.le_of_ble_eq_true rfl, Nat.le_of_ble_eq_true rfl⟩ ⟨by show _ ≤ 603072; omega, by show _ ≤ 7198825; omega⟩ rfl (Nat.le_of_ble_eq_true rfl) dL_law_722 (fun r u hu => ?_)
  obtain ⟨rfl, rfl⟩ := hu
  refine ⟨_, _, _, rfl, ?_⟩
  exact l_tailI hX hL hN (by omega) (by omega) hce hsl h8 h9 (n0 (by unfold kpa; (repeat' split) <;> decide)) (st_parent hr (xs (i + 1)) ⟨hR, hJ⟩) dL_law_725 dL_law_727 dL_law_728 dL_law_731 dL_law_733 dL_law_738 dL_law_740 dL_law_743 dL_law_744 dL_law_745 dL_law_746 dL_law_748 dL_law_749 dL_law_750 dL_law_755 (by decide)
set_option maxRecDepth 100000 in
set_option maxHeartbeats 4000000 in
theorem lc_note (hX : CX X D (tyL dT) cL_law RL wsL_law room_1 9) (hL : XLX X Z) (hs : XSX X b L xs) {i : Nat} (hi : i + 5 ≤ L) (hL2 : L ≤ 2560) {ce sl : Nat} (hce : ce + 862 ≤ 603072) (hsl : sl + 5100 ≤ 7198825) (hN : NX X D dT Z ad b m0 o o2 (nI i) 2327 (ce + 862) (sl + 5100)) (hr : REL I M S) (h8 : ad8 0 = m0) (h9 : ad8 99999 = Z.1) : GW X D (LW dT ad I o g o2 g2 ad8 M S) (lvW b (ad 0) m0 o o2 (nI i)) ce sl 758 [] := by
  obtain ⟨fa, la, pa, hn, ha⟩ := hr.2.2.1
  refine g_aload_n hX 4 rfl dL_law_758 rfl ?_
  refine l_arg (k := 1) hX hs 5 0 (by omega) hL2 rfl rfl rfl dL_law_759 dL_law_760 dL_law_762 dL_law_763 dL_law_764 ?_
  refine l_arg (k := 2) hX hs 5 0 (by omega) hL2 rfl rfl rfl dL_law_765 dL_law_766 dL_law_768 dL_law_769 dL_law_770 ?_
  refine l_arg (k := 3) hX hs 5 0 (by omega) hL2 rfl rfl rfl dL_law_771 dL_law_772 dL_law_774 dL_law_775 dL_law_776 ?_
  refine g_aload_n hX 2 rfl dL_law_777 rfl ?_
  refine gw_w LW_J ?_
  refine l_callS hX hL [.ref (ad 0), .int (xs (i + 1)), .int (xs (i + 2)), .int (xs (i + 3)), .ref o] (k_L_note I S.2.1 hn.1 hn.2.1 (xs (i + 1)) (xs (i + 2)) (xs (i + 3))) gL_law_L_note rfl rfl rfl hd_L_note ⟨Nat.le_of_ble_eq_true rfl, Nat.le_of_ble_eq_true rfl⟩ ⟨by show _ ≤ 603072; omega, by show _ ≤ 7198825; omega⟩ rfl (Nat.le_of_ble_eq_true rfl) dL_law_778 (fun r w hw => ?_)
  obtain ⟨J, g9, rfl, rfl, hR, hJ⟩ := hw
  refine gw_w LW_J.symm ?_
  refine g_istore hX ((6, .int (nI (kno I S.2.1 (xs (i + 1)) (xs (i + 2)) (xs (i + 3))))) :: lvW b (ad 0) m0 o o2 (nI i)) rfl dL_law_781 (Nat.le_of_ble_eq_true rfl) ?_
  refine g_aload_n hX 4 rfl dL_law_783 rfl ?_
  refine l_arg (k := 1) hX hs 6 1 (by omega) hL2 rfl rfl rfl dL_law_784 dL_law_785 dL_law_787 dL_law_788 dL_law_789 ?_
  refine l_arg (k := 2) hX hs 6 1 (by omega) hL2 rfl rfl rfl dL_law_790 dL_law_791 dL_law_793 dL_law_794 dL_law_795 ?_
  refine l_arg (k := 3) hX hs 6 1 (by omega) hL2 rfl rfl rfl dL_law_796 dL_law_797 dL_law_799 dL_law_800 dL_law_801 ?_
  refine l_callMI hX hL h8 [.int (xs (i + 1)), .int (xs (i + 2)), .int (xs (i + 3))] (k_X8_note M S hr.1.1 hr.1.2.1 hr.1.2.2.1 hr.1.2.2.2 h9 (xs (i + 1)) (xs (i + 2)) (xs (i + 3))) gL_law_X8_note rfl rfl rfl hd_X8_note ⟨Nat.le_of_ble_eq_true rfl, Nat.le_of_ble_eq_true rfl⟩ ⟨by show _ ≤ 603072; omega, by show _ ≤ 7198825; omega⟩ rfl (Nat.le_of_ble_eq_true rfl) dL_law_802 (fun r u hu => ?_)
  obtain ⟨ad2, hA, (⟨c0, rfl, rfl⟩ | ⟨c0, rfl⟩)⟩ := hu
  · refine ⟨_, _, _, rfl, ?_⟩
    exact l_tailI hX hL hN (by omega) (by omega) hce hsl ((hA 0 (Or.inl (m_lo (by decide))) (by decide) (Or.inl (by decide))).trans h8) (AGm_z hA h9) (n0 (by unfold kno; (repeat' split) <;> decide)) (st_note9 hr (xs (i + 1)) (xs (i + 2)) (xs (i + 3)) c0 ⟨hR, hJ⟩) dL_law_805 dL_law_807 dL_law_808 dL_law_811 dL_law_813 dL_law_818 dL_law_820 dL_law_823 dL_law_824 dL_law_825 dL_law_826 dL_law_828 dL_law_829 dL_law_830 dL_law_835 (by decide)
  · refine ⟨_, _, _, rfl, ?_⟩
    exact l_tailI hX hL hN (by omega) (by omega) hce hsl ((hA 0 (Or.inl (m_lo (by decide))) (by decide) (Or.inl (by decide))).trans h8) (AGm_z hA h9) (n0 (by unfold kno; (repeat' split) <;> decide)) (st_fl9 hr (c_no hn (xs (i + 1)) (xs (i + 2)) (xs (i + 3))) c0 hJ) dL_law_805 dL_law_807 dL_law_808 dL_law_811 dL_law_813 dL_law_818 dL_law_820 dL_law_823 dL_law_824 dL_law_825 dL_law_826 dL_law_828 dL_law_829 dL_law_830 dL_law_835 (by decide)
set_option maxRecDepth 100000 in
set_option maxHeartbeats 4000000 in
theorem lc_wipe (hX : CX X D (tyL dT) cL_law RL wsL_law room_1 9) (hL : XLX X Z) (hs : XSX X b L xs) {i : Nat} (hi : i + 5 ≤ L) (hL2 : L ≤ 2560) {ce sl : Nat} (hce : ce + 862 ≤ 603072) (hsl : sl + 5100 ≤ 7198825) (hN : NX X D dT Z ad b m0 o o2 (nI i) 2327 (ce + 862) (sl + 5100)) (hr : REL I M S) (h8 : ad8 0 = m0) (h9 : ad8 99999 = Z.1) : GW X D (LW dT ad I o g o2 g2 ad8 M S) (lvW b (ad 0) m0 o o2 (nI i)) ce sl 838 [] := by
  refine g_aload_n hX 4 rfl dL_law_838 rfl ?_
  refine l_callCI hX (k_X6_wipe I) gL_law_X6_wipe rfl rfl rfl hd_X6_wipe ⟨Nat.le_of_ble_eq_true rfl, Nat.le_of_ble_eq_true rfl⟩ ⟨by show _ ≤ 603072; omega, by show _ ≤ 7198825; omega⟩ rfl (Nat.le_of_ble_eq_true rfl) dL_law_839 (fun r J hJ => ?_)
  refine g_aload_n hX 3 rfl dL_law_842 rfl ?_
  refine l_callMI hX hL h8 [] (k_X8_wipe M S hr.1.1 hr.1.2.1 hr.1.2.2.1 hr.1.2.2.2 h9) gL_law_X8_wipe rfl rfl rfl hd_X8_wipe ⟨Nat.le_of_ble_eq_true rfl, Nat.le_of_ble_eq_true rfl⟩ ⟨by show _ ≤ 603072; omega, by show _ ≤ 7198825; omega⟩ rfl (Nat.le_of_ble_eq_true rfl) dL_law_843 (fun r u hu => ?_)
  obtain ⟨rfl, rfl⟩ := hu
  obtain ⟨hv, hr2⟩ := st_wipe hr hJ.1
  refine ⟨_, _, _, rfl, ?_⟩
  exact g_icmp_eq (tgt := 2327) hX dL_law_846 (by decide) (fun _ => g_widen (by omega) (by omega) (hN _ _ _ _ _ _ hr2 h8 h9)) (fun c => absurd (hJ.2.symm.trans hv) c)
set_option maxRecDepth 100000 in
set_option maxHeartbeats 4000000 in
theorem lc_arrange (hX : CX X D (tyL dT) cL_law RL wsL_law room_1 9) (hL : XLX X Z) (hs : XSX X b L xs) {i : Nat} (hi : i + 5 ≤ L) (hL2 : L ≤ 2560) {ce sl : Nat} (hce : ce + 862 ≤ 603072) (hsl : sl + 5100 ≤ 7198825) (hN : NX X D dT Z ad b m0 o o2 (nI i) 2327 (ce + 862) (sl + 5100)) (hr : REL I M S) (h8 : ad8 0 = m0) (h9 : ad8 99999 = Z.1) : GW X D (LW dT ad I o g o2 g2 ad8 M S) (lvW b (ad 0) m0 o o2 (nI i)) ce sl 851 [] := by
  obtain ⟨fa, la, pa, hn, ha⟩ := hr.2.2.1
  refine g_aload_n hX 4 rfl dL_law_851 rfl ?_
  refine l_arg (k := 1) hX hs 5 0 (by omega) hL2 rfl rfl rfl dL_law_852 dL_law_853 dL_law_855 dL_law_856 dL_law_857 ?_
  refine l_arg (k := 2) hX hs 5 0 (by omega) hL2 rfl rfl rfl dL_law_858 dL_law_859 dL_law_861 dL_law_862 dL_law_863 ?_
  refine l_bool hX dL_law_864 dL_law_867 dL_law_868 dL_law_871 ?_
  refine g_aload_n hX 2 rfl dL_law_872 rfl ?_
  refine gw_w LW_J ?_
  refine l_callS hX hL [.ref (ad 0), .int (xs (i + 1)), .int (bl (xs (i + 2))), .ref o] (k_L_arrange I S.2.1 hn.1 hn.2.1 la (fun n q => ⟨(hn.2.2.1 n q).1.2.1, by have := hn.2.2.1 n q; omega⟩) (xs (i + 1)) (bl (xs (i + 2)))) gL_law_L_arrange rfl rfl rfl hd_L_arrange ⟨Nat.le_of_ble_eq_true rfl, Nat.le_of_ble_eq_true rfl⟩ ⟨by show _ ≤ 603072; omega, by show _ ≤ 7198825; omega⟩ rfl (Nat.le_of_ble_eq_true rfl) dL_law_873 (fun r w hw => ?_)
  obtain ⟨J, g9, rfl, rfl, hR, hJ⟩ := hw
  refine gw_w LW_J.symm ?_
  refine g_istore hX ((6, .int (nI (kr1 I (xs (i + 1))))) :: lvW b (ad 0) m0 o o2 (nI i)) rfl dL_law_876 (Nat.le_of_ble_eq_true rfl) ?_
  refine g_aload_n hX 4 rfl dL_law_878 rfl ?_
  refine l_arg (k := 1) hX hs 6 1 (by omega) hL2 rfl rfl rfl dL_law_879 dL_law_880 dL_law_882 dL_law_883 dL_law_884 ?_
  refine l_arg (k := 2) hX hs 6 1 (by omega) hL2 rfl rfl rfl dL_law_885 dL_law_886 dL_law_888 dL_law_889 dL_law_890 ?_
  refine l_bool hX dL_law_891 dL_law_894 dL_law_895 dL_law_898 ?_
  refine l_callMI hX hL h8 [.int (xs (i + 1)), .int (bl (xs (i + 2)))] (k_X8_arrange M S hr.1.1 hr.1.2.1 hr.1.2.2.1 hr.1.2.2.2 fa la pa (fun n q => ⟨(hn.2.2.1 n q).2.1.1, (hn.2.2.1 n q).2.1.2.1, (hn.2.2.1 n q).2.1.2.2, (hn.2.2.1 n q).2.2.2.2.1, (hn.2.2.1 n q).2.2.2.2.2⟩) (xs (i + 1)) (bl (xs (i + 2)))) gL_law_X8_arrange rfl rfl rfl hd_X8_arrange ⟨Nat.le_of_ble_eq_true rfl, Nat.le_of_ble_eq_true rfl⟩ ⟨by show _ ≤ 603072; omega, by show _ ≤ 7198825; omega⟩ rfl (Nat.le_of_ble_eq_true rfl) dL_law_899 (fun r u hu => ?_)
  obtain ⟨ad2, hA, (⟨c0, rfl, rfl⟩ | ⟨c0, rfl⟩)⟩ := hu
  · refine ⟨_, _, _, rfl, ?_⟩
    exact l_tailI hX hL hN (by omega) (by omega) hce hsl ((hA 0 (Or.inl (m_lo (by decide))) (by decide) (Or.inl (by decide))).trans h8) (AGm_z hA h9) (n0 (by unfold kr1; (repeat' split) <;> decide)) (st_arrange hr hn (xs (i + 1)) (bl (xs (i + 2))) c0 ⟨hR, hJ⟩) dL_law_902 dL_law_904 dL_law_905 dL_law_908 dL_law_910 dL_law_915 dL_law_917 dL_law_920 dL_law_921 dL_law_922 dL_law_923 dL_law_925 dL_law_926 dL_law_927 dL_law_932 (by decide)
  · refine ⟨_, _, _, rfl, ?_⟩
    exact l_tailI hX hL hN (by omega) (by omega) hce hsl ((hA 0 (Or.inl (m_lo (by decide))) (by decide) (Or.inl (by decide))).trans h8) (AGm_z hA h9) (n0 (by unfold kr1; (repeat' split) <;> decide)) (st_fl9 hr (c_r1 hr.2.1.1 hr.2.1.2.1 (xs (i + 1))) c0 hJ) dL_law_902 dL_law_904 dL_law_905 dL_law_908 dL_law_910 dL_law_915 dL_law_917 dL_law_920 dL_law_921 dL_law_922 dL_law_923 dL_law_925 dL_law_926 dL_law_927 dL_law_932 (by decide)
set_option maxRecDepth 100000 in
set_option maxHeartbeats 4000000 in
theorem lc_scanned (hX : CX X D (tyL dT) cL_law RL wsL_law room_1 9) (hL : XLX X Z) (hs : XSX X b L xs) {i : Nat} (hi : i + 5 ≤ L) (hL2 : L ≤ 2560) {ce sl : Nat} (hce : ce + 862 ≤ 603072) (hsl : sl + 5100 ≤ 7198825) (hN : NX X D dT Z ad b m0 o o2 (nI i) 2327 (ce + 862) (sl + 5100)) (hr : REL I M S) (h8 : ad8 0 = m0) (h9 : ad8 99999 = Z.1) : GW X D (LW dT ad I o g o2 g2 ad8 M S) (lvW b (ad 0) m0 o o2 (nI i)) ce sl 935 [] := by
  refine g_aload_n hX 4 rfl dL_law_935 rfl ?_
  refine l_arg (k := 1) hX hs 5 0 (by omega) hL2 rfl rfl rfl dL_law_936 dL_law_937 dL_law_939 dL_law_940 dL_law_941 ?_
  refine g_aload_n hX 2 rfl dL_law_942 rfl ?_
  refine gw_w LW_J ?_
  refine l_callS hX hL [.ref (ad 0), .int (xs (i + 1)), .ref o] (k_L_scanned I (xs (i + 1))) gL_law_L_scanned rfl rfl rfl hd_L_scanned ⟨Nat.le_of_ble_eq_true rfl, Nat.le_of_ble_eq_true rfl⟩ ⟨by show _ ≤ 603072; omega, by show _ ≤ 7198825; omega⟩ rfl (Nat.le_of_ble_eq_true rfl) dL_law_943 (fun r w hw => ?_)
  obtain ⟨J, g9, rfl, rfl, hR, hJ⟩ := hw
  refine gw_w LW_J.symm ?_
  refine g_istore hX ((6, .int (nI (kr1 I (xs (i + 1))))) :: lvW b (ad 0) m0 o o2 (nI i)) rfl dL_law_946 (Nat.le_of_ble_eq_true rfl) ?_
  refine g_aload_n hX 4 rfl dL_law_948 rfl ?_
  refine l_arg (k := 1) hX hs 6 1 (by omega) hL2 rfl rfl rfl dL_law_949 dL_law_950 dL_law_952 dL_law_953 dL_law_954 ?_
  refine l_callMI hX hL h8 [.int (xs (i + 1))] (k_X8_scanned M S hr.1.1 hr.1.2.1 hr.1.2.2.1 hr.1.2.2.2 h9 (xs (i + 1))) gL_law_X8_scanned rfl rfl rfl hd_X8_scanned ⟨Nat.le_of_ble_eq_true rfl, Nat.le_of_ble_eq_true rfl⟩ ⟨by show _ ≤ 603072; omega, by show _ ≤ 7198825; omega⟩ rfl (Nat.le_of_ble_eq_true rfl) dL_law_955 (fun r u hu => ?_)
  obtain ⟨⟨ad2, hA, rfl⟩, rfl⟩ := hu
  refine ⟨_, _, _, rfl, ?_⟩
  exact l_tailI hX hL hN (by omega) (by omega) hce hsl ((hA 0 (Or.inl (m_lo (by decide))) (by decide) (Or.inl (by decide))).trans h8) (AGm_z hA h9) (n0 (by unfold kr1; (repeat' split) <;> decide)) (st_scanned hr (xs (i + 1)) ⟨hR, hJ⟩) dL_law_958 dL_law_960 dL_law_961 dL_law_964 dL_law_966 dL_law_971 dL_law_973 dL_law_976 dL_law_977 dL_law_978 dL_law_979 dL_law_981 dL_law_982 dL_law_983 dL_law_988 (by decide)
set_option maxRecDepth 100000 in
set_option maxHeartbeats 4000000 in
theorem lc_scan (hX : CX X D (tyL dT) cL_law RL wsL_law room_1 9) (hL : XLX X Z) (hs : XSX X b L xs) {i : Nat} (hi : i + 5 ≤ L) (hL2 : L ≤ 2560) {ce sl : Nat} (hce : ce + 862 ≤ 603072) (hsl : sl + 5100 ≤ 7198825) (hN : NX X D dT Z ad b m0 o o2 (nI i) 2327 (ce + 862) (sl + 5100)) (hr : REL I M S) (h8 : ad8 0 = m0) (h9 : ad8 99999 = Z.1) : GW X D (LW dT ad I o g o2 g2 ad8 M S) (lvW b (ad 0) m0 o o2 (nI i)) ce sl 991 [] := by
  refine g_aload_n hX 4 rfl dL_law_991 rfl ?_
  refine l_arg (k := 1) hX hs 5 0 (by omega) hL2 rfl rfl rfl dL_law_992 dL_law_993 dL_law_995 dL_law_996 dL_law_997 ?_
  refine l_arg (k := 2) hX hs 5 0 (by omega) hL2 rfl rfl rfl dL_law_998 dL_law_999 dL_law_1001 dL_law_1002 dL_law_1003 ?_
  refine l_arg (k := 3) hX hs 5 0 (by omega) hL2 rfl rfl rfl dL_law_1004 dL_law_1005 dL_law_1007 dL_law_1008 dL_law_1009 ?_
  refine g_i2c hX dL_law_1010 ?_
  refine g_aload_n hX 2 rfl dL_law_1011 rfl ?_
  refine gw_w LW_J ?_
  refine l_callS hX hL [.ref (ad 0), .int (xs (i + 1)), .int (xs (i + 2)), .int (ch (xs (i + 3))), .ref o] (k_L_scan I (xs (i + 1)) (xs (i + 2)) (ch (xs (i + 3)))) gL_law_L_scan rfl rfl rfl hd_L_scan ⟨Nat.le_of_ble_eq_true rfl, Nat.le_of_ble_eq_true rfl⟩ ⟨by show _ ≤ 603072; omega, by show _ ≤ 7198825; omega⟩ rfl (Nat.le_of_ble_eq_true rfl) dL_law_1012 (fun r w hw => ?_)
  obtain ⟨J, g9, rfl, rfl, hR, hJ⟩ := hw
  refine gw_w LW_J.symm ?_
  refine g_istore hX ((6, .int (nI (ksc I (xs (i + 1)) (xs (i + 2)) (ch (xs (i + 3)))))) :: lvW b (ad 0) m0 o o2 (nI i)) rfl dL_law_1015 (Nat.le_of_ble_eq_true rfl) ?_
  refine g_aload_n hX 4 rfl dL_law_1017 rfl ?_
  refine l_arg (k := 1) hX hs 6 1 (by omega) hL2 rfl rfl rfl dL_law_1018 dL_law_1019 dL_law_1021 dL_law_1022 dL_law_1023 ?_
  refine l_arg (k := 2) hX hs 6 1 (by omega) hL2 rfl rfl rfl dL_law_1024 dL_law_1025 dL_law_1027 dL_law_1028 dL_law_1029 ?_
  refine l_arg (k := 3) hX hs 6 1 (by omega) hL2 rfl rfl rfl dL_law_1030 dL_law_1031 dL_law_1033 dL_law_1034 dL_law_1035 ?_
  refine g_i2c hX dL_law_1036 ?_
  refine l_callMI hX hL h8 [.int (xs (i + 1)), .int (xs (i + 2)), .int (ch (xs (i + 3)))] (k_X8_scan_ M S hr.1.1 hr.1.2.1 hr.1.2.2.1 hr.1.2.2.2 h9 (xs (i + 1)) (xs (i + 2)) (ch (xs (i + 3)))) gL_law_X8_scan_ rfl rfl rfl hd_X8_scan_ ⟨Nat.le_of_ble_eq_true rfl, Nat.le_of_ble_eq_true rfl⟩ ⟨by show _ ≤ 603072; omega, by show _ ≤ 7198825; omega⟩ rfl (Nat.le_of_ble_eq_true rfl) dL_law_1037 (fun r u hu => ?_)
  obtain ⟨⟨ad2, hA, rfl⟩, rfl⟩ := hu
  refine ⟨_, _, _, rfl, ?_⟩
  exact l_tailI hX hL hN (by omega) (by omega) hce hsl ((hA 0 (Or.inl (m_lo (by decide))) (by decide) (Or.inl (by decide))).trans h8) (AGm_z hA h9) (n0 (by unfold ksc; (repeat' split) <;> decide)) (st_scan hr (xs (i + 1)) (xs (i + 2)) (ch (xs (i + 3))) ⟨hR, hJ⟩) dL_law_1040 dL_law_1042 dL_law_1043 dL_law_1046 dL_law_1048 dL_law_1053 dL_law_1055 dL_law_1058 dL_law_1059 dL_law_1060 dL_law_1061 dL_law_1063 dL_law_1064 dL_law_1065 dL_law_1070 (by decide)
end LCS
