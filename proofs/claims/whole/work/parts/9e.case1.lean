/-! the law's cases -/
section CASES
variable {G : EV} {p : Program} {l : Launch} {e : Env} {s : State} {m : MethodId} {args : Array Value} {below : List Frame} {meth : Method} {c : Code} {Q : State → Prop} {μ : MI} {S : Sh} {mm : Me} {L : Nat} {xs : Nat → Int32} {i : Int32}
set_option maxRecDepth 20000 in
theorem cs_0 (E : LE G p l s m args meth c μ L xs) (hS : ShOK S) (hI : Inv mm) (hW : WI mm) (hin : ∀ k : Int32, 0 ≤ k ∧ k < 6 → inb (i + k) L) (next : ∀ mm', Inv mm' → WI mm' → LW G p l e s m args below meth c Q (1829, [(4, .int i), (0, .ref 3000000), (1, .ref 0), (2, .ref 138), (3, .ref 158)], [], S, mm')) : LW G p l e s m args below meth c Q (256, [(4, .int i), (0, .ref 3000000), (1, .ref 0), (2, .ref 138), (3, .ref 158)], [], S, mm) := by
  have hK := LW.cl (l := l) (e := e) (below := below) (Q := Q) E.1
  have hT : Two (fX10_feed (xs (i + 1).toNatClampNeg) (xs (i + 2).toNatClampNeg) (xs (i + 3).toNatClampNeg) (xs (i + 4).toNatClampNeg) (xs (i + 5).toNatClampNeg)) (fX11_feed (xs (i + 1).toNatClampNeg) (xs (i + 2).toNatClampNeg) (xs (i + 3).toNatClampNeg) (xs (i + 4).toNatClampNeg) (xs (i + 5).toNatClampNeg)) mm := t_feed hI hW
  obtain ⟨V, m1, m2, e1, e2, w2⟩ := hT
  have q1 := kX10_feed hS e1 hI
  have q2 := kX11_feed hS e2 q1.2
  refine ko_aload_n hK (q := 257) rfl (by decide) (E.dc dL_law_256) rfl ?_
  refine lw_arg E (q := 263) (kk := 1) 1 dL_law_257 dL_law_258 dL_law_260 dL_law_261 dL_law_262 (by decide) (hin _ (by decide)) rfl rfl rfl ?_
  refine lw_arg E (q := 269) (kk := 2) 2 dL_law_263 dL_law_264 dL_law_266 dL_law_267 dL_law_268 (by decide) (hin _ (by decide)) rfl rfl rfl ?_
  refine lw_arg E (q := 275) (kk := 3) 3 dL_law_269 dL_law_270 dL_law_272 dL_law_273 dL_law_274 (by decide) (hin _ (by decide)) rfl rfl rfl ?_
  refine lw_arg E (q := 281) (kk := 4) 4 dL_law_275 dL_law_276 dL_law_278 dL_law_279 dL_law_280 (by decide) (hin _ (by decide)) rfl rfl rfl ?_
  refine lw_arg E (q := 287) (kk := 5) 5 dL_law_281 dL_law_282 dL_law_284 dL_law_285 dL_law_286 (by decide) (hin _ (by decide)) rfl rfl rfl ?_
  refine ko_virt hK (q := 290) mX10_feed [.int (xs (i + 1).toNatClampNeg), .int (xs (i + 2).toNatClampNeg), .int (xs (i + 3).toNatClampNeg), .int (xs (i + 4).toNatClampNeg), .int (xs (i + 5).toNatClampNeg)] (E.dc dL_law_287) rfl rfl (Nat.le_of_ble_eq_true rfl) mo_X10_feed (E.ml mv_L_19) (Or.inl ⟨10, 17, _, h_0 hS, rfl, rfl⟩) (Call_mono (by decide) q1.1) ?_
  refine ko_aload_n hK (q := 291) rfl (by decide) (E.dc dL_law_290) rfl ?_
  refine lw_arg E (q := 297) (kk := 1) 1 dL_law_291 dL_law_292 dL_law_294 dL_law_295 dL_law_296 (by decide) (hin _ (by decide)) rfl rfl rfl ?_
  refine lw_arg E (q := 303) (kk := 2) 2 dL_law_297 dL_law_298 dL_law_300 dL_law_301 dL_law_302 (by decide) (hin _ (by decide)) rfl rfl rfl ?_
  refine lw_arg E (q := 309) (kk := 3) 3 dL_law_303 dL_law_304 dL_law_306 dL_law_307 dL_law_308 (by decide) (hin _ (by decide)) rfl rfl rfl ?_
  refine lw_arg E (q := 315) (kk := 4) 4 dL_law_309 dL_law_310 dL_law_312 dL_law_313 dL_law_314 (by decide) (hin _ (by decide)) rfl rfl rfl ?_
  refine lw_arg E (q := 321) (kk := 5) 5 dL_law_315 dL_law_316 dL_law_318 dL_law_319 dL_law_320 (by decide) (hin _ (by decide)) rfl rfl rfl ?_
  refine ko_virt hK (q := 324) mX11_feed [.int (xs (i + 1).toNatClampNeg), .int (xs (i + 2).toNatClampNeg), .int (xs (i + 3).toNatClampNeg), .int (xs (i + 4).toNatClampNeg), .int (xs (i + 5).toNatClampNeg)] (E.dc dL_law_321) rfl rfl (Nat.le_of_ble_eq_true rfl) mo_X11_feed (E.ml mv_L_23) (Or.inl ⟨11, 37, _, h_138 hS, rfl, rfl⟩) (Call_mono (by decide) q2.1) ?_
  exact ko_icT hK (q := 1829) (op := .eq) rfl (E.dc dL_law_324) rfl (next _ q2.2 w2)
set_option maxRecDepth 20000 in
theorem cs_1 (E : LE G p l s m args meth c μ L xs) (hS : ShOK S) (hI : Inv mm) (hW : WI mm) (hin : ∀ k : Int32, 0 ≤ k ∧ k < 6 → inb (i + k) L) (next : ∀ mm', Inv mm' → WI mm' → LW G p l e s m args below meth c Q (1829, [(4, .int i), (0, .ref 3000000), (1, .ref 0), (2, .ref 138), (3, .ref 158)], [], S, mm')) : LW G p l e s m args below meth c Q (329, [(4, .int i), (0, .ref 3000000), (1, .ref 0), (2, .ref 138), (3, .ref 158)], [], S, mm) := by
  have hK := LW.cl (l := l) (e := e) (below := below) (Q := Q) E.1
  have hT : Two (fX10_fan (xs (i + 1).toNatClampNeg)) (fX11_fan (xs (i + 1).toNatClampNeg)) mm := t_fan hI hW
  obtain ⟨V, m1, m2, e1, e2, w2⟩ := hT
  have q1 := kX10_fan hS e1 hI
  have q2 := kX11_fan hS e2 q1.2
  refine ko_aload_n hK (q := 330) rfl (by decide) (E.dc dL_law_329) rfl ?_
  refine lw_arg E (q := 336) (kk := 1) 1 dL_law_330 dL_law_331 dL_law_333 dL_law_334 dL_law_335 (by decide) (hin _ (by decide)) rfl rfl rfl ?_
  refine ko_virt hK (q := 339) mX10_fan [.int (xs (i + 1).toNatClampNeg)] (E.dc dL_law_336) rfl rfl (Nat.le_of_ble_eq_true rfl) mo_X10_fan (E.ml mv_L_24) (Or.inl ⟨10, 17, _, h_0 hS, rfl, rfl⟩) (Call_mono (by decide) q1.1) ?_
  refine ko_aload_n hK (q := 340) rfl (by decide) (E.dc dL_law_339) rfl ?_
  refine lw_arg E (q := 346) (kk := 1) 1 dL_law_340 dL_law_341 dL_law_343 dL_law_344 dL_law_345 (by decide) (hin _ (by decide)) rfl rfl rfl ?_
  refine ko_virt hK (q := 349) mX11_fan [.int (xs (i + 1).toNatClampNeg)] (E.dc dL_law_346) rfl rfl (Nat.le_of_ble_eq_true rfl) mo_X11_fan (E.ml mv_L_27) (Or.inl ⟨11, 37, _, h_138 hS, rfl, rfl⟩) (Call_mono (by decide) q2.1) ?_
  exact ko_icT hK (q := 1829) (op := .eq) rfl (E.dc dL_law_349) rfl (next _ q2.2 w2)
set_option maxRecDepth 20000 in
theorem cs_2 (E : LE G p l s m args meth c μ L xs) (hS : ShOK S) (hI : Inv mm) (hW : WI mm) (hin : ∀ k : Int32, 0 ≤ k ∧ k < 6 → inb (i + k) L) (next : ∀ mm', Inv mm' → WI mm' → LW G p l e s m args below meth c Q (1829, [(4, .int i), (0, .ref 3000000), (1, .ref 0), (2, .ref 138), (3, .ref 158)], [], S, mm')) : LW G p l e s m args below meth c Q (354, [(4, .int i), (0, .ref 3000000), (1, .ref 0), (2, .ref 138), (3, .ref 158)], [], S, mm) := by
  have hK := LW.cl (l := l) (e := e) (below := below) (Q := Q) E.1
  have hT : Two fX10_fault fX11_fault mm := t_fault hI hW
  obtain ⟨V, m1, m2, e1, e2, w2⟩ := hT
  have q1 := kX10_fault hS e1 hI
  have q2 := kX11_fault hS e2 q1.2
  refine ko_aload_n hK (q := 355) rfl (by decide) (E.dc dL_law_354) rfl ?_
  refine ko_virt hK (q := 358) mX10_fault [] (E.dc dL_law_355) rfl rfl (Nat.le_of_ble_eq_true rfl) mo_X10_fault (E.ml mv_L_28) (Or.inl ⟨10, 17, _, h_0 hS, rfl, rfl⟩) (Call_mono (by decide) q1.1) ?_
  refine ko_aload_n hK (q := 359) rfl (by decide) (E.dc dL_law_358) rfl ?_
  refine ko_virt hK (q := 362) mX11_fault [] (E.dc dL_law_359) rfl rfl (Nat.le_of_ble_eq_true rfl) mo_X11_fault (E.ml mv_L_32) (Or.inl ⟨11, 37, _, h_138 hS, rfl, rfl⟩) (Call_mono (by decide) q2.1) ?_
  exact ko_icT hK (q := 1829) (op := .eq) rfl (E.dc dL_law_362) rfl (next _ q2.2 w2)
set_option maxRecDepth 20000 in
theorem cs_3 (E : LE G p l s m args meth c μ L xs) (hS : ShOK S) (hI : Inv mm) (hW : WI mm) (hin : ∀ k : Int32, 0 ≤ k ∧ k < 6 → inb (i + k) L) (next : ∀ mm', Inv mm' → WI mm' → LW G p l e s m args below meth c Q (1829, [(4, .int i), (0, .ref 3000000), (1, .ref 0), (2, .ref 138), (3, .ref 158)], [], S, mm')) : LW G p l e s m args below meth c Q (367, [(4, .int i), (0, .ref 3000000), (1, .ref 0), (2, .ref 138), (3, .ref 158)], [], S, mm) := by
  have hK := LW.cl (l := l) (e := e) (below := below) (Q := Q) E.1
  have hT : Two fX10_where fX11_where mm := t_where hI hW
  obtain ⟨V, m1, m2, e1, e2, w2⟩ := hT
  have q1 := kX10_where hS e1 hI
  have q2 := kX11_where hS e2 q1.2
  refine ko_aload_n hK (q := 368) rfl (by decide) (E.dc dL_law_367) rfl ?_
  refine ko_virt hK (q := 371) mX10_where [] (E.dc dL_law_368) rfl rfl (Nat.le_of_ble_eq_true rfl) mo_X10_where (E.ml mv_L_33) (Or.inl ⟨10, 17, _, h_0 hS, rfl, rfl⟩) (Call_mono (by decide) q1.1) ?_
  refine ko_aload_n hK (q := 372) rfl (by decide) (E.dc dL_law_371) rfl ?_
  refine ko_virt hK (q := 375) mX11_where [] (E.dc dL_law_372) rfl rfl (Nat.le_of_ble_eq_true rfl) mo_X11_where (E.ml mv_L_36) (Or.inl ⟨11, 37, _, h_138 hS, rfl, rfl⟩) (Call_mono (by decide) q2.1) ?_
  exact ko_icT hK (q := 1829) (op := .eq) rfl (E.dc dL_law_375) rfl (next _ q2.2 w2)
set_option maxRecDepth 20000 in
theorem cs_4 (E : LE G p l s m args meth c μ L xs) (hS : ShOK S) (hI : Inv mm) (hW : WI mm) (hin : ∀ k : Int32, 0 ≤ k ∧ k < 6 → inb (i + k) L) (next : ∀ mm', Inv mm' → WI mm' → LW G p l e s m args below meth c Q (1829, [(4, .int i), (0, .ref 3000000), (1, .ref 0), (2, .ref 138), (3, .ref 158)], [], S, mm')) : LW G p l e s m args below meth c Q (380, [(4, .int i), (0, .ref 3000000), (1, .ref 0), (2, .ref 138), (3, .ref 158)], [], S, mm) := by
  have hK := LW.cl (l := l) (e := e) (below := below) (Q := Q) E.1
  have hT : Two (fX10_cell (xs (i + 1).toNatClampNeg) (xs (i + 2).toNatClampNeg) (xs (i + 3).toNatClampNeg)) (fX11_cell (xs (i + 1).toNatClampNeg) (xs (i + 2).toNatClampNeg) (xs (i + 3).toNatClampNeg)) mm := by
    obtain ⟨H, r, s0, T, L0, b0, U, ss, A, im, ⟨hC, hM, hO, hSC⟩, hF, hT, hU, hA, hN, hD⟩ := id hW
    exact (b_cell hC hM hO).two hI hW
  obtain ⟨V, m1, m2, e1, e2, w2⟩ := hT
  have q1 := kX10_cell hS e1 hI
  have q2 := kX11_cell hS e2 q1.2
  refine ko_aload_n hK (q := 381) rfl (by decide) (E.dc dL_law_380) rfl ?_
  refine lw_arg E (q := 387) (kk := 1) 1 dL_law_381 dL_law_382 dL_law_384 dL_law_385 dL_law_386 (by decide) (hin _ (by decide)) rfl rfl rfl ?_
  refine lw_arg E (q := 393) (kk := 2) 2 dL_law_387 dL_law_388 dL_law_390 dL_law_391 dL_law_392 (by decide) (hin _ (by decide)) rfl rfl rfl ?_
  refine lw_arg E (q := 399) (kk := 3) 3 dL_law_393 dL_law_394 dL_law_396 dL_law_397 dL_law_398 (by decide) (hin _ (by decide)) rfl rfl rfl ?_
  refine ko_virt hK (q := 402) mX10_cell [.int (xs (i + 1).toNatClampNeg), .int (xs (i + 2).toNatClampNeg), .int (xs (i + 3).toNatClampNeg)] (E.dc dL_law_399) rfl rfl (Nat.le_of_ble_eq_true rfl) mo_X10_cell (E.ml mv_L_37) (Or.inl ⟨10, 17, _, h_0 hS, rfl, rfl⟩) (Call_mono (by decide) q1.1) ?_
  refine ko_aload_n hK (q := 403) rfl (by decide) (E.dc dL_law_402) rfl ?_
  refine lw_arg E (q := 409) (kk := 1) 1 dL_law_403 dL_law_404 dL_law_406 dL_law_407 dL_law_408 (by decide) (hin _ (by decide)) rfl rfl rfl ?_
  refine lw_arg E (q := 415) (kk := 2) 2 dL_law_409 dL_law_410 dL_law_412 dL_law_413 dL_law_414 (by decide) (hin _ (by decide)) rfl rfl rfl ?_
  refine lw_arg E (q := 421) (kk := 3) 3 dL_law_415 dL_law_416 dL_law_418 dL_law_419 dL_law_420 (by decide) (hin _ (by decide)) rfl rfl rfl ?_
  refine ko_virt hK (q := 424) mX11_cell [.int (xs (i + 1).toNatClampNeg), .int (xs (i + 2).toNatClampNeg), .int (xs (i + 3).toNatClampNeg)] (E.dc dL_law_421) rfl rfl (Nat.le_of_ble_eq_true rfl) mo_X11_cell (E.ml mv_L_41) (Or.inl ⟨11, 37, _, h_138 hS, rfl, rfl⟩) (Call_mono (by decide) q2.1) ?_
  exact ko_icT hK (q := 1829) (op := .eq) rfl (E.dc dL_law_424) rfl (next _ q2.2 w2)
set_option maxRecDepth 20000 in
theorem cs_5 (E : LE G p l s m args meth c μ L xs) (hS : ShOK S) (hI : Inv mm) (hW : WI mm) (hin : ∀ k : Int32, 0 ≤ k ∧ k < 6 → inb (i + k) L) (next : ∀ mm', Inv mm' → WI mm' → LW G p l e s m args below meth c Q (1829, [(4, .int i), (0, .ref 3000000), (1, .ref 0), (2, .ref 138), (3, .ref 158)], [], S, mm')) : LW G p l e s m args below meth c Q (429, [(4, .int i), (0, .ref 3000000), (1, .ref 0), (2, .ref 138), (3, .ref 158)], [], S, mm) := by
  have hK := LW.cl (l := l) (e := e) (below := below) (Q := Q) E.1
  have hT : Two (fX10_broken (xs (i + 1).toNatClampNeg)) (fX11_broken (xs (i + 1).toNatClampNeg)) mm := by
    obtain ⟨H, r, s0, T, L0, b0, U, ss, A, im, ⟨hC, hM, hO, hSC⟩, hF, hT, hU, hA, hN, hD⟩ := id hW
    exact (b_broken hC hM hO).two hI hW
  obtain ⟨V, m1, m2, e1, e2, w2⟩ := hT
  have q1 := kX10_broken hS e1 hI
  have q2 := kX11_broken hS e2 q1.2
  refine ko_aload_n hK (q := 430) rfl (by decide) (E.dc dL_law_429) rfl ?_
  refine lw_arg E (q := 436) (kk := 1) 1 dL_law_430 dL_law_431 dL_law_433 dL_law_434 dL_law_435 (by decide) (hin _ (by decide)) rfl rfl rfl ?_
  refine ko_virt hK (q := 439) mX10_broken [.int (xs (i + 1).toNatClampNeg)] (E.dc dL_law_436) rfl rfl (Nat.le_of_ble_eq_true rfl) mo_X10_broken (E.ml mv_L_42) (Or.inl ⟨10, 17, _, h_0 hS, rfl, rfl⟩) (Call_mono (by decide) q1.1) ?_
  refine ko_aload_n hK (q := 440) rfl (by decide) (E.dc dL_law_439) rfl ?_
  refine lw_arg E (q := 446) (kk := 1) 1 dL_law_440 dL_law_441 dL_law_443 dL_law_444 dL_law_445 (by decide) (hin _ (by decide)) rfl rfl rfl ?_
  refine ko_virt hK (q := 449) mX11_broken [.int (xs (i + 1).toNatClampNeg)] (E.dc dL_law_446) rfl rfl (Nat.le_of_ble_eq_true rfl) mo_X11_broken (E.ml mv_L_45) (Or.inl ⟨11, 37, _, h_138 hS, rfl, rfl⟩) (Call_mono (by decide) q2.1) ?_
  exact ko_icT hK (q := 1829) (op := .eq) rfl (E.dc dL_law_449) rfl (next _ q2.2 w2)
set_option maxRecDepth 20000 in
theorem cs_6 (E : LE G p l s m args meth c μ L xs) (hS : ShOK S) (hI : Inv mm) (hW : WI mm) (hin : ∀ k : Int32, 0 ≤ k ∧ k < 6 → inb (i + k) L) (next : ∀ mm', Inv mm' → WI mm' → LW G p l e s m args below meth c Q (1829, [(4, .int i), (0, .ref 3000000), (1, .ref 0), (2, .ref 138), (3, .ref 158)], [], S, mm')) : LW G p l e s m args below meth c Q (454, [(4, .int i), (0, .ref 3000000), (1, .ref 0), (2, .ref 138), (3, .ref 158)], [], S, mm) := by
  have hK := LW.cl (l := l) (e := e) (below := below) (Q := Q) E.1
  have hT : Two (fX10_shows (xs (i + 1).toNatClampNeg) (xs (i + 2).toNatClampNeg)) (fX11_shows (xs (i + 1).toNatClampNeg) (xs (i + 2).toNatClampNeg)) mm := by
    obtain ⟨H, r, s0, T, L0, b0, U, ss, A, im, ⟨hC, hM, hO, hSC⟩, hF, hT, hU, hA, hN, hD⟩ := id hW
    exact (b_shows hI hC hM hO).two hI hW
  obtain ⟨V, m1, m2, e1, e2, w2⟩ := hT
  have q1 := kX10_shows hS e1 hI
  have q2 := kX11_shows hS e2 q1.2
  refine ko_aload_n hK (q := 455) rfl (by decide) (E.dc dL_law_454) rfl ?_
  refine lw_arg E (q := 461) (kk := 1) 1 dL_law_455 dL_law_456 dL_law_458 dL_law_459 dL_law_460 (by decide) (hin _ (by decide)) rfl rfl rfl ?_
  refine lw_arg E (q := 467) (kk := 2) 2 dL_law_461 dL_law_462 dL_law_464 dL_law_465 dL_law_466 (by decide) (hin _ (by decide)) rfl rfl rfl ?_
  refine ko_virt hK (q := 470) mX10_shows [.int (xs (i + 1).toNatClampNeg), .int (xs (i + 2).toNatClampNeg)] (E.dc dL_law_467) rfl rfl (Nat.le_of_ble_eq_true rfl) mo_X10_shows (E.ml mv_L_46) (Or.inl ⟨10, 17, _, h_0 hS, rfl, rfl⟩) (Call_mono (by decide) q1.1) ?_
  refine ko_aload_n hK (q := 471) rfl (by decide) (E.dc dL_law_470) rfl ?_
  refine lw_arg E (q := 477) (kk := 1) 1 dL_law_471 dL_law_472 dL_law_474 dL_law_475 dL_law_476 (by decide) (hin _ (by decide)) rfl rfl rfl ?_
  refine lw_arg E (q := 483) (kk := 2) 2 dL_law_477 dL_law_478 dL_law_480 dL_law_481 dL_law_482 (by decide) (hin _ (by decide)) rfl rfl rfl ?_
  refine ko_virt hK (q := 486) mX11_shows [.int (xs (i + 1).toNatClampNeg), .int (xs (i + 2).toNatClampNeg)] (E.dc dL_law_483) rfl rfl (Nat.le_of_ble_eq_true rfl) mo_X11_shows (E.ml mv_L_50) (Or.inl ⟨11, 37, _, h_138 hS, rfl, rfl⟩) (Call_mono (by decide) q2.1) ?_
  exact ko_icT hK (q := 1829) (op := .eq) rfl (E.dc dL_law_486) rfl (next _ q2.2 w2)
set_option maxRecDepth 20000 in
theorem cs_7 (E : LE G p l s m args meth c μ L xs) (hS : ShOK S) (hI : Inv mm) (hW : WI mm) (hin : ∀ k : Int32, 0 ≤ k ∧ k < 6 → inb (i + k) L) (next : ∀ mm', Inv mm' → WI mm' → LW G p l e s m args below meth c Q (1829, [(4, .int i), (0, .ref 3000000), (1, .ref 0), (2, .ref 138), (3, .ref 158)], [], S, mm')) : LW G p l e s m args below meth c Q (491, [(4, .int i), (0, .ref 3000000), (1, .ref 0), (2, .ref 138), (3, .ref 158)], [], S, mm) := by
  have hK := LW.cl (l := l) (e := e) (below := below) (Q := Q) E.1
  have hT : Two (fX10_letter (xs (i + 1).toNatClampNeg) (xs (i + 2).toNatClampNeg) (xs (i + 3).toNatClampNeg)) (fX11_letter (xs (i + 1).toNatClampNeg) (xs (i + 2).toNatClampNeg) (xs (i + 3).toNatClampNeg)) mm := by
    obtain ⟨H, r, s0, T, L0, b0, U, ss, A, im, ⟨hC, hM, hO, hSC⟩, hF, hT, hU, hA, hN, hD⟩ := id hW
    exact (b_letter hI hC hM hO).two hI hW
  obtain ⟨V, m1, m2, e1, e2, w2⟩ := hT
  have q1 := kX10_letter hS e1 hI
  have q2 := kX11_letter hS e2 q1.2
  refine ko_aload_n hK (q := 492) rfl (by decide) (E.dc dL_law_491) rfl ?_
  refine lw_arg E (q := 498) (kk := 1) 1 dL_law_492 dL_law_493 dL_law_495 dL_law_496 dL_law_497 (by decide) (hin _ (by decide)) rfl rfl rfl ?_
  refine lw_arg E (q := 504) (kk := 2) 2 dL_law_498 dL_law_499 dL_law_501 dL_law_502 dL_law_503 (by decide) (hin _ (by decide)) rfl rfl rfl ?_
  refine lw_arg E (q := 510) (kk := 3) 3 dL_law_504 dL_law_505 dL_law_507 dL_law_508 dL_law_509 (by decide) (hin _ (by decide)) rfl rfl rfl ?_
  refine ko_virt hK (q := 513) mX10_letter [.int (xs (i + 1).toNatClampNeg), .int (xs (i + 2).toNatClampNeg), .int (xs (i + 3).toNatClampNeg)] (E.dc dL_law_510) rfl rfl (Nat.le_of_ble_eq_true rfl) mo_X10_letter (E.ml mv_L_51) (Or.inl ⟨10, 17, _, h_0 hS, rfl, rfl⟩) (Call_mono (by decide) q1.1) ?_
  refine ko_aload_n hK (q := 514) rfl (by decide) (E.dc dL_law_513) rfl ?_
  refine lw_arg E (q := 520) (kk := 1) 1 dL_law_514 dL_law_515 dL_law_517 dL_law_518 dL_law_519 (by decide) (hin _ (by decide)) rfl rfl rfl ?_
  refine lw_arg E (q := 526) (kk := 2) 2 dL_law_520 dL_law_521 dL_law_523 dL_law_524 dL_law_525 (by decide) (hin _ (by decide)) rfl rfl rfl ?_
  refine lw_arg E (q := 532) (kk := 3) 3 dL_law_526 dL_law_527 dL_law_529 dL_law_530 dL_law_531 (by decide) (hin _ (by decide)) rfl rfl rfl ?_
  refine ko_virt hK (q := 535) mX11_letter [.int (xs (i + 1).toNatClampNeg), .int (xs (i + 2).toNatClampNeg), .int (xs (i + 3).toNatClampNeg)] (E.dc dL_law_532) rfl rfl (Nat.le_of_ble_eq_true rfl) mo_X11_letter (E.ml mv_L_54) (Or.inl ⟨11, 37, _, h_138 hS, rfl, rfl⟩) (Call_mono (by decide) q2.1) ?_
  exact ko_icT hK (q := 1829) (op := .eq) rfl (E.dc dL_law_535) rfl (next _ q2.2 w2)
set_option maxRecDepth 20000 in
theorem cs_8 (E : LE G p l s m args meth c μ L xs) (hS : ShOK S) (hI : Inv mm) (hW : WI mm) (hin : ∀ k : Int32, 0 ≤ k ∧ k < 6 → inb (i + k) L) (next : ∀ mm', Inv mm' → WI mm' → LW G p l e s m args below meth c Q (1829, [(4, .int i), (0, .ref 3000000), (1, .ref 0), (2, .ref 138), (3, .ref 158)], [], S, mm')) : LW G p l e s m args below meth c Q (540, [(4, .int i), (0, .ref 3000000), (1, .ref 0), (2, .ref 138), (3, .ref 158)], [], S, mm) := by
  have hK := LW.cl (l := l) (e := e) (below := below) (Q := Q) E.1
  have hT : Two (fX10_at (xs (i + 1).toNatClampNeg) (xs (i + 2).toNatClampNeg) (xs (i + 3).toNatClampNeg)) (fX11_at (xs (i + 1).toNatClampNeg) (xs (i + 2).toNatClampNeg) (xs (i + 3).toNatClampNeg)) mm := by
    obtain ⟨H, r, s0, T, L0, b0, U, ss, A, im, ⟨hC, hM, hO, hSC⟩, hF, hT, hU, hA, hN, hD⟩ := id hW
    exact (b_at hI hC hM hO).two hI hW
  obtain ⟨V, m1, m2, e1, e2, w2⟩ := hT
  have q1 := kX10_at hS e1 hI
  have q2 := kX11_at hS e2 q1.2
  refine ko_aload_n hK (q := 541) rfl (by decide) (E.dc dL_law_540) rfl ?_
  refine lw_arg E (q := 547) (kk := 1) 1 dL_law_541 dL_law_542 dL_law_544 dL_law_545 dL_law_546 (by decide) (hin _ (by decide)) rfl rfl rfl ?_
  refine lw_arg E (q := 553) (kk := 2) 2 dL_law_547 dL_law_548 dL_law_550 dL_law_551 dL_law_552 (by decide) (hin _ (by decide)) rfl rfl rfl ?_
  refine lw_arg E (q := 559) (kk := 3) 3 dL_law_553 dL_law_554 dL_law_556 dL_law_557 dL_law_558 (by decide) (hin _ (by decide)) rfl rfl rfl ?_
  refine ko_virt hK (q := 562) mX10_at [.int (xs (i + 1).toNatClampNeg), .int (xs (i + 2).toNatClampNeg), .int (xs (i + 3).toNatClampNeg)] (E.dc dL_law_559) rfl rfl (Nat.le_of_ble_eq_true rfl) mo_X10_at (E.ml mv_L_55) (Or.inl ⟨10, 17, _, h_0 hS, rfl, rfl⟩) (Call_mono (by decide) q1.1) ?_
  refine ko_aload_n hK (q := 563) rfl (by decide) (E.dc dL_law_562) rfl ?_
  refine lw_arg E (q := 569) (kk := 1) 1 dL_law_563 dL_law_564 dL_law_566 dL_law_567 dL_law_568 (by decide) (hin _ (by decide)) rfl rfl rfl ?_
  refine lw_arg E (q := 575) (kk := 2) 2 dL_law_569 dL_law_570 dL_law_572 dL_law_573 dL_law_574 (by decide) (hin _ (by decide)) rfl rfl rfl ?_
  refine lw_arg E (q := 581) (kk := 3) 3 dL_law_575 dL_law_576 dL_law_578 dL_law_579 dL_law_580 (by decide) (hin _ (by decide)) rfl rfl rfl ?_
  refine ko_virt hK (q := 584) mX11_at [.int (xs (i + 1).toNatClampNeg), .int (xs (i + 2).toNatClampNeg), .int (xs (i + 3).toNatClampNeg)] (E.dc dL_law_581) rfl rfl (Nat.le_of_ble_eq_true rfl) mo_X11_at (E.ml mv_L_58) (Or.inl ⟨11, 37, _, h_138 hS, rfl, rfl⟩) (Call_mono (by decide) q2.1) ?_
  exact ko_icT hK (q := 1829) (op := .eq) rfl (E.dc dL_law_584) rfl (next _ q2.2 w2)
set_option maxRecDepth 20000 in
theorem cs_9 (E : LE G p l s m args meth c μ L xs) (hS : ShOK S) (hI : Inv mm) (hW : WI mm) (hin : ∀ k : Int32, 0 ≤ k ∧ k < 6 → inb (i + k) L) (next : ∀ mm', Inv mm' → WI mm' → LW G p l e s m args below meth c Q (1829, [(4, .int i), (0, .ref 3000000), (1, .ref 0), (2, .ref 138), (3, .ref 158)], [], S, mm')) : LW G p l e s m args below meth c Q (589, [(4, .int i), (0, .ref 3000000), (1, .ref 0), (2, .ref 138), (3, .ref 158)], [], S, mm) := by
  have hK := LW.cl (l := l) (e := e) (below := below) (Q := Q) E.1
  have hT : Two (fX10_shown (xs (i + 1).toNatClampNeg) (xs (i + 2).toNatClampNeg) (xs (i + 3).toNatClampNeg)) (fX11_shown (xs (i + 1).toNatClampNeg) (xs (i + 2).toNatClampNeg) (xs (i + 3).toNatClampNeg)) mm := by
    obtain ⟨H, r, s0, T, L0, b0, U, ss, A, im, ⟨hC, hM, hO, hSC⟩, hF, hT, hU, hA, hN, hD⟩ := id hW
    exact (b_shown hI hC hM hO).two hI hW
  obtain ⟨V, m1, m2, e1, e2, w2⟩ := hT
  have q1 := kX10_shown hS e1 hI
  have q2 := kX11_shown hS e2 q1.2
  refine ko_aload_n hK (q := 590) rfl (by decide) (E.dc dL_law_589) rfl ?_
  refine lw_arg E (q := 596) (kk := 1) 1 dL_law_590 dL_law_591 dL_law_593 dL_law_594 dL_law_595 (by decide) (hin _ (by decide)) rfl rfl rfl ?_
  refine lw_arg E (q := 602) (kk := 2) 2 dL_law_596 dL_law_597 dL_law_599 dL_law_600 dL_law_601 (by decide) (hin _ (by decide)) rfl rfl rfl ?_
  refine lw_arg E (q := 608) (kk := 3) 3 dL_law_602 dL_law_603 dL_law_605 dL_law_606 dL_law_607 (by decide) (hin _ (by decide)) rfl rfl rfl ?_
  refine ko_virt hK (q := 611) mX10_shown [.int (xs (i + 1).toNatClampNeg), .int (xs (i + 2).toNatClampNeg), .int (xs (i + 3).toNatClampNeg)] (E.dc dL_law_608) rfl rfl (Nat.le_of_ble_eq_true rfl) mo_X10_shown (E.ml mv_L_59) (Or.inl ⟨10, 17, _, h_0 hS, rfl, rfl⟩) (Call_mono (by decide) q1.1) ?_
  refine ko_aload_n hK (q := 612) rfl (by decide) (E.dc dL_law_611) rfl ?_
  refine lw_arg E (q := 618) (kk := 1) 1 dL_law_612 dL_law_613 dL_law_615 dL_law_616 dL_law_617 (by decide) (hin _ (by decide)) rfl rfl rfl ?_
  refine lw_arg E (q := 624) (kk := 2) 2 dL_law_618 dL_law_619 dL_law_621 dL_law_622 dL_law_623 (by decide) (hin _ (by decide)) rfl rfl rfl ?_
  refine lw_arg E (q := 630) (kk := 3) 3 dL_law_624 dL_law_625 dL_law_627 dL_law_628 dL_law_629 (by decide) (hin _ (by decide)) rfl rfl rfl ?_
  refine ko_virt hK (q := 633) mX11_shown [.int (xs (i + 1).toNatClampNeg), .int (xs (i + 2).toNatClampNeg), .int (xs (i + 3).toNatClampNeg)] (E.dc dL_law_630) rfl rfl (Nat.le_of_ble_eq_true rfl) mo_X11_shown (E.ml mv_L_62) (Or.inl ⟨11, 37, _, h_138 hS, rfl, rfl⟩) (Call_mono (by decide) q2.1) ?_
  exact ko_icT hK (q := 1829) (op := .eq) rfl (E.dc dL_law_633) rfl (next _ q2.2 w2)
set_option maxRecDepth 20000 in
theorem cs_10 (E : LE G p l s m args meth c μ L xs) (hS : ShOK S) (hI : Inv mm) (hW : WI mm) (hin : ∀ k : Int32, 0 ≤ k ∧ k < 6 → inb (i + k) L) (next : ∀ mm', Inv mm' → WI mm' → LW G p l e s m args below meth c Q (1829, [(4, .int i), (0, .ref 3000000), (1, .ref 0), (2, .ref 138), (3, .ref 158)], [], S, mm')) : LW G p l e s m args below meth c Q (638, [(4, .int i), (0, .ref 3000000), (1, .ref 0), (2, .ref 138), (3, .ref 158)], [], S, mm) := by
  have hK := LW.cl (l := l) (e := e) (below := below) (Q := Q) E.1
  have hT : Two (fX10_ribs (xs (i + 1).toNatClampNeg) (xs (i + 2).toNatClampNeg)) (fX11_ribs (xs (i + 1).toNatClampNeg) (xs (i + 2).toNatClampNeg)) mm := by
    obtain ⟨H, r, s0, T, L0, b0, U, ss, A, im, ⟨hC, hM, hO, hSC⟩, hF, hT, hU, hA, hN, hD⟩ := id hW
    exact (b_ribs hI hC hM hO).two hI hW
  obtain ⟨V, m1, m2, e1, e2, w2⟩ := hT
  have q1 := kX10_ribs hS e1 hI
  have q2 := kX11_ribs hS e2 q1.2
  refine ko_aload_n hK (q := 639) rfl (by decide) (E.dc dL_law_638) rfl ?_
  refine lw_arg E (q := 645) (kk := 1) 1 dL_law_639 dL_law_640 dL_law_642 dL_law_643 dL_law_644 (by decide) (hin _ (by decide)) rfl rfl rfl ?_
  refine lw_arg E (q := 651) (kk := 2) 2 dL_law_645 dL_law_646 dL_law_648 dL_law_649 dL_law_650 (by decide) (hin _ (by decide)) rfl rfl rfl ?_
  refine ko_virt hK (q := 654) mX10_ribs [.int (xs (i + 1).toNatClampNeg), .int (xs (i + 2).toNatClampNeg)] (E.dc dL_law_651) rfl rfl (Nat.le_of_ble_eq_true rfl) mo_X10_ribs (E.ml mv_L_63) (Or.inl ⟨10, 17, _, h_0 hS, rfl, rfl⟩) (Call_mono (by decide) q1.1) ?_
  refine ko_aload_n hK (q := 655) rfl (by decide) (E.dc dL_law_654) rfl ?_
  refine lw_arg E (q := 661) (kk := 1) 1 dL_law_655 dL_law_656 dL_law_658 dL_law_659 dL_law_660 (by decide) (hin _ (by decide)) rfl rfl rfl ?_
  refine lw_arg E (q := 667) (kk := 2) 2 dL_law_661 dL_law_662 dL_law_664 dL_law_665 dL_law_666 (by decide) (hin _ (by decide)) rfl rfl rfl ?_
  refine ko_virt hK (q := 670) mX11_ribs [.int (xs (i + 1).toNatClampNeg), .int (xs (i + 2).toNatClampNeg)] (E.dc dL_law_667) rfl rfl (Nat.le_of_ble_eq_true rfl) mo_X11_ribs (E.ml mv_L_66) (Or.inl ⟨11, 37, _, h_138 hS, rfl, rfl⟩) (Call_mono (by decide) q2.1) ?_
  exact ko_icT hK (q := 1829) (op := .eq) rfl (E.dc dL_law_670) rfl (next _ q2.2 w2)
set_option maxRecDepth 20000 in
theorem cs_11 (E : LE G p l s m args meth c μ L xs) (hS : ShOK S) (hI : Inv mm) (hW : WI mm) (hin : ∀ k : Int32, 0 ≤ k ∧ k < 6 → inb (i + k) L) (next : ∀ mm', Inv mm' → WI mm' → LW G p l e s m args below meth c Q (1829, [(4, .int i), (0, .ref 3000000), (1, .ref 0), (2, .ref 138), (3, .ref 158)], [], S, mm')) : LW G p l e s m args below meth c Q (675, [(4, .int i), (0, .ref 3000000), (1, .ref 0), (2, .ref 138), (3, .ref 158)], [], S, mm) := by
  have hK := LW.cl (l := l) (e := e) (below := below) (Q := Q) E.1
  have hT : Two fX10_painted fX11_painted mm := by
    obtain ⟨H, r, s0, T, L0, b0, U, ss, A, im, ⟨hC, hM, hO, hSC⟩, hF, hT, hU, hA, hN, hD⟩ := id hW
    exact (b_painted hI hC hM hO).two hI hW
  obtain ⟨V, m1, m2, e1, e2, w2⟩ := hT
  have q1 := kX10_painted hS e1 hI
  have q2 := kX11_painted hS e2 q1.2
  refine ko_aload_n hK (q := 676) rfl (by decide) (E.dc dL_law_675) rfl ?_
  refine ko_virt hK (q := 679) mX10_painted [] (E.dc dL_law_676) rfl rfl (Nat.le_of_ble_eq_true rfl) mo_X10_painted (E.ml mv_L_67) (Or.inl ⟨10, 17, _, h_0 hS, rfl, rfl⟩) (Call_mono (by decide) q1.1) ?_
  refine ko_aload_n hK (q := 680) rfl (by decide) (E.dc dL_law_679) rfl ?_
  refine ko_virt hK (q := 683) mX11_painted [] (E.dc dL_law_680) rfl rfl (Nat.le_of_ble_eq_true rfl) mo_X11_painted (E.ml mv_L_70) (Or.inl ⟨11, 37, _, h_138 hS, rfl, rfl⟩) (Call_mono (by decide) q2.1) ?_
  exact ko_icT hK (q := 1829) (op := .eq) rfl (E.dc dL_law_683) rfl (next _ q2.2 w2)
set_option maxRecDepth 20000 in
theorem cs_12 (E : LE G p l s m args meth c μ L xs) (hS : ShOK S) (hI : Inv mm) (hW : WI mm) (hin : ∀ k : Int32, 0 ≤ k ∧ k < 6 → inb (i + k) L) (next : ∀ mm', Inv mm' → WI mm' → LW G p l e s m args below meth c Q (1829, [(4, .int i), (0, .ref 3000000), (1, .ref 0), (2, .ref 138), (3, .ref 158)], [], S, mm')) : LW G p l e s m args below meth c Q (688, [(4, .int i), (0, .ref 3000000), (1, .ref 0), (2, .ref 138), (3, .ref 158)], [], S, mm) := by
  have hK := LW.cl (l := l) (e := e) (below := below) (Q := Q) E.1
  have hT : Two fX10_cost fX11_cost mm := by
    obtain ⟨H, r, s0, T, L0, b0, U, ss, A, im, ⟨hC, hM, hO, hSC⟩, hF, hT, hU, hA, hN, hD⟩ := id hW
    exact (b_cost hI hC hM hO).two hI hW
  obtain ⟨V, m1, m2, e1, e2, w2⟩ := hT
  have q1 := kX10_cost hS e1 hI
  have q2 := kX11_cost hS e2 q1.2
  refine ko_aload_n hK (q := 689) rfl (by decide) (E.dc dL_law_688) rfl ?_
  refine ko_virt hK (q := 692) mX10_cost [] (E.dc dL_law_689) rfl rfl (Nat.le_of_ble_eq_true rfl) mo_X10_cost (E.ml mv_L_71) (Or.inl ⟨10, 17, _, h_0 hS, rfl, rfl⟩) (Call_mono (by decide) q1.1) ?_
  refine ko_aload_n hK (q := 693) rfl (by decide) (E.dc dL_law_692) rfl ?_
  refine ko_virt hK (q := 696) mX11_cost [] (E.dc dL_law_693) rfl rfl (Nat.le_of_ble_eq_true rfl) mo_X11_cost (E.ml mv_L_74) (Or.inl ⟨11, 37, _, h_138 hS, rfl, rfl⟩) (Call_mono (by decide) q2.1) ?_
  exact ko_icT hK (q := 1829) (op := .eq) rfl (E.dc dL_law_696) rfl (next _ q2.2 w2)
set_option maxRecDepth 20000 in
theorem cs_13 (E : LE G p l s m args meth c μ L xs) (hS : ShOK S) (hI : Inv mm) (hW : WI mm) (hin : ∀ k : Int32, 0 ≤ k ∧ k < 6 → inb (i + k) L) (next : ∀ mm', Inv mm' → WI mm' → LW G p l e s m args below meth c Q (1829, [(4, .int i), (0, .ref 3000000), (1, .ref 0), (2, .ref 138), (3, .ref 158)], [], S, mm')) : LW G p l e s m args below meth c Q (701, [(4, .int i), (0, .ref 3000000), (1, .ref 0), (2, .ref 138), (3, .ref 158)], [], S, mm) := by
  have hK := LW.cl (l := l) (e := e) (below := below) (Q := Q) E.1
  have hT : Two (fX10_reads (xs (i + 1).toNatClampNeg) (xs (i + 2).toNatClampNeg) (xs (i + 3).toNatClampNeg)) (fX11_reads (xs (i + 1).toNatClampNeg) (xs (i + 2).toNatClampNeg) (xs (i + 3).toNatClampNeg)) mm := by
    obtain ⟨H, r, s0, T, L0, b0, U, ss, A, im, ⟨hC, hM, hO, hSC⟩, hF, hT, hU, hA, hN, hD⟩ := id hW
    exact (b_reads hI hC hM hO).two hI hW
  obtain ⟨V, m1, m2, e1, e2, w2⟩ := hT
  have q1 := kX10_reads hS e1 hI
  have q2 := kX11_reads hS e2 q1.2
  refine ko_aload_n hK (q := 702) rfl (by decide) (E.dc dL_law_701) rfl ?_
  refine lw_arg E (q := 708) (kk := 1) 1 dL_law_702 dL_law_703 dL_law_705 dL_law_706 dL_law_707 (by decide) (hin _ (by decide)) rfl rfl rfl ?_
  refine lw_arg E (q := 714) (kk := 2) 2 dL_law_708 dL_law_709 dL_law_711 dL_law_712 dL_law_713 (by decide) (hin _ (by decide)) rfl rfl rfl ?_
  refine lw_arg E (q := 720) (kk := 3) 3 dL_law_714 dL_law_715 dL_law_717 dL_law_718 dL_law_719 (by decide) (hin _ (by decide)) rfl rfl rfl ?_
  refine ko_virt hK (q := 723) mX10_reads [.int (xs (i + 1).toNatClampNeg), .int (xs (i + 2).toNatClampNeg), .int (xs (i + 3).toNatClampNeg)] (E.dc dL_law_720) rfl rfl (Nat.le_of_ble_eq_true rfl) mo_X10_reads (E.ml mv_L_75) (Or.inl ⟨10, 17, _, h_0 hS, rfl, rfl⟩) (Call_mono (by decide) q1.1) ?_
  refine ko_aload_n hK (q := 724) rfl (by decide) (E.dc dL_law_723) rfl ?_
  refine lw_arg E (q := 730) (kk := 1) 1 dL_law_724 dL_law_725 dL_law_727 dL_law_728 dL_law_729 (by decide) (hin _ (by decide)) rfl rfl rfl ?_
  refine lw_arg E (q := 736) (kk := 2) 2 dL_law_730 dL_law_731 dL_law_733 dL_law_734 dL_law_735 (by decide) (hin _ (by decide)) rfl rfl rfl ?_
  refine lw_arg E (q := 742) (kk := 3) 3 dL_law_736 dL_law_737 dL_law_739 dL_law_740 dL_law_741 (by decide) (hin _ (by decide)) rfl rfl rfl ?_
  refine ko_virt hK (q := 745) mX11_reads [.int (xs (i + 1).toNatClampNeg), .int (xs (i + 2).toNatClampNeg), .int (xs (i + 3).toNatClampNeg)] (E.dc dL_law_742) rfl rfl (Nat.le_of_ble_eq_true rfl) mo_X11_reads (E.ml mv_L_78) (Or.inl ⟨11, 37, _, h_138 hS, rfl, rfl⟩) (Call_mono (by decide) q2.1) ?_
  exact ko_icT hK (q := 1829) (op := .eq) rfl (E.dc dL_law_745) rfl (next _ q2.2 w2)
set_option maxRecDepth 20000 in
theorem cs_14 (E : LE G p l s m args meth c μ L xs) (hS : ShOK S) (hI : Inv mm) (hW : WI mm) (hin : ∀ k : Int32, 0 ≤ k ∧ k < 6 → inb (i + k) L) (next : ∀ mm', Inv mm' → WI mm' → LW G p l e s m args below meth c Q (1829, [(4, .int i), (0, .ref 3000000), (1, .ref 0), (2, .ref 138), (3, .ref 158)], [], S, mm')) : LW G p l e s m args below meth c Q (750, [(4, .int i), (0, .ref 3000000), (1, .ref 0), (2, .ref 138), (3, .ref 158)], [], S, mm) := by
  have hK := LW.cl (l := l) (e := e) (below := below) (Q := Q) E.1
  have hT : Two (fX10_readAt (xs (i + 1).toNatClampNeg) (xs (i + 2).toNatClampNeg) (xs (i + 3).toNatClampNeg)) (fX11_readAt (xs (i + 1).toNatClampNeg) (xs (i + 2).toNatClampNeg) (xs (i + 3).toNatClampNeg)) mm := by
    obtain ⟨H, r, s0, T, L0, b0, U, ss, A, im, ⟨hC, hM, hO, hSC⟩, hF, hT, hU, hA, hN, hD⟩ := id hW
    exact (b_readAt hI hC hM hO).two hI hW
  obtain ⟨V, m1, m2, e1, e2, w2⟩ := hT
  have q1 := kX10_readAt hS e1 hI
  have q2 := kX11_readAt hS e2 q1.2
  refine ko_aload_n hK (q := 751) rfl (by decide) (E.dc dL_law_750) rfl ?_
  refine lw_arg E (q := 757) (kk := 1) 1 dL_law_751 dL_law_752 dL_law_754 dL_law_755 dL_law_756 (by decide) (hin _ (by decide)) rfl rfl rfl ?_
  refine lw_arg E (q := 763) (kk := 2) 2 dL_law_757 dL_law_758 dL_law_760 dL_law_761 dL_law_762 (by decide) (hin _ (by decide)) rfl rfl rfl ?_
  refine lw_arg E (q := 769) (kk := 3) 3 dL_law_763 dL_law_764 dL_law_766 dL_law_767 dL_law_768 (by decide) (hin _ (by decide)) rfl rfl rfl ?_
  refine ko_virt hK (q := 772) mX10_readAt [.int (xs (i + 1).toNatClampNeg), .int (xs (i + 2).toNatClampNeg), .int (xs (i + 3).toNatClampNeg)] (E.dc dL_law_769) rfl rfl (Nat.le_of_ble_eq_true rfl) mo_X10_readAt (E.ml mv_L_79) (Or.inl ⟨10, 17, _, h_0 hS, rfl, rfl⟩) (Call_mono (by decide) q1.1) ?_
  refine ko_aload_n hK (q := 773) rfl (by decide) (E.dc dL_law_772) rfl ?_
  refine lw_arg E (q := 779) (kk := 1) 1 dL_law_773 dL_law_774 dL_law_776 dL_law_777 dL_law_778 (by decide) (hin _ (by decide)) rfl rfl rfl ?_
  refine lw_arg E (q := 785) (kk := 2) 2 dL_law_779 dL_law_780 dL_law_782 dL_law_783 dL_law_784 (by decide) (hin _ (by decide)) rfl rfl rfl ?_
  refine lw_arg E (q := 791) (kk := 3) 3 dL_law_785 dL_law_786 dL_law_788 dL_law_789 dL_law_790 (by decide) (hin _ (by decide)) rfl rfl rfl ?_
  refine ko_virt hK (q := 794) mX11_readAt [.int (xs (i + 1).toNatClampNeg), .int (xs (i + 2).toNatClampNeg), .int (xs (i + 3).toNatClampNeg)] (E.dc dL_law_791) rfl rfl (Nat.le_of_ble_eq_true rfl) mo_X11_readAt (E.ml mv_L_82) (Or.inl ⟨11, 37, _, h_138 hS, rfl, rfl⟩) (Call_mono (by decide) q2.1) ?_
  exact ko_icT hK (q := 1829) (op := .eq) rfl (E.dc dL_law_794) rfl (next _ q2.2 w2)
set_option maxRecDepth 20000 in
theorem cs_15 (E : LE G p l s m args meth c μ L xs) (hS : ShOK S) (hI : Inv mm) (hW : WI mm) (hin : ∀ k : Int32, 0 ≤ k ∧ k < 6 → inb (i + k) L) (next : ∀ mm', Inv mm' → WI mm' → LW G p l e s m args below meth c Q (1829, [(4, .int i), (0, .ref 3000000), (1, .ref 0), (2, .ref 138), (3, .ref 158)], [], S, mm')) : LW G p l e s m args below meth c Q (799, [(4, .int i), (0, .ref 3000000), (1, .ref 0), (2, .ref 138), (3, .ref 158)], [], S, mm) := by
  have hK := LW.cl (l := l) (e := e) (below := below) (Q := Q) E.1
  have hT : Two (fX10_spans (xs (i + 1).toNatClampNeg) (xs (i + 2).toNatClampNeg)) (fX11_spans (xs (i + 1).toNatClampNeg) (xs (i + 2).toNatClampNeg)) mm := by
    obtain ⟨H, r, s0, T, L0, b0, U, ss, A, im, ⟨hC, hM, hO, hSC⟩, hF, hT, hU, hA, hN, hD⟩ := id hW
    exact (b_spans hI hC hM hO).two hI hW
  obtain ⟨V, m1, m2, e1, e2, w2⟩ := hT
  have q1 := kX10_spans hS e1 hI
  have q2 := kX11_spans hS e2 q1.2
  refine ko_aload_n hK (q := 800) rfl (by decide) (E.dc dL_law_799) rfl ?_
  refine lw_arg E (q := 806) (kk := 1) 1 dL_law_800 dL_law_801 dL_law_803 dL_law_804 dL_law_805 (by decide) (hin _ (by decide)) rfl rfl rfl ?_
  refine lw_arg E (q := 812) (kk := 2) 2 dL_law_806 dL_law_807 dL_law_809 dL_law_810 dL_law_811 (by decide) (hin _ (by decide)) rfl rfl rfl ?_
  refine ko_virt hK (q := 815) mX10_spans [.int (xs (i + 1).toNatClampNeg), .int (xs (i + 2).toNatClampNeg)] (E.dc dL_law_812) rfl rfl (Nat.le_of_ble_eq_true rfl) mo_X10_spans (E.ml mv_L_83) (Or.inl ⟨10, 17, _, h_0 hS, rfl, rfl⟩) (Call_mono (by decide) q1.1) ?_
  refine ko_aload_n hK (q := 816) rfl (by decide) (E.dc dL_law_815) rfl ?_
  refine lw_arg E (q := 822) (kk := 1) 1 dL_law_816 dL_law_817 dL_law_819 dL_law_820 dL_law_821 (by decide) (hin _ (by decide)) rfl rfl rfl ?_
  refine lw_arg E (q := 828) (kk := 2) 2 dL_law_822 dL_law_823 dL_law_825 dL_law_826 dL_law_827 (by decide) (hin _ (by decide)) rfl rfl rfl ?_
  refine ko_virt hK (q := 831) mX11_spans [.int (xs (i + 1).toNatClampNeg), .int (xs (i + 2).toNatClampNeg)] (E.dc dL_law_828) rfl rfl (Nat.le_of_ble_eq_true rfl) mo_X11_spans (E.ml mv_L_86) (Or.inl ⟨11, 37, _, h_138 hS, rfl, rfl⟩) (Call_mono (by decide) q2.1) ?_
  exact ko_icT hK (q := 1829) (op := .eq) rfl (E.dc dL_law_831) rfl (next _ q2.2 w2)
set_option maxRecDepth 20000 in
theorem cs_16 (E : LE G p l s m args meth c μ L xs) (hS : ShOK S) (hI : Inv mm) (hW : WI mm) (hin : ∀ k : Int32, 0 ≤ k ∧ k < 6 → inb (i + k) L) (next : ∀ mm', Inv mm' → WI mm' → LW G p l e s m args below meth c Q (1829, [(4, .int i), (0, .ref 3000000), (1, .ref 0), (2, .ref 138), (3, .ref 158)], [], S, mm')) : LW G p l e s m args below meth c Q (836, [(4, .int i), (0, .ref 3000000), (1, .ref 0), (2, .ref 138), (3, .ref 158)], [], S, mm) := by
  have hK := LW.cl (l := l) (e := e) (below := below) (Q := Q) E.1
  by_cases hz : (xs (i + 4).toNatClampNeg) = 0
  · have hT : Two (fX10_span (xs (i + 1).toNatClampNeg) (xs (i + 2).toNatClampNeg) (xs (i + 3).toNatClampNeg) (0 : Int32)) (fX11_span (xs (i + 1).toNatClampNeg) (xs (i + 2).toNatClampNeg) (xs (i + 3).toNatClampNeg) (0 : Int32)) mm := by
      obtain ⟨H, r, s0, T, L0, b0, U, ss, A, im, ⟨hC, hM, hO, hSC⟩, hF, hT, hU, hA, hN, hD⟩ := id hW
      exact (b_span hI hC hM hO).two hI hW
    obtain ⟨V, m1, m2, e1, e2, w2⟩ := hT
    have q1 := kX10_span hS e1 hI
    have q2 := kX11_span hS e2 q1.2
    refine ko_aload_n hK (q := 837) rfl (by decide) (E.dc dL_law_836) rfl ?_
    refine lw_arg E (q := 843) (kk := 1) 1 dL_law_837 dL_law_838 dL_law_840 dL_law_841 dL_law_842 (by decide) (hin _ (by decide)) rfl rfl rfl ?_
    refine lw_arg E (q := 849) (kk := 2) 2 dL_law_843 dL_law_844 dL_law_846 dL_law_847 dL_law_848 (by decide) (hin _ (by decide)) rfl rfl rfl ?_
    refine lw_arg E (q := 855) (kk := 3) 3 dL_law_849 dL_law_850 dL_law_852 dL_law_853 dL_law_854 (by decide) (hin _ (by decide)) rfl rfl rfl ?_
    refine lw_arg E (q := 861) (kk := 4) 4 dL_law_855 dL_law_856 dL_law_858 dL_law_859 dL_law_860 (by decide) (hin _ (by decide)) rfl rfl rfl ?_
    refine ko_ifT hK (q := 868) (op := .eq) hz (E.dc dL_law_861) rfl ?_
    refine ko_iconst hK (q := 869) ic_0 (E.dc dL_law_868) rfl ?_
    refine ko_virt hK (q := 872) mX10_span [.int (xs (i + 1).toNatClampNeg), .int (xs (i + 2).toNatClampNeg), .int (xs (i + 3).toNatClampNeg), .int (0 : Int32)] (E.dc dL_law_869) rfl rfl (Nat.le_of_ble_eq_true rfl) mo_X10_span (E.ml mv_L_87) (Or.inl ⟨10, 17, _, h_0 hS, rfl, rfl⟩) (Call_mono (by decide) q1.1) ?_
    refine ko_aload_n hK (q := 873) rfl (by decide) (E.dc dL_law_872) rfl ?_
    refine lw_arg E (q := 879) (kk := 1) 1 dL_law_873 dL_law_874 dL_law_876 dL_law_877 dL_law_878 (by decide) (hin _ (by decide)) rfl rfl rfl ?_
    refine lw_arg E (q := 885) (kk := 2) 2 dL_law_879 dL_law_880 dL_law_882 dL_law_883 dL_law_884 (by decide) (hin _ (by decide)) rfl rfl rfl ?_
    refine lw_arg E (q := 891) (kk := 3) 3 dL_law_885 dL_law_886 dL_law_888 dL_law_889 dL_law_890 (by decide) (hin _ (by decide)) rfl rfl rfl ?_
    refine lw_arg E (q := 897) (kk := 4) 4 dL_law_891 dL_law_892 dL_law_894 dL_law_895 dL_law_896 (by decide) (hin _ (by decide)) rfl rfl rfl ?_
    refine ko_ifT hK (q := 904) (op := .eq) hz (E.dc dL_law_897) rfl ?_
    refine ko_iconst hK (q := 905) ic_0 (E.dc dL_law_904) rfl ?_
    refine ko_virt hK (q := 908) mX11_span [.int (xs (i + 1).toNatClampNeg), .int (xs (i + 2).toNatClampNeg), .int (xs (i + 3).toNatClampNeg), .int (0 : Int32)] (E.dc dL_law_905) rfl rfl (Nat.le_of_ble_eq_true rfl) mo_X11_span (E.ml mv_L_91) (Or.inl ⟨11, 37, _, h_138 hS, rfl, rfl⟩) (Call_mono (by decide) q2.1) ?_
    exact ko_icT hK (q := 1829) (op := .eq) rfl (E.dc dL_law_908) rfl (next _ q2.2 w2)
  · have hT : Two (fX10_span (xs (i + 1).toNatClampNeg) (xs (i + 2).toNatClampNeg) (xs (i + 3).toNatClampNeg) (1 : Int32)) (fX11_span (xs (i + 1).toNatClampNeg) (xs (i + 2).toNatClampNeg) (xs (i + 3).toNatClampNeg) (1 : Int32)) mm := by
      obtain ⟨H, r, s0, T, L0, b0, U, ss, A, im, ⟨hC, hM, hO, hSC⟩, hF, hT, hU, hA, hN, hD⟩ := id hW
      exact (b_span hI hC hM hO).two hI hW
    obtain ⟨V, m1, m2, e1, e2, w2⟩ := hT
    have q1 := kX10_span hS e1 hI
    have q2 := kX11_span hS e2 q1.2
    refine ko_aload_n hK (q := 837) rfl (by decide) (E.dc dL_law_836) rfl ?_
    refine lw_arg E (q := 843) (kk := 1) 1 dL_law_837 dL_law_838 dL_law_840 dL_law_841 dL_law_842 (by decide) (hin _ (by decide)) rfl rfl rfl ?_
    refine lw_arg E (q := 849) (kk := 2) 2 dL_law_843 dL_law_844 dL_law_846 dL_law_847 dL_law_848 (by decide) (hin _ (by decide)) rfl rfl rfl ?_
    refine lw_arg E (q := 855) (kk := 3) 3 dL_law_849 dL_law_850 dL_law_852 dL_law_853 dL_law_854 (by decide) (hin _ (by decide)) rfl rfl rfl ?_
    refine lw_arg E (q := 861) (kk := 4) 4 dL_law_855 dL_law_856 dL_law_858 dL_law_859 dL_law_860 (by decide) (hin _ (by decide)) rfl rfl rfl ?_
    refine ko_ifF hK (q := 864) (op := .eq) 868 hz (E.dc dL_law_861) rfl rfl ?_
    refine ko_iconst hK (q := 865) ic_1 (E.dc dL_law_864) rfl ?_
    refine ko_goto hK (q := 869) (E.dc dL_law_865) rfl ?_
    refine ko_virt hK (q := 872) mX10_span [.int (xs (i + 1).toNatClampNeg), .int (xs (i + 2).toNatClampNeg), .int (xs (i + 3).toNatClampNeg), .int (1 : Int32)] (E.dc dL_law_869) rfl rfl (Nat.le_of_ble_eq_true rfl) mo_X10_span (E.ml mv_L_87) (Or.inl ⟨10, 17, _, h_0 hS, rfl, rfl⟩) (Call_mono (by decide) q1.1) ?_
    refine ko_aload_n hK (q := 873) rfl (by decide) (E.dc dL_law_872) rfl ?_
    refine lw_arg E (q := 879) (kk := 1) 1 dL_law_873 dL_law_874 dL_law_876 dL_law_877 dL_law_878 (by decide) (hin _ (by decide)) rfl rfl rfl ?_
    refine lw_arg E (q := 885) (kk := 2) 2 dL_law_879 dL_law_880 dL_law_882 dL_law_883 dL_law_884 (by decide) (hin _ (by decide)) rfl rfl rfl ?_
    refine lw_arg E (q := 891) (kk := 3) 3 dL_law_885 dL_law_886 dL_law_888 dL_law_889 dL_law_890 (by decide) (hin _ (by decide)) rfl rfl rfl ?_
    refine lw_arg E (q := 897) (kk := 4) 4 dL_law_891 dL_law_892 dL_law_894 dL_law_895 dL_law_896 (by decide) (hin _ (by decide)) rfl rfl rfl ?_
    refine ko_ifF hK (q := 900) (op := .eq) 904 hz (E.dc dL_law_897) rfl rfl ?_
    refine ko_iconst hK (q := 901) ic_1 (E.dc dL_law_900) rfl ?_
    refine ko_goto hK (q := 905) (E.dc dL_law_901) rfl ?_
    refine ko_virt hK (q := 908) mX11_span [.int (xs (i + 1).toNatClampNeg), .int (xs (i + 2).toNatClampNeg), .int (xs (i + 3).toNatClampNeg), .int (1 : Int32)] (E.dc dL_law_905) rfl rfl (Nat.le_of_ble_eq_true rfl) mo_X11_span (E.ml mv_L_91) (Or.inl ⟨11, 37, _, h_138 hS, rfl, rfl⟩) (Call_mono (by decide) q2.1) ?_
    exact ko_icT hK (q := 1829) (op := .eq) rfl (E.dc dL_law_908) rfl (next _ q2.2 w2)
set_option maxRecDepth 20000 in
theorem cs_17 (E : LE G p l s m args meth c μ L xs) (hS : ShOK S) (hI : Inv mm) (hW : WI mm) (hin : ∀ k : Int32, 0 ≤ k ∧ k < 6 → inb (i + k) L) (next : ∀ mm', Inv mm' → WI mm' → LW G p l e s m args below meth c Q (1829, [(4, .int i), (0, .ref 3000000), (1, .ref 0), (2, .ref 138), (3, .ref 158)], [], S, mm')) : LW G p l e s m args below meth c Q (913, [(4, .int i), (0, .ref 3000000), (1, .ref 0), (2, .ref 138), (3, .ref 158)], [], S, mm) := by
  have hK := LW.cl (l := l) (e := e) (below := below) (Q := Q) E.1
  have hT : Two (fX10_says (xs (i + 1).toNatClampNeg) (xs (i + 2).toNatClampNeg)) (fX11_says (xs (i + 1).toNatClampNeg) (xs (i + 2).toNatClampNeg)) mm := by
    obtain ⟨H, r, s0, T, L0, b0, U, ss, A, im, ⟨hC, hM, hO, hSC⟩, hF, hT, hU, hA, hN, hD⟩ := id hW
    exact (b_says hI hC hM hO).two hI hW
  obtain ⟨V, m1, m2, e1, e2, w2⟩ := hT
  have q1 := kX10_says hS e1 hI
  have q2 := kX11_says hS e2 q1.2
  refine ko_aload_n hK (q := 914) rfl (by decide) (E.dc dL_law_913) rfl ?_
  refine lw_arg E (q := 920) (kk := 1) 1 dL_law_914 dL_law_915 dL_law_917 dL_law_918 dL_law_919 (by decide) (hin _ (by decide)) rfl rfl rfl ?_
  refine lw_arg E (q := 926) (kk := 2) 2 dL_law_920 dL_law_921 dL_law_923 dL_law_924 dL_law_925 (by decide) (hin _ (by decide)) rfl rfl rfl ?_
  refine ko_virt hK (q := 929) mX10_says [.int (xs (i + 1).toNatClampNeg), .int (xs (i + 2).toNatClampNeg)] (E.dc dL_law_926) rfl rfl (Nat.le_of_ble_eq_true rfl) mo_X10_says (E.ml mv_L_92) (Or.inl ⟨10, 17, _, h_0 hS, rfl, rfl⟩) (Call_mono (by decide) q1.1) ?_
  refine ko_aload_n hK (q := 930) rfl (by decide) (E.dc dL_law_929) rfl ?_
  refine lw_arg E (q := 936) (kk := 1) 1 dL_law_930 dL_law_931 dL_law_933 dL_law_934 dL_law_935 (by decide) (hin _ (by decide)) rfl rfl rfl ?_
  refine lw_arg E (q := 942) (kk := 2) 2 dL_law_936 dL_law_937 dL_law_939 dL_law_940 dL_law_941 (by decide) (hin _ (by decide)) rfl rfl rfl ?_
  refine ko_virt hK (q := 945) mX11_says [.int (xs (i + 1).toNatClampNeg), .int (xs (i + 2).toNatClampNeg)] (E.dc dL_law_942) rfl rfl (Nat.le_of_ble_eq_true rfl) mo_X11_says (E.ml mv_L_95) (Or.inl ⟨11, 37, _, h_138 hS, rfl, rfl⟩) (Call_mono (by decide) q2.1) ?_
  exact ko_icT hK (q := 1829) (op := .eq) rfl (E.dc dL_law_945) rfl (next _ q2.2 w2)
set_option maxRecDepth 20000 in
theorem cs_18 (E : LE G p l s m args meth c μ L xs) (hS : ShOK S) (hI : Inv mm) (hW : WI mm) (hin : ∀ k : Int32, 0 ≤ k ∧ k < 6 → inb (i + k) L) (next : ∀ mm', Inv mm' → WI mm' → LW G p l e s m args below meth c Q (1829, [(4, .int i), (0, .ref 3000000), (1, .ref 0), (2, .ref 138), (3, .ref 158)], [], S, mm')) : LW G p l e s m args below meth c Q (950, [(4, .int i), (0, .ref 3000000), (1, .ref 0), (2, .ref 138), (3, .ref 158)], [], S, mm) := by
  have hK := LW.cl (l := l) (e := e) (below := below) (Q := Q) E.1
  have hT : Two (fX10_kept (xs (i + 1).toNatClampNeg)) (fX11_kept (xs (i + 1).toNatClampNeg)) mm := by
    obtain ⟨H, r, s0, T, L0, b0, U, ss, A, im, ⟨hC, hM, hO, hSC⟩, hF, hT, hU, hA, hN, hD⟩ := id hW
    exact (b_kept hI hC hM hO).two hI hW
  obtain ⟨V, m1, m2, e1, e2, w2⟩ := hT
  have q1 := kX10_kept hS e1 hI
  have q2 := kX11_kept hS e2 q1.2
  refine ko_aload_n hK (q := 951) rfl (by decide) (E.dc dL_law_950) rfl ?_
  refine lw_arg E (q := 957) (kk := 1) 1 dL_law_951 dL_law_952 dL_law_954 dL_law_955 dL_law_956 (by decide) (hin _ (by decide)) rfl rfl rfl ?_
  refine ko_virt hK (q := 960) mX10_kept [.int (xs (i + 1).toNatClampNeg)] (E.dc dL_law_957) rfl rfl (Nat.le_of_ble_eq_true rfl) mo_X10_kept (E.ml mv_L_96) (Or.inl ⟨10, 17, _, h_0 hS, rfl, rfl⟩) (Call_mono (by decide) q1.1) ?_
  refine ko_aload_n hK (q := 961) rfl (by decide) (E.dc dL_law_960) rfl ?_
  refine lw_arg E (q := 967) (kk := 1) 1 dL_law_961 dL_law_962 dL_law_964 dL_law_965 dL_law_966 (by decide) (hin _ (by decide)) rfl rfl rfl ?_
  refine ko_virt hK (q := 970) mX11_kept [.int (xs (i + 1).toNatClampNeg)] (E.dc dL_law_967) rfl rfl (Nat.le_of_ble_eq_true rfl) mo_X11_kept (E.ml mv_L_99) (Or.inl ⟨11, 37, _, h_138 hS, rfl, rfl⟩) (Call_mono (by decide) q2.1) ?_
  exact ko_icT hK (q := 1829) (op := .eq) rfl (E.dc dL_law_970) rfl (next _ q2.2 w2)
set_option maxRecDepth 20000 in
theorem cs_19 (E : LE G p l s m args meth c μ L xs) (hS : ShOK S) (hI : Inv mm) (hW : WI mm) (hin : ∀ k : Int32, 0 ≤ k ∧ k < 6 → inb (i + k) L) (next : ∀ mm', Inv mm' → WI mm' → LW G p l e s m args below meth c Q (1829, [(4, .int i), (0, .ref 3000000), (1, .ref 0), (2, .ref 138), (3, .ref 158)], [], S, mm')) : LW G p l e s m args below meth c Q (975, [(4, .int i), (0, .ref 3000000), (1, .ref 0), (2, .ref 138), (3, .ref 158)], [], S, mm) := by
  have hK := LW.cl (l := l) (e := e) (below := below) (Q := Q) E.1
  have hT : Two fX10_allKept fX11_allKept mm := by
    obtain ⟨H, r, s0, T, L0, b0, U, ss, A, im, ⟨hC, hM, hO, hSC⟩, hF, hT, hU, hA, hN, hD⟩ := id hW
    exact (b_allKept hI hC hM hO).two hI hW
  obtain ⟨V, m1, m2, e1, e2, w2⟩ := hT
  have q1 := kX10_allKept hS e1 hI
  have q2 := kX11_allKept hS e2 q1.2
  refine ko_aload_n hK (q := 976) rfl (by decide) (E.dc dL_law_975) rfl ?_
  refine ko_virt hK (q := 979) mX10_allKept [] (E.dc dL_law_976) rfl rfl (Nat.le_of_ble_eq_true rfl) mo_X10_allKept (E.ml mv_L_100) (Or.inl ⟨10, 17, _, h_0 hS, rfl, rfl⟩) (Call_mono (by decide) q1.1) ?_
  refine ko_aload_n hK (q := 980) rfl (by decide) (E.dc dL_law_979) rfl ?_
  refine ko_virt hK (q := 983) mX11_allKept [] (E.dc dL_law_980) rfl rfl (Nat.le_of_ble_eq_true rfl) mo_X11_allKept (E.ml mv_L_103) (Or.inl ⟨11, 37, _, h_138 hS, rfl, rfl⟩) (Call_mono (by decide) q2.1) ?_
  exact ko_icT hK (q := 1829) (op := .eq) rfl (E.dc dL_law_983) rfl (next _ q2.2 w2)
set_option maxRecDepth 20000 in
theorem cs_20 (E : LE G p l s m args meth c μ L xs) (hS : ShOK S) (hI : Inv mm) (hW : WI mm) (hin : ∀ k : Int32, 0 ≤ k ∧ k < 6 → inb (i + k) L) (next : ∀ mm', Inv mm' → WI mm' → LW G p l e s m args below meth c Q (1829, [(4, .int i), (0, .ref 3000000), (1, .ref 0), (2, .ref 138), (3, .ref 158)], [], S, mm')) : LW G p l e s m args below meth c Q (988, [(4, .int i), (0, .ref 3000000), (1, .ref 0), (2, .ref 138), (3, .ref 158)], [], S, mm) := by
  have hK := LW.cl (l := l) (e := e) (below := below) (Q := Q) E.1
  have hT : Two fX10_mistakes fX11_mistakes mm := by
    obtain ⟨H, r, s0, T, L0, b0, U, ss, A, im, ⟨hC, hM, hO, hSC⟩, hF, hT, hU, hA, hN, hD⟩ := id hW
    exact (b_mistakes hI hC hM hO).two hI hW
  obtain ⟨V, m1, m2, e1, e2, w2⟩ := hT
  have q1 := kX10_mistakes hS e1 hI
  have q2 := kX11_mistakes hS e2 q1.2
  refine ko_aload_n hK (q := 989) rfl (by decide) (E.dc dL_law_988) rfl ?_
  refine ko_virt hK (q := 992) mX10_mistakes [] (E.dc dL_law_989) rfl rfl (Nat.le_of_ble_eq_true rfl) mo_X10_mistakes (E.ml mv_L_104) (Or.inl ⟨10, 17, _, h_0 hS, rfl, rfl⟩) (Call_mono (by decide) q1.1) ?_
  refine ko_aload_n hK (q := 993) rfl (by decide) (E.dc dL_law_992) rfl ?_
  refine ko_virt hK (q := 996) mX11_mistakes [] (E.dc dL_law_993) rfl rfl (Nat.le_of_ble_eq_true rfl) mo_X11_mistakes (E.ml mv_L_107) (Or.inl ⟨11, 37, _, h_138 hS, rfl, rfl⟩) (Call_mono (by decide) q2.1) ?_
  exact ko_icT hK (q := 1829) (op := .eq) rfl (E.dc dL_law_996) rfl (next _ q2.2 w2)
set_option maxRecDepth 20000 in
theorem cs_21 (E : LE G p l s m args meth c μ L xs) (hS : ShOK S) (hI : Inv mm) (hW : WI mm) (hin : ∀ k : Int32, 0 ≤ k ∧ k < 6 → inb (i + k) L) (next : ∀ mm', Inv mm' → WI mm' → LW G p l e s m args below meth c Q (1829, [(4, .int i), (0, .ref 3000000), (1, .ref 0), (2, .ref 138), (3, .ref 158)], [], S, mm')) : LW G p l e s m args below meth c Q (1001, [(4, .int i), (0, .ref 3000000), (1, .ref 0), (2, .ref 138), (3, .ref 158)], [], S, mm) := by
  have hK := LW.cl (l := l) (e := e) (below := below) (Q := Q) E.1
  have hT : Two (fX10_mistake (xs (i + 1).toNatClampNeg)) (fX11_mistake (xs (i + 1).toNatClampNeg)) mm := by
    obtain ⟨H, r, s0, T, L0, b0, U, ss, A, im, ⟨hC, hM, hO, hSC⟩, hF, hT, hU, hA, hN, hD⟩ := id hW
    exact (b_mistake hI hC hM hO).two hI hW
  obtain ⟨V, m1, m2, e1, e2, w2⟩ := hT
  have q1 := kX10_mistake hS e1 hI
  have q2 := kX11_mistake hS e2 q1.2
  refine ko_aload_n hK (q := 1002) rfl (by decide) (E.dc dL_law_1001) rfl ?_
  refine lw_arg E (q := 1008) (kk := 1) 1 dL_law_1002 dL_law_1003 dL_law_1005 dL_law_1006 dL_law_1007 (by decide) (hin _ (by decide)) rfl rfl rfl ?_
  refine ko_virt hK (q := 1011) mX10_mistake [.int (xs (i + 1).toNatClampNeg)] (E.dc dL_law_1008) rfl rfl (Nat.le_of_ble_eq_true rfl) mo_X10_mistake (E.ml mv_L_108) (Or.inl ⟨10, 17, _, h_0 hS, rfl, rfl⟩) (Call_mono (by decide) q1.1) ?_
  refine ko_aload_n hK (q := 1012) rfl (by decide) (E.dc dL_law_1011) rfl ?_
  refine lw_arg E (q := 1018) (kk := 1) 1 dL_law_1012 dL_law_1013 dL_law_1015 dL_law_1016 dL_law_1017 (by decide) (hin _ (by decide)) rfl rfl rfl ?_
  refine ko_virt hK (q := 1021) mX11_mistake [.int (xs (i + 1).toNatClampNeg)] (E.dc dL_law_1018) rfl rfl (Nat.le_of_ble_eq_true rfl) mo_X11_mistake (E.ml mv_L_111) (Or.inl ⟨11, 37, _, h_138 hS, rfl, rfl⟩) (Call_mono (by decide) q2.1) ?_
  exact ko_icT hK (q := 1829) (op := .eq) rfl (E.dc dL_law_1021) rfl (next _ q2.2 w2)
set_option maxRecDepth 20000 in
theorem cs_22 (E : LE G p l s m args meth c μ L xs) (hS : ShOK S) (hI : Inv mm) (hW : WI mm) (hin : ∀ k : Int32, 0 ≤ k ∧ k < 6 → inb (i + k) L) (next : ∀ mm', Inv mm' → WI mm' → LW G p l e s m args below meth c Q (1829, [(4, .int i), (0, .ref 3000000), (1, .ref 0), (2, .ref 138), (3, .ref 158)], [], S, mm')) : LW G p l e s m args below meth c Q (1026, [(4, .int i), (0, .ref 3000000), (1, .ref 0), (2, .ref 138), (3, .ref 158)], [], S, mm) := by
  have hK := LW.cl (l := l) (e := e) (below := below) (Q := Q) E.1
  have hT : Two (fX10_mend (xs (i + 1).toNatClampNeg)) (fX11_mend (xs (i + 1).toNatClampNeg)) mm := by
    obtain ⟨H, r, s0, T, L0, b0, U, ss, A, im, ⟨hC, hM, hO, hSC⟩, hF, hT, hU, hA, hN, hD⟩ := id hW
    exact (b_mend hI hC hM hO).two hI hW
  obtain ⟨V, m1, m2, e1, e2, w2⟩ := hT
  have q1 := kX10_mend hS e1 hI
  have q2 := kX11_mend hS e2 q1.2
  refine ko_aload_n hK (q := 1027) rfl (by decide) (E.dc dL_law_1026) rfl ?_
  refine lw_arg E (q := 1033) (kk := 1) 1 dL_law_1027 dL_law_1028 dL_law_1030 dL_law_1031 dL_law_1032 (by decide) (hin _ (by decide)) rfl rfl rfl ?_
  refine ko_virt hK (q := 1036) mX10_mend [.int (xs (i + 1).toNatClampNeg)] (E.dc dL_law_1033) rfl rfl (Nat.le_of_ble_eq_true rfl) mo_X10_mend (E.ml mv_L_112) (Or.inl ⟨10, 17, _, h_0 hS, rfl, rfl⟩) (Call_mono (by decide) q1.1) ?_
  refine ko_aload_n hK (q := 1037) rfl (by decide) (E.dc dL_law_1036) rfl ?_
  refine lw_arg E (q := 1043) (kk := 1) 1 dL_law_1037 dL_law_1038 dL_law_1040 dL_law_1041 dL_law_1042 (by decide) (hin _ (by decide)) rfl rfl rfl ?_
  refine ko_virt hK (q := 1046) mX11_mend [.int (xs (i + 1).toNatClampNeg)] (E.dc dL_law_1043) rfl rfl (Nat.le_of_ble_eq_true rfl) mo_X11_mend (E.ml mv_L_115) (Or.inl ⟨11, 37, _, h_138 hS, rfl, rfl⟩) (Call_mono (by decide) q2.1) ?_
  exact ko_icT hK (q := 1829) (op := .eq) rfl (E.dc dL_law_1046) rfl (next _ q2.2 w2)
set_option maxRecDepth 20000 in
theorem cs_23 (E : LE G p l s m args meth c μ L xs) (hS : ShOK S) (hI : Inv mm) (hW : WI mm) (hin : ∀ k : Int32, 0 ≤ k ∧ k < 6 → inb (i + k) L) (next : ∀ mm', Inv mm' → WI mm' → LW G p l e s m args below meth c Q (1829, [(4, .int i), (0, .ref 3000000), (1, .ref 0), (2, .ref 138), (3, .ref 158)], [], S, mm')) : LW G p l e s m args below meth c Q (1051, [(4, .int i), (0, .ref 3000000), (1, .ref 0), (2, .ref 138), (3, .ref 158)], [], S, mm) := by
  have hK := LW.cl (l := l) (e := e) (below := below) (Q := Q) E.1
  have hT : Two (fX10_mendAt (xs (i + 1).toNatClampNeg)) (fX11_mendAt (xs (i + 1).toNatClampNeg)) mm := by
    obtain ⟨H, r, s0, T, L0, b0, U, ss, A, im, ⟨hC, hM, hO, hSC⟩, hF, hT, hU, hA, hN, hD⟩ := id hW
    exact (b_mendAt hI hC hM hO).two hI hW
  obtain ⟨V, m1, m2, e1, e2, w2⟩ := hT
  have q1 := kX10_mendAt hS e1 hI
  have q2 := kX11_mendAt hS e2 q1.2
  refine ko_aload_n hK (q := 1052) rfl (by decide) (E.dc dL_law_1051) rfl ?_
  refine lw_arg E (q := 1058) (kk := 1) 1 dL_law_1052 dL_law_1053 dL_law_1055 dL_law_1056 dL_law_1057 (by decide) (hin _ (by decide)) rfl rfl rfl ?_
  refine ko_virt hK (q := 1061) mX10_mendAt [.int (xs (i + 1).toNatClampNeg)] (E.dc dL_law_1058) rfl rfl (Nat.le_of_ble_eq_true rfl) mo_X10_mendAt (E.ml mv_L_116) (Or.inl ⟨10, 17, _, h_0 hS, rfl, rfl⟩) (Call_mono (by decide) q1.1) ?_
  refine ko_aload_n hK (q := 1062) rfl (by decide) (E.dc dL_law_1061) rfl ?_
  refine lw_arg E (q := 1068) (kk := 1) 1 dL_law_1062 dL_law_1063 dL_law_1065 dL_law_1066 dL_law_1067 (by decide) (hin _ (by decide)) rfl rfl rfl ?_
  refine ko_virt hK (q := 1071) mX11_mendAt [.int (xs (i + 1).toNatClampNeg)] (E.dc dL_law_1068) rfl rfl (Nat.le_of_ble_eq_true rfl) mo_X11_mendAt (E.ml mv_L_119) (Or.inl ⟨11, 37, _, h_138 hS, rfl, rfl⟩) (Call_mono (by decide) q2.1) ?_
  exact ko_icT hK (q := 1829) (op := .eq) rfl (E.dc dL_law_1071) rfl (next _ q2.2 w2)
end CASES
