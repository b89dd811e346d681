section LC
variable {G : sj_G} {q : lG} {p : Program} {e : Env} {s : State} {m : MethodId} {below : List Frame} {meth : Method} {c : Code} {b Ls i r : Nat} {xs : Nat → Int32} {Z : State → Prop} {cells slots : Nat} {f : Nat → Int64} {g : Nat → UInt64} {σ : sj_S}
set_option maxRecDepth 20000 in
theorem lc_0 (hx : lcx G q s b Ls xs) (hi : i + 6 ≤ Ls) (hI : zInv σ r) (hr : r + 200 < 2 ^ 27) (hc1 : cells + 1 ≤ 601024) (hc2 : slots + 6 ≤ 7293034) (k : ∀ σ2 f2 g2, zInx r σ2 → lJ G q p e s m below meth c b Z (cells + 1) (slots + 6) f2 g2 3361 (lL G q b i .null .null) σ2 []) : lJ G q p e s m below meth c b Z cells slots f g 284 (lL G q b i .null .null) σ [] := by
  obtain ⟨ok, hq, hT, hX, hb, hA, ha, hd, hLs⟩ := id hx
  obtain ⟨Rc, σ1, rm, σ2, h1, h2, h3, h4⟩ := p_lesson ok hI.1 (xs (i + 1)) (xs (i + 2)) (xs (i + 3)) (xs (i + 4)) (decide (¬ xs (i + 5) = 0))
  have hK0 : ∀ x, x < s.heap.size → ¬ sj_A G x → ¬ s.heap.size ≤ x := fun x h _ h2 => by omega
  have hA' : ∀ x, lA G q x → s.heap.size ≤ x := fun x h => h.elim (hA x) (fun h => h.elim (fun h => h ▸ ha) (fun h => h ▸ hd))
  have hbA : ¬ s.heap.size ≤ b := by omega
  unfold lJ
  refine tj_aload_n (x := sj_ad G 0) dL_law_284 (i := 1) rfl rfl ?_
  refine tj_scr hX hb hbA hLs (k := 1) rfl rfl (by omega) dL_law_285 dL_law_286 dL_law_288 (by decide) dL_law_289 dL_law_290 ?_
  refine tj_scr hX hb hbA hLs (k := 2) rfl rfl (by omega) dL_law_291 dL_law_292 dL_law_294 (by decide) dL_law_295 dL_law_296 ?_
  refine tj_scr hX hb hbA hLs (k := 3) rfl rfl (by omega) dL_law_297 dL_law_298 dL_law_300 (by decide) dL_law_301 dL_law_302 ?_
  refine tj_scr hX hb hbA hLs (k := 4) rfl rfl (by omega) dL_law_303 dL_law_304 dL_law_306 (by decide) dL_law_307 dL_law_308 ?_
  refine tj_scr hX hb hbA hLs (k := 5) rfl rfl (by omega) dL_law_309 dL_law_310 dL_law_312 (by decide) dL_law_313 dL_law_314 ?_
  refine tj_bool dL_law_315 dL_law_318 dL_law_319 dL_law_322 (by decide) (by decide) ?_
  refine tj_aload_n (x := q.1) dL_law_323 (i := 3) rfl rfl ?_
  refine lj_callS (M' := me_L_lesson) (As := [.ref (sj_ad G 0), .int (xs (i + 1)), .int (xs (i + 2)), .int (xs (i + 3)), .int (xs (i + 4)), .int (if decide (¬ xs (i + 5) = 0) then nI 1 else nI 0), .ref q.1]) (rest := []) hK0 hA' hT dL_law_324 gL_law_L_lesson rfl hd_L_lesson (Nat.le_of_ble_eq_true rfl) ⟨(Nat.le_of_ble_eq_true rfl), (Nat.le_of_ble_eq_true rfl)⟩ ⟨hc1, hc2⟩ (lm_lesson ok hq h1 (z_err h3)) ?_
  refine tj_istore dL_law_327 (by decide) ?_
  refine tj_aload_n (x := sj_ad G 56) dL_law_329 (i := 2) rfl rfl ?_
  refine tj_scr hX hb hbA hLs (k := 1) rfl rfl (by omega) dL_law_330 dL_law_331 dL_law_333 (by decide) dL_law_334 dL_law_335 ?_
  refine tj_scr hX hb hbA hLs (k := 2) rfl rfl (by omega) dL_law_336 dL_law_337 dL_law_339 (by decide) dL_law_340 dL_law_341 ?_
  refine tj_scr hX hb hbA hLs (k := 3) rfl rfl (by omega) dL_law_342 dL_law_343 dL_law_345 (by decide) dL_law_346 dL_law_347 ?_
  refine tj_scr hX hb hbA hLs (k := 4) rfl rfl (by omega) dL_law_348 dL_law_349 dL_law_351 (by decide) dL_law_352 dL_law_353 ?_
  refine tj_scr hX hb hbA hLs (k := 5) rfl rfl (by omega) dL_law_354 dL_law_355 dL_law_357 (by decide) dL_law_358 dL_law_359 ?_
  refine tj_bool dL_law_360 dL_law_363 dL_law_364 dL_law_367 (by decide) (by decide) ?_
  refine tj_callVi (M' := me_X12_lesson) (b := 56) (As := [.int (xs (i + 1)), .int (xs (i + 2)), .int (xs (i + 3)), .int (xs (i + 4)), .int (if decide (¬ xs (i + 5) = 0) then nI 1 else nI 0)]) (rest := []) hK0 hA (lok_E hq) dL_law_368 gL_law_X12_lesson rfl hd_X12_lesson (by decide +kernel) (by decide +kernel) rfl (Nat.le_of_ble_eq_true rfl) ⟨(Nat.le_of_ble_eq_true rfl), (Nat.le_of_ble_eq_true rfl)⟩ rfl ⟨hc1, hc2⟩ h2 ?_
  refine tj_istore dL_law_371 (by decide) ?_
  exact lj_tail hx h3 (fun _ => zcd_lt) hc1 hc2 dL_law_373 dL_law_374 dL_law_377 dL_law_379 dL_law_384 dL_law_386 dL_law_389 dL_law_390 dL_law_391 dL_law_392 dL_law_394 dL_law_395 dL_law_396 dL_law_401 (by decide) (k σ2 _ _ (zInv_I2 hI h4))
set_option maxRecDepth 20000 in
theorem lc_1 (hx : lcx G q s b Ls xs) (hi : i + 6 ≤ Ls) (hI : zInv σ r) (hr : r + 200 < 2 ^ 27) (hc1 : cells + 1 ≤ 601024) (hc2 : slots + 6 ≤ 7293034) (k : ∀ σ2 f2 g2, zInx r σ2 → lJ G q p e s m below meth c b Z (cells + 1) (slots + 6) f2 g2 3361 (lL G q b i .null .null) σ2 []) : lJ G q p e s m below meth c b Z cells slots f g 404 (lL G q b i .null .null) σ [] := by
  obtain ⟨ok, hq, hT, hX, hb, hA, ha, hd, hLs⟩ := id hx
  obtain ⟨Rc, σ1, rm, σ2, h1, h2, h3, h4⟩ := p_dropLesson ok hI.1 (xs (i + 1))
  have hK0 : ∀ x, x < s.heap.size → ¬ sj_A G x → ¬ s.heap.size ≤ x := fun x h _ h2 => by omega
  have hA' : ∀ x, lA G q x → s.heap.size ≤ x := fun x h => h.elim (hA x) (fun h => h.elim (fun h => h ▸ ha) (fun h => h ▸ hd))
  have hbA : ¬ s.heap.size ≤ b := by omega
  unfold lJ
  refine tj_aload_n (x := sj_ad G 0) dL_law_404 (i := 1) rfl rfl ?_
  refine tj_scr hX hb hbA hLs (k := 1) rfl rfl (by omega) dL_law_405 dL_law_406 dL_law_408 (by decide) dL_law_409 dL_law_410 ?_
  refine tj_aload_n (x := q.1) dL_law_411 (i := 3) rfl rfl ?_
  refine lj_callS (M' := me_L_dropLesson) (As := [.ref (sj_ad G 0), .int (xs (i + 1)), .ref q.1]) (rest := []) hK0 hA' hT dL_law_412 gL_law_L_dropLesson rfl hd_L_dropLesson (Nat.le_of_ble_eq_true rfl) ⟨(Nat.le_of_ble_eq_true rfl), (Nat.le_of_ble_eq_true rfl)⟩ ⟨hc1, hc2⟩ (lm_dropLesson ok hq h1 (z_err h3)) ?_
  refine tj_istore dL_law_415 (by decide) ?_
  refine tj_aload_n (x := sj_ad G 56) dL_law_417 (i := 2) rfl rfl ?_
  refine tj_scr hX hb hbA hLs (k := 1) rfl rfl (by omega) dL_law_418 dL_law_419 dL_law_421 (by decide) dL_law_422 dL_law_423 ?_
  refine tj_callVi (M' := me_X12_dropLesson) (b := 56) (As := [.int (xs (i + 1))]) (rest := []) hK0 hA (lok_E hq) dL_law_424 gL_law_X12_dropLesson rfl hd_X12_dropLesson (by decide +kernel) (by decide +kernel) rfl (Nat.le_of_ble_eq_true rfl) ⟨(Nat.le_of_ble_eq_true rfl), (Nat.le_of_ble_eq_true rfl)⟩ rfl ⟨hc1, hc2⟩ h2 ?_
  refine tj_istore dL_law_427 (by decide) ?_
  exact lj_tail hx h3 (fun _ => zcd_lt) hc1 hc2 dL_law_429 dL_law_430 dL_law_433 dL_law_435 dL_law_440 dL_law_442 dL_law_445 dL_law_446 dL_law_447 dL_law_448 dL_law_450 dL_law_451 dL_law_452 dL_law_457 (by decide) (k σ2 _ _ (zInv_I2 hI h4))
set_option maxRecDepth 20000 in
theorem lc_2 (hx : lcx G q s b Ls xs) (hi : i + 6 ≤ Ls) (hI : zInv σ r) (hr : r + 200 < 2 ^ 27) (hc1 : cells + 1 ≤ 601024) (hc2 : slots + 6 ≤ 7293034) (k : ∀ σ2 f2 g2, zInx r σ2 → lJ G q p e s m below meth c b Z (cells + 1) (slots + 6) f2 g2 3361 (lL G q b i .null .null) σ2 []) : lJ G q p e s m below meth c b Z cells slots f g 460 (lL G q b i .null .null) σ [] := by
  obtain ⟨ok, hq, hT, hX, hb, hA, ha, hd, hLs⟩ := id hx
  obtain ⟨Rc, σ1, rm, σ2, h1, h2, h3, h4⟩ := p_lessonOf ok hI.1 (xs (i + 1)) (xs (i + 2))
  have hK0 : ∀ x, x < s.heap.size → ¬ sj_A G x → ¬ s.heap.size ≤ x := fun x h _ h2 => by omega
  have hA' : ∀ x, lA G q x → s.heap.size ≤ x := fun x h => h.elim (hA x) (fun h => h.elim (fun h => h ▸ ha) (fun h => h ▸ hd))
  have hbA : ¬ s.heap.size ≤ b := by omega
  unfold lJ
  refine tj_aload_n (x := sj_ad G 0) dL_law_460 (i := 1) rfl rfl ?_
  refine tj_scr hX hb hbA hLs (k := 1) rfl rfl (by omega) dL_law_461 dL_law_462 dL_law_464 (by decide) dL_law_465 dL_law_466 ?_
  refine tj_scr hX hb hbA hLs (k := 2) rfl rfl (by omega) dL_law_467 dL_law_468 dL_law_470 (by decide) dL_law_471 dL_law_472 ?_
  refine tj_aload_n (x := q.1) dL_law_473 (i := 3) rfl rfl ?_
  refine lj_callS (M' := me_L_lessonOf) (As := [.ref (sj_ad G 0), .int (xs (i + 1)), .int (xs (i + 2)), .ref q.1]) (rest := []) hK0 hA' hT dL_law_474 gL_law_L_lessonOf rfl hd_L_lessonOf (Nat.le_of_ble_eq_true rfl) ⟨(Nat.le_of_ble_eq_true rfl), (Nat.le_of_ble_eq_true rfl)⟩ ⟨hc1, hc2⟩ (lm_lessonOf ok hq h1 (z_err h3)) ?_
  refine tj_istore dL_law_477 (by decide) ?_
  refine tj_aload_n (x := sj_ad G 56) dL_law_479 (i := 2) rfl rfl ?_
  refine tj_scr hX hb hbA hLs (k := 1) rfl rfl (by omega) dL_law_480 dL_law_481 dL_law_483 (by decide) dL_law_484 dL_law_485 ?_
  refine tj_scr hX hb hbA hLs (k := 2) rfl rfl (by omega) dL_law_486 dL_law_487 dL_law_489 (by decide) dL_law_490 dL_law_491 ?_
  refine tj_callVi (M' := me_X12_lessonOf) (b := 56) (As := [.int (xs (i + 1)), .int (xs (i + 2))]) (rest := []) hK0 hA (lok_E hq) dL_law_492 gL_law_X12_lessonOf rfl hd_X12_lessonOf (by decide +kernel) (by decide +kernel) rfl (Nat.le_of_ble_eq_true rfl) ⟨(Nat.le_of_ble_eq_true rfl), (Nat.le_of_ble_eq_true rfl)⟩ rfl ⟨hc1, hc2⟩ h2 ?_
  refine tj_istore dL_law_495 (by decide) ?_
  exact lj_tail hx h3 (fun _ => zcd_lt) hc1 hc2 dL_law_497 dL_law_498 dL_law_501 dL_law_503 dL_law_508 dL_law_510 dL_law_513 dL_law_514 dL_law_515 dL_law_516 dL_law_518 dL_law_519 dL_law_520 dL_law_525 (by decide) (k σ2 _ _ (zInv_I2 hI h4))
set_option maxRecDepth 20000 in
theorem lc_3 (hx : lcx G q s b Ls xs) (hi : i + 6 ≤ Ls) (hI : zInv σ r) (hr : r + 200 < 2 ^ 27) (hc1 : cells + 1 ≤ 601024) (hc2 : slots + 6 ≤ 7293034) (k : ∀ σ2 f2 g2, zInx r σ2 → lJ G q p e s m below meth c b Z (cells + 1) (slots + 6) f2 g2 3361 (lL G q b i .null .null) σ2 []) : lJ G q p e s m below meth c b Z cells slots f g 528 (lL G q b i .null .null) σ [] := by
  obtain ⟨ok, hq, hT, hX, hb, hA, ha, hd, hLs⟩ := id hx
  obtain ⟨Rc, σ1, rm, σ2, h1, h2, h3, h4⟩ := p_lessons ok hI.1
  obtain rfl := z_ok h3
  have hK0 : ∀ x, x < s.heap.size → ¬ sj_A G x → ¬ s.heap.size ≤ x := fun x h _ h2 => by omega
  have hcs : cells ≤ 601024 ∧ slots ≤ 7293034 := ⟨by omega, by omega⟩
  unfold lJ at k ⊢
  refine tj_aload_n (x := sj_ad G 0) dL_law_528 (i := 1) rfl rfl ?_
  refine tj_callVi (M' := me_X11_lessons) (b := 0) (As := []) (rest := []) hK0 hA (lok_E hq) dL_law_529 gL_law_X11_lessons rfl hd_X11_lessons (by decide +kernel) (by decide +kernel) rfl (Nat.le_of_ble_eq_true rfl) ⟨(Nat.le_of_ble_eq_true rfl), (Nat.le_of_ble_eq_true rfl)⟩ rfl hcs h1 ?_
  refine tj_aload_n (x := sj_ad G 56) dL_law_532 (i := 2) rfl rfl ?_
  refine tj_callVi (M' := me_X12_lessons) (b := 56) (As := []) (rest := [.int rm]) hK0 hA (lok_E hq) dL_law_533 gL_law_X12_lessons rfl hd_X12_lessons (by decide +kernel) (by decide +kernel) rfl (Nat.le_of_ble_eq_true rfl) ⟨(Nat.le_of_ble_eq_true rfl), (Nat.le_of_ble_eq_true rfl)⟩ rfl hcs h2 ?_
  refine tj_icmp_eq (tgt := 3361) dL_law_536 (by decide) (fun _ => ?_) (fun h => absurd rfl h)
  exact tj_widen (Nat.le_add_right _ _) (Nat.le_add_right _ _) (k σ2 f g (zInv_I2 hI h4))
set_option maxRecDepth 20000 in
theorem lc_4 (hx : lcx G q s b Ls xs) (hi : i + 6 ≤ Ls) (hI : zInv σ r) (hr : r + 200 < 2 ^ 27) (hc1 : cells + 1 ≤ 601024) (hc2 : slots + 6 ≤ 7293034) (k : ∀ σ2 f2 g2, zInx r σ2 → lJ G q p e s m below meth c b Z (cells + 1) (slots + 6) f2 g2 3361 (lL G q b i .null .null) σ2 []) : lJ G q p e s m below meth c b Z cells slots f g 541 (lL G q b i .null .null) σ [] := by
  obtain ⟨ok, hq, hT, hX, hb, hA, ha, hd, hLs⟩ := id hx
  obtain ⟨Rc, σ1, rm, σ2, h1, h2, h3, h4⟩ := p_setSubjects ok hI.1 (xs (i + 1)) (xs (i + 2))
  have hK0 : ∀ x, x < s.heap.size → ¬ sj_A G x → ¬ s.heap.size ≤ x := fun x h _ h2 => by omega
  have hA' : ∀ x, lA G q x → s.heap.size ≤ x := fun x h => h.elim (hA x) (fun h => h.elim (fun h => h ▸ ha) (fun h => h ▸ hd))
  have hbA : ¬ s.heap.size ≤ b := by omega
  unfold lJ
  refine tj_aload_n (x := sj_ad G 0) dL_law_541 (i := 1) rfl rfl ?_
  refine tj_scr hX hb hbA hLs (k := 1) rfl rfl (by omega) dL_law_542 dL_law_543 dL_law_545 (by decide) dL_law_546 dL_law_547 ?_
  refine tj_scr hX hb hbA hLs (k := 2) rfl rfl (by omega) dL_law_548 dL_law_549 dL_law_551 (by decide) dL_law_552 dL_law_553 ?_
  refine tj_aload_n (x := q.1) dL_law_554 (i := 3) rfl rfl ?_
  refine lj_callS (M' := me_L_setSubjects) (As := [.ref (sj_ad G 0), .int (xs (i + 1)), .int (xs (i + 2)), .ref q.1]) (rest := []) hK0 hA' hT dL_law_555 gL_law_L_setSubjects rfl hd_L_setSubjects (Nat.le_of_ble_eq_true rfl) ⟨(Nat.le_of_ble_eq_true rfl), (Nat.le_of_ble_eq_true rfl)⟩ ⟨hc1, hc2⟩ (lm_setSubjects ok hq h1 (z_err h3)) ?_
  refine tj_istore dL_law_558 (by decide) ?_
  refine tj_aload_n (x := sj_ad G 56) dL_law_560 (i := 2) rfl rfl ?_
  refine tj_scr hX hb hbA hLs (k := 1) rfl rfl (by omega) dL_law_561 dL_law_562 dL_law_564 (by decide) dL_law_565 dL_law_566 ?_
  refine tj_scr hX hb hbA hLs (k := 2) rfl rfl (by omega) dL_law_567 dL_law_568 dL_law_570 (by decide) dL_law_571 dL_law_572 ?_
  refine tj_callVi (M' := me_X12_setSubjects) (b := 56) (As := [.int (xs (i + 1)), .int (xs (i + 2))]) (rest := []) hK0 hA (lok_E hq) dL_law_573 gL_law_X12_setSubjects rfl hd_X12_setSubjects (by decide +kernel) (by decide +kernel) rfl (Nat.le_of_ble_eq_true rfl) ⟨(Nat.le_of_ble_eq_true rfl), (Nat.le_of_ble_eq_true rfl)⟩ rfl ⟨hc1, hc2⟩ h2 ?_
  refine tj_istore dL_law_576 (by decide) ?_
  exact lj_tail hx h3 (fun _ => zcd_lt) hc1 hc2 dL_law_578 dL_law_579 dL_law_582 dL_law_584 dL_law_589 dL_law_591 dL_law_594 dL_law_595 dL_law_596 dL_law_597 dL_law_599 dL_law_600 dL_law_601 dL_law_606 (by decide) (k σ2 _ _ (zInv_I2 hI h4))
set_option maxRecDepth 20000 in
theorem lc_5 (hx : lcx G q s b Ls xs) (hi : i + 6 ≤ Ls) (hI : zInv σ r) (hr : r + 200 < 2 ^ 27) (hc1 : cells + 1 ≤ 601024) (hc2 : slots + 6 ≤ 7293034) (k : ∀ σ2 f2 g2, zInx r σ2 → lJ G q p e s m below meth c b Z (cells + 1) (slots + 6) f2 g2 3361 (lL G q b i .null .null) σ2 []) : lJ G q p e s m below meth c b Z cells slots f g 609 (lL G q b i .null .null) σ [] := by
  obtain ⟨ok, hq, hT, hX, hb, hA, ha, hd, hLs⟩ := id hx
  obtain ⟨Rc, σ1, rm, σ2, h1, h2, h3, h4⟩ := p_setRooms ok hI.1 (xs (i + 1)) (xs (i + 2))
  have hK0 : ∀ x, x < s.heap.size → ¬ sj_A G x → ¬ s.heap.size ≤ x := fun x h _ h2 => by omega
  have hA' : ∀ x, lA G q x → s.heap.size ≤ x := fun x h => h.elim (hA x) (fun h => h.elim (fun h => h ▸ ha) (fun h => h ▸ hd))
  have hbA : ¬ s.heap.size ≤ b := by omega
  unfold lJ
  refine tj_aload_n (x := sj_ad G 0) dL_law_609 (i := 1) rfl rfl ?_
  refine tj_scr hX hb hbA hLs (k := 1) rfl rfl (by omega) dL_law_610 dL_law_611 dL_law_613 (by decide) dL_law_614 dL_law_615 ?_
  refine tj_scr hX hb hbA hLs (k := 2) rfl rfl (by omega) dL_law_616 dL_law_617 dL_law_619 (by decide) dL_law_620 dL_law_621 ?_
  refine tj_aload_n (x := q.1) dL_law_622 (i := 3) rfl rfl ?_
  refine lj_callS (M' := me_L_setRooms) (As := [.ref (sj_ad G 0), .int (xs (i + 1)), .int (xs (i + 2)), .ref q.1]) (rest := []) hK0 hA' hT dL_law_623 gL_law_L_setRooms rfl hd_L_setRooms (Nat.le_of_ble_eq_true rfl) ⟨(Nat.le_of_ble_eq_true rfl), (Nat.le_of_ble_eq_true rfl)⟩ ⟨hc1, hc2⟩ (lm_setRooms ok hq h1 (z_err h3)) ?_
  refine tj_istore dL_law_626 (by decide) ?_
  refine tj_aload_n (x := sj_ad G 56) dL_law_628 (i := 2) rfl rfl ?_
  refine tj_scr hX hb hbA hLs (k := 1) rfl rfl (by omega) dL_law_629 dL_law_630 dL_law_632 (by decide) dL_law_633 dL_law_634 ?_
  refine tj_scr hX hb hbA hLs (k := 2) rfl rfl (by omega) dL_law_635 dL_law_636 dL_law_638 (by decide) dL_law_639 dL_law_640 ?_
  refine tj_callVi (M' := me_X12_setRooms) (b := 56) (As := [.int (xs (i + 1)), .int (xs (i + 2))]) (rest := []) hK0 hA (lok_E hq) dL_law_641 gL_law_X12_setRooms rfl hd_X12_setRooms (by decide +kernel) (by decide +kernel) rfl (Nat.le_of_ble_eq_true rfl) ⟨(Nat.le_of_ble_eq_true rfl), (Nat.le_of_ble_eq_true rfl)⟩ rfl ⟨hc1, hc2⟩ h2 ?_
  refine tj_istore dL_law_644 (by decide) ?_
  exact lj_tail hx h3 (fun _ => zcd_lt) hc1 hc2 dL_law_646 dL_law_647 dL_law_650 dL_law_652 dL_law_657 dL_law_659 dL_law_662 dL_law_663 dL_law_664 dL_law_665 dL_law_667 dL_law_668 dL_law_669 dL_law_674 (by decide) (k σ2 _ _ (zInv_I2 hI h4))
set_option maxRecDepth 20000 in
theorem lc_6 (hx : lcx G q s b Ls xs) (hi : i + 6 ≤ Ls) (hI : zInv σ r) (hr : r + 200 < 2 ^ 27) (hc1 : cells + 1 ≤ 601024) (hc2 : slots + 6 ≤ 7293034) (k : ∀ σ2 f2 g2, zInx r σ2 → lJ G q p e s m below meth c b Z (cells + 1) (slots + 6) f2 g2 3361 (lL G q b i .null .null) σ2 []) : lJ G q p e s m below meth c b Z cells slots f g 677 (lL G q b i .null .null) σ [] := by
  obtain ⟨ok, hq, hT, hX, hb, hA, ha, hd, hLs⟩ := id hx
  obtain ⟨Rc, σ1, rm, σ2, h1, h2, h3, h4⟩ := p_wish ok hI.1 (xs (i + 1)) (xs (i + 2)) (xs (i + 3)) (xs (i + 4))
  have hK0 : ∀ x, x < s.heap.size → ¬ sj_A G x → ¬ s.heap.size ≤ x := fun x h _ h2 => by omega
  have hA' : ∀ x, lA G q x → s.heap.size ≤ x := fun x h => h.elim (hA x) (fun h => h.elim (fun h => h ▸ ha) (fun h => h ▸ hd))
  have hbA : ¬ s.heap.size ≤ b := by omega
  unfold lJ
  refine tj_aload_n (x := sj_ad G 0) dL_law_677 (i := 1) rfl rfl ?_
  refine tj_scr hX hb hbA hLs (k := 1) rfl rfl (by omega) dL_law_678 dL_law_679 dL_law_681 (by decide) dL_law_682 dL_law_683 ?_
  refine tj_scr hX hb hbA hLs (k := 2) rfl rfl (by omega) dL_law_684 dL_law_685 dL_law_687 (by decide) dL_law_688 dL_law_689 ?_
  refine tj_scr hX hb hbA hLs (k := 3) rfl rfl (by omega) dL_law_690 dL_law_691 dL_law_693 (by decide) dL_law_694 dL_law_695 ?_
  refine tj_scr hX hb hbA hLs (k := 4) rfl rfl (by omega) dL_law_696 dL_law_697 dL_law_699 (by decide) dL_law_700 dL_law_701 ?_
  refine tj_aload_n (x := q.1) dL_law_702 (i := 3) rfl rfl ?_
  refine lj_callS (M' := me_L_wish) (As := [.ref (sj_ad G 0), .int (xs (i + 1)), .int (xs (i + 2)), .int (xs (i + 3)), .int (xs (i + 4)), .ref q.1]) (rest := []) hK0 hA' hT dL_law_703 gL_law_L_wish rfl hd_L_wish (Nat.le_of_ble_eq_true rfl) ⟨(Nat.le_of_ble_eq_true rfl), (Nat.le_of_ble_eq_true rfl)⟩ ⟨hc1, hc2⟩ (lm_wish ok hq h1 (z_err h3)) ?_
  refine tj_istore dL_law_706 (by decide) ?_
  refine tj_aload_n (x := sj_ad G 56) dL_law_708 (i := 2) rfl rfl ?_
  refine tj_scr hX hb hbA hLs (k := 1) rfl rfl (by omega) dL_law_709 dL_law_710 dL_law_712 (by decide) dL_law_713 dL_law_714 ?_
  refine tj_scr hX hb hbA hLs (k := 2) rfl rfl (by omega) dL_law_715 dL_law_716 dL_law_718 (by decide) dL_law_719 dL_law_720 ?_
  refine tj_scr hX hb hbA hLs (k := 3) rfl rfl (by omega) dL_law_721 dL_law_722 dL_law_724 (by decide) dL_law_725 dL_law_726 ?_
  refine tj_scr hX hb hbA hLs (k := 4) rfl rfl (by omega) dL_law_727 dL_law_728 dL_law_730 (by decide) dL_law_731 dL_law_732 ?_
  refine tj_callVi (M' := me_X12_wish) (b := 56) (As := [.int (xs (i + 1)), .int (xs (i + 2)), .int (xs (i + 3)), .int (xs (i + 4))]) (rest := []) hK0 hA (lok_E hq) dL_law_733 gL_law_X12_wish rfl hd_X12_wish (by decide +kernel) (by decide +kernel) rfl (Nat.le_of_ble_eq_true rfl) ⟨(Nat.le_of_ble_eq_true rfl), (Nat.le_of_ble_eq_true rfl)⟩ rfl ⟨hc1, hc2⟩ h2 ?_
  refine tj_istore dL_law_736 (by decide) ?_
  exact lj_tail hx h3 (fun _ => zcd_lt) hc1 hc2 dL_law_738 dL_law_739 dL_law_742 dL_law_744 dL_law_749 dL_law_751 dL_law_754 dL_law_755 dL_law_756 dL_law_757 dL_law_759 dL_law_760 dL_law_761 dL_law_766 (by decide) (k σ2 _ _ (zInv_I2 hI h4))
set_option maxRecDepth 20000 in
theorem lc_7 (hx : lcx G q s b Ls xs) (hi : i + 6 ≤ Ls) (hI : zInv σ r) (hr : r + 200 < 2 ^ 27) (hc1 : cells + 1 ≤ 601024) (hc2 : slots + 6 ≤ 7293034) (k : ∀ σ2 f2 g2, zInx r σ2 → lJ G q p e s m below meth c b Z (cells + 1) (slots + 6) f2 g2 3361 (lL G q b i .null .null) σ2 []) : lJ G q p e s m below meth c b Z cells slots f g 769 (lL G q b i .null .null) σ [] := by
  obtain ⟨ok, hq, hT, hX, hb, hA, ha, hd, hLs⟩ := id hx
  obtain ⟨Rc, σ1, rm, σ2, h1, h2, h3, h4⟩ := p_dropWish ok hI.1 (xs (i + 1))
  have hK0 : ∀ x, x < s.heap.size → ¬ sj_A G x → ¬ s.heap.size ≤ x := fun x h _ h2 => by omega
  have hA' : ∀ x, lA G q x → s.heap.size ≤ x := fun x h => h.elim (hA x) (fun h => h.elim (fun h => h ▸ ha) (fun h => h ▸ hd))
  have hbA : ¬ s.heap.size ≤ b := by omega
  unfold lJ
  refine tj_aload_n (x := sj_ad G 0) dL_law_769 (i := 1) rfl rfl ?_
  refine tj_scr hX hb hbA hLs (k := 1) rfl rfl (by omega) dL_law_770 dL_law_771 dL_law_773 (by decide) dL_law_774 dL_law_775 ?_
  refine tj_aload_n (x := q.1) dL_law_776 (i := 3) rfl rfl ?_
  refine lj_callS (M' := me_L_dropWish) (As := [.ref (sj_ad G 0), .int (xs (i + 1)), .ref q.1]) (rest := []) hK0 hA' hT dL_law_777 gL_law_L_dropWish rfl hd_L_dropWish (Nat.le_of_ble_eq_true rfl) ⟨(Nat.le_of_ble_eq_true rfl), (Nat.le_of_ble_eq_true rfl)⟩ ⟨hc1, hc2⟩ (lm_dropWish ok hq h1 (z_err h3)) ?_
  refine tj_istore dL_law_780 (by decide) ?_
  refine tj_aload_n (x := sj_ad G 56) dL_law_782 (i := 2) rfl rfl ?_
  refine tj_scr hX hb hbA hLs (k := 1) rfl rfl (by omega) dL_law_783 dL_law_784 dL_law_786 (by decide) dL_law_787 dL_law_788 ?_
  refine tj_callVi (M' := me_X12_dropWish) (b := 56) (As := [.int (xs (i + 1))]) (rest := []) hK0 hA (lok_E hq) dL_law_789 gL_law_X12_dropWish rfl hd_X12_dropWish (by decide +kernel) (by decide +kernel) rfl (Nat.le_of_ble_eq_true rfl) ⟨(Nat.le_of_ble_eq_true rfl), (Nat.le_of_ble_eq_true rfl)⟩ rfl ⟨hc1, hc2⟩ h2 ?_
  refine tj_istore dL_law_792 (by decide) ?_
  exact lj_tail hx h3 (fun _ => zcd_lt) hc1 hc2 dL_law_794 dL_law_795 dL_law_798 dL_law_800 dL_law_805 dL_law_807 dL_law_810 dL_law_811 dL_law_812 dL_law_813 dL_law_815 dL_law_816 dL_law_817 dL_law_822 (by decide) (k σ2 _ _ (zInv_I2 hI h4))
set_option maxRecDepth 20000 in
theorem lc_8 (hx : lcx G q s b Ls xs) (hi : i + 6 ≤ Ls) (hI : zInv σ r) (hr : r + 200 < 2 ^ 27) (hc1 : cells + 1 ≤ 601024) (hc2 : slots + 6 ≤ 7293034) (k : ∀ σ2 f2 g2, zInx r σ2 → lJ G q p e s m below meth c b Z (cells + 1) (slots + 6) f2 g2 3361 (lL G q b i .null .null) σ2 []) : lJ G q p e s m below meth c b Z cells slots f g 825 (lL G q b i .null .null) σ [] := by
  obtain ⟨ok, hq, hT, hX, hb, hA, ha, hd, hLs⟩ := id hx
  obtain ⟨Rc, σ1, rm, σ2, h1, h2, h3, h4⟩ := p_wishOf ok hI.1 (xs (i + 1)) (xs (i + 2))
  have hK0 : ∀ x, x < s.heap.size → ¬ sj_A G x → ¬ s.heap.size ≤ x := fun x h _ h2 => by omega
  have hA' : ∀ x, lA G q x → s.heap.size ≤ x := fun x h => h.elim (hA x) (fun h => h.elim (fun h => h ▸ ha) (fun h => h ▸ hd))
  have hbA : ¬ s.heap.size ≤ b := by omega
  unfold lJ
  refine tj_aload_n (x := sj_ad G 0) dL_law_825 (i := 1) rfl rfl ?_
  refine tj_scr hX hb hbA hLs (k := 1) rfl rfl (by omega) dL_law_826 dL_law_827 dL_law_829 (by decide) dL_law_830 dL_law_831 ?_
  refine tj_scr hX hb hbA hLs (k := 2) rfl rfl (by omega) dL_law_832 dL_law_833 dL_law_835 (by decide) dL_law_836 dL_law_837 ?_
  refine tj_aload_n (x := q.1) dL_law_838 (i := 3) rfl rfl ?_
  refine lj_callS (M' := me_L_wishOf) (As := [.ref (sj_ad G 0), .int (xs (i + 1)), .int (xs (i + 2)), .ref q.1]) (rest := []) hK0 hA' hT dL_law_839 gL_law_L_wishOf rfl hd_L_wishOf (Nat.le_of_ble_eq_true rfl) ⟨(Nat.le_of_ble_eq_true rfl), (Nat.le_of_ble_eq_true rfl)⟩ ⟨hc1, hc2⟩ (lm_wishOf ok hq h1 (z_err h3)) ?_
  refine tj_istore dL_law_842 (by decide) ?_
  refine tj_aload_n (x := sj_ad G 56) dL_law_844 (i := 2) rfl rfl ?_
  refine tj_scr hX hb hbA hLs (k := 1) rfl rfl (by omega) dL_law_845 dL_law_846 dL_law_848 (by decide) dL_law_849 dL_law_850 ?_
  refine tj_scr hX hb hbA hLs (k := 2) rfl rfl (by omega) dL_law_851 dL_law_852 dL_law_854 (by decide) dL_law_855 dL_law_856 ?_
  refine tj_callVi (M' := me_X12_wishOf) (b := 56) (As := [.int (xs (i + 1)), .int (xs (i + 2))]) (rest := []) hK0 hA (lok_E hq) dL_law_857 gL_law_X12_wishOf rfl hd_X12_wishOf (by decide +kernel) (by decide +kernel) rfl (Nat.le_of_ble_eq_true rfl) ⟨(Nat.le_of_ble_eq_true rfl), (Nat.le_of_ble_eq_true rfl)⟩ rfl ⟨hc1, hc2⟩ h2 ?_
  refine tj_istore dL_law_860 (by decide) ?_
  exact lj_tail hx h3 (fun _ => zcd_lt) hc1 hc2 dL_law_862 dL_law_863 dL_law_866 dL_law_868 dL_law_873 dL_law_875 dL_law_878 dL_law_879 dL_law_880 dL_law_881 dL_law_883 dL_law_884 dL_law_885 dL_law_890 (by decide) (k σ2 _ _ (zInv_I2 hI h4))
set_option maxRecDepth 20000 in
theorem lc_9 (hx : lcx G q s b Ls xs) (hi : i + 6 ≤ Ls) (hI : zInv σ r) (hr : r + 200 < 2 ^ 27) (hc1 : cells + 1 ≤ 601024) (hc2 : slots + 6 ≤ 7293034) (k : ∀ σ2 f2 g2, zInx r σ2 → lJ G q p e s m below meth c b Z (cells + 1) (slots + 6) f2 g2 3361 (lL G q b i .null .null) σ2 []) : lJ G q p e s m below meth c b Z cells slots f g 893 (lL G q b i .null .null) σ [] := by
  obtain ⟨ok, hq, hT, hX, hb, hA, ha, hd, hLs⟩ := id hx
  obtain ⟨Rc, σ1, rm, σ2, h1, h2, h3, h4⟩ := p_wishes ok hI.1
  obtain rfl := z_ok h3
  have hK0 : ∀ x, x < s.heap.size → ¬ sj_A G x → ¬ s.heap.size ≤ x := fun x h _ h2 => by omega
  have hcs : cells ≤ 601024 ∧ slots ≤ 7293034 := ⟨by omega, by omega⟩
  unfold lJ at k ⊢
  refine tj_aload_n (x := sj_ad G 0) dL_law_893 (i := 1) rfl rfl ?_
  refine tj_callVi (M' := me_X11_wishes) (b := 0) (As := []) (rest := []) hK0 hA (lok_E hq) dL_law_894 gL_law_X11_wishes rfl hd_X11_wishes (by decide +kernel) (by decide +kernel) rfl (Nat.le_of_ble_eq_true rfl) ⟨(Nat.le_of_ble_eq_true rfl), (Nat.le_of_ble_eq_true rfl)⟩ rfl hcs h1 ?_
  refine tj_aload_n (x := sj_ad G 56) dL_law_897 (i := 2) rfl rfl ?_
  refine tj_callVi (M' := me_X12_wishes) (b := 56) (As := []) (rest := [.int rm]) hK0 hA (lok_E hq) dL_law_898 gL_law_X12_wishes rfl hd_X12_wishes (by decide +kernel) (by decide +kernel) rfl (Nat.le_of_ble_eq_true rfl) ⟨(Nat.le_of_ble_eq_true rfl), (Nat.le_of_ble_eq_true rfl)⟩ rfl hcs h2 ?_
  refine tj_icmp_eq (tgt := 3361) dL_law_901 (by decide) (fun _ => ?_) (fun h => absurd rfl h)
  exact tj_widen (Nat.le_add_right _ _) (Nat.le_add_right _ _) (k σ2 f g (zInv_I2 hI h4))
set_option maxRecDepth 20000 in
theorem lc_10 (hx : lcx G q s b Ls xs) (hi : i + 6 ≤ Ls) (hI : zInv σ r) (hr : r + 200 < 2 ^ 27) (hc1 : cells + 1 ≤ 601024) (hc2 : slots + 6 ≤ 7293034) (k : ∀ σ2 f2 g2, zInx r σ2 → lJ G q p e s m below meth c b Z (cells + 1) (slots + 6) f2 g2 3361 (lL G q b i .null .null) σ2 []) : lJ G q p e s m below meth c b Z cells slots f g 906 (lL G q b i .null .null) σ [] := by
  obtain ⟨ok, hq, hT, hX, hb, hA, ha, hd, hLs⟩ := id hx
  obtain ⟨Rc, σ1, rm, σ2, h1, h2, h3, h4⟩ := p_find ok hI.1 hr hI.2.2.2.2
  obtain rfl := z_ok h3
  have hK0 : ∀ x, x < s.heap.size → ¬ sj_A G x → ¬ s.heap.size ≤ x := fun x h _ h2 => by omega
  have hcs : cells ≤ 601024 ∧ slots ≤ 7293034 := ⟨by omega, by omega⟩
  unfold lJ at k ⊢
  refine tj_aload_n (x := sj_ad G 0) dL_law_906 (i := 1) rfl rfl ?_
  refine tj_callVi (M' := me_X11_find) (b := 0) (As := []) (rest := []) hK0 hA (lok_E hq) dL_law_907 gL_law_X11_find rfl hd_X11_find (by decide +kernel) (by decide +kernel) rfl (Nat.le_of_ble_eq_true rfl) ⟨(Nat.le_of_ble_eq_true rfl), (Nat.le_of_ble_eq_true rfl)⟩ rfl hcs h1 ?_
  refine tj_aload_n (x := sj_ad G 56) dL_law_910 (i := 2) rfl rfl ?_
  refine tj_callVi (M' := me_X12_find) (b := 56) (As := []) (rest := [.int rm]) hK0 hA (lok_E hq) dL_law_911 gL_law_X12_find rfl hd_X12_find (by decide +kernel) (by decide +kernel) rfl (Nat.le_of_ble_eq_true rfl) ⟨(Nat.le_of_ble_eq_true rfl), (Nat.le_of_ble_eq_true rfl)⟩ rfl hcs h2 ?_
  refine tj_icmp_eq (tgt := 3361) dL_law_914 (by decide) (fun _ => ?_) (fun h => absurd rfl h)
  exact tj_widen (Nat.le_add_right _ _) (Nat.le_add_right _ _) (k σ2 f g (zInv_IF hI h4))
set_option maxRecDepth 20000 in
theorem lc_11 (hx : lcx G q s b Ls xs) (hi : i + 6 ≤ Ls) (hI : zInv σ r) (hr : r + 200 < 2 ^ 27) (hc1 : cells + 1 ≤ 601024) (hc2 : slots + 6 ≤ 7293034) (k : ∀ σ2 f2 g2, zInx r σ2 → lJ G q p e s m below meth c b Z (cells + 1) (slots + 6) f2 g2 3361 (lL G q b i .null .null) σ2 []) : lJ G q p e s m below meth c b Z cells slots f g 919 (lL G q b i .null .null) σ [] := by
  obtain ⟨ok, hq, hT, hX, hb, hA, ha, hd, hLs⟩ := id hx
  obtain ⟨Rc, σ1, rm, σ2, h1, h2, h3, h4⟩ := p_proof ok hI.1
  obtain rfl := z_ok h3
  have hK0 : ∀ x, x < s.heap.size → ¬ sj_A G x → ¬ s.heap.size ≤ x := fun x h _ h2 => by omega
  have hcs : cells ≤ 601024 ∧ slots ≤ 7293034 := ⟨by omega, by omega⟩
  unfold lJ at k ⊢
  refine tj_aload_n (x := sj_ad G 0) dL_law_919 (i := 1) rfl rfl ?_
  refine tj_callVi (M' := me_X11_proof) (b := 0) (As := []) (rest := []) hK0 hA (lok_E hq) dL_law_920 gL_law_X11_proof rfl hd_X11_proof (by decide +kernel) (by decide +kernel) rfl (Nat.le_of_ble_eq_true rfl) ⟨(Nat.le_of_ble_eq_true rfl), (Nat.le_of_ble_eq_true rfl)⟩ rfl hcs h1 ?_
  refine tj_aload_n (x := sj_ad G 56) dL_law_923 (i := 2) rfl rfl ?_
  refine tj_callVi (M' := me_X12_proof) (b := 56) (As := []) (rest := [.int rm]) hK0 hA (lok_E hq) dL_law_924 gL_law_X12_proof rfl hd_X12_proof (by decide +kernel) (by decide +kernel) rfl (Nat.le_of_ble_eq_true rfl) ⟨(Nat.le_of_ble_eq_true rfl), (Nat.le_of_ble_eq_true rfl)⟩ rfl hcs h2 ?_
  refine tj_icmp_eq (tgt := 3361) dL_law_927 (by decide) (fun _ => ?_) (fun h => absurd rfl h)
  exact tj_widen (Nat.le_add_right _ _) (Nat.le_add_right _ _) (k σ2 f g (zInv_I2 hI h4))
set_option maxRecDepth 20000 in
theorem lc_12 (hx : lcx G q s b Ls xs) (hi : i + 6 ≤ Ls) (hI : zInv σ r) (hr : r + 200 < 2 ^ 27) (hc1 : cells + 1 ≤ 601024) (hc2 : slots + 6 ≤ 7293034) (k : ∀ σ2 f2 g2, zInx r σ2 → lJ G q p e s m below meth c b Z (cells + 1) (slots + 6) f2 g2 3361 (lL G q b i .null .null) σ2 []) : lJ G q p e s m below meth c b Z cells slots f g 932 (lL G q b i .null .null) σ [] := by
  obtain ⟨ok, hq, hT, hX, hb, hA, ha, hd, hLs⟩ := id hx
  obtain ⟨Rc, σ1, rm, σ2, h1, h2, h3, h4⟩ := p_proofAt ok hI.1 (xs (i + 1))
  have hK0 : ∀ x, x < s.heap.size → ¬ sj_A G x → ¬ s.heap.size ≤ x := fun x h _ h2 => by omega
  have hA' : ∀ x, lA G q x → s.heap.size ≤ x := fun x h => h.elim (hA x) (fun h => h.elim (fun h => h ▸ ha) (fun h => h ▸ hd))
  have hbA : ¬ s.heap.size ≤ b := by omega
  unfold lJ
  refine tj_aload_n (x := sj_ad G 0) dL_law_932 (i := 1) rfl rfl ?_
  refine tj_scr hX hb hbA hLs (k := 1) rfl rfl (by omega) dL_law_933 dL_law_934 dL_law_936 (by decide) dL_law_937 dL_law_938 ?_
  refine tj_aload_n (x := q.1) dL_law_939 (i := 3) rfl rfl ?_
  refine lj_callS (M' := me_L_proofAt) (As := [.ref (sj_ad G 0), .int (xs (i + 1)), .ref q.1]) (rest := []) hK0 hA' hT dL_law_940 gL_law_L_proofAt rfl hd_L_proofAt (Nat.le_of_ble_eq_true rfl) ⟨(Nat.le_of_ble_eq_true rfl), (Nat.le_of_ble_eq_true rfl)⟩ ⟨hc1, hc2⟩ (lm_proofAt ok hq h1 (z_err h3)) ?_
  refine tj_istore dL_law_943 (by decide) ?_
  refine tj_aload_n (x := sj_ad G 56) dL_law_945 (i := 2) rfl rfl ?_
  refine tj_scr hX hb hbA hLs (k := 1) rfl rfl (by omega) dL_law_946 dL_law_947 dL_law_949 (by decide) dL_law_950 dL_law_951 ?_
  refine tj_callVi (M' := me_X12_proofAt) (b := 56) (As := [.int (xs (i + 1))]) (rest := []) hK0 hA (lok_E hq) dL_law_952 gL_law_X12_proofAt rfl hd_X12_proofAt (by decide +kernel) (by decide +kernel) rfl (Nat.le_of_ble_eq_true rfl) ⟨(Nat.le_of_ble_eq_true rfl), (Nat.le_of_ble_eq_true rfl)⟩ rfl ⟨hc1, hc2⟩ h2 ?_
  refine tj_istore dL_law_955 (by decide) ?_
  exact lj_tail hx h3 (fun _ => zcd_lt) hc1 hc2 dL_law_957 dL_law_958 dL_law_961 dL_law_963 dL_law_968 dL_law_970 dL_law_973 dL_law_974 dL_law_975 dL_law_976 dL_law_978 dL_law_979 dL_law_980 dL_law_985 (by decide) (k σ2 _ _ (zInv_I2 hI h4))
set_option maxRecDepth 20000 in
theorem lc_13 (hx : lcx G q s b Ls xs) (hi : i + 6 ≤ Ls) (hI : zInv σ r) (hr : r + 200 < 2 ^ 27) (hc1 : cells + 1 ≤ 601024) (hc2 : slots + 6 ≤ 7293034) (k : ∀ σ2 f2 g2, zInx r σ2 → lJ G q p e s m below meth c b Z (cells + 1) (slots + 6) f2 g2 3361 (lL G q b i .null .null) σ2 []) : lJ G q p e s m below meth c b Z cells slots f g 988 (lL G q b i .null .null) σ [] := by
  obtain ⟨ok, hq, hT, hX, hb, hA, ha, hd, hLs⟩ := id hx
  obtain ⟨Rc, σ1, rm, σ2, h1, h2, h3, h4⟩ := p_slotOf ok hI.1 (xs (i + 1))
  have hK0 : ∀ x, x < s.heap.size → ¬ sj_A G x → ¬ s.heap.size ≤ x := fun x h _ h2 => by omega
  have hA' : ∀ x, lA G q x → s.heap.size ≤ x := fun x h => h.elim (hA x) (fun h => h.elim (fun h => h ▸ ha) (fun h => h ▸ hd))
  have hbA : ¬ s.heap.size ≤ b := by omega
  unfold lJ
  refine tj_aload_n (x := sj_ad G 0) dL_law_988 (i := 1) rfl rfl ?_
  refine tj_scr hX hb hbA hLs (k := 1) rfl rfl (by omega) dL_law_989 dL_law_990 dL_law_992 (by decide) dL_law_993 dL_law_994 ?_
  refine tj_aload_n (x := q.1) dL_law_995 (i := 3) rfl rfl ?_
  refine lj_callS (M' := me_L_slotOf) (As := [.ref (sj_ad G 0), .int (xs (i + 1)), .ref q.1]) (rest := []) hK0 hA' hT dL_law_996 gL_law_L_slotOf rfl hd_L_slotOf (Nat.le_of_ble_eq_true rfl) ⟨(Nat.le_of_ble_eq_true rfl), (Nat.le_of_ble_eq_true rfl)⟩ ⟨hc1, hc2⟩ (lm_slotOf ok hq h1 (z_err h3)) ?_
  refine tj_istore dL_law_999 (by decide) ?_
  refine tj_aload_n (x := sj_ad G 56) dL_law_1001 (i := 2) rfl rfl ?_
  refine tj_scr hX hb hbA hLs (k := 1) rfl rfl (by omega) dL_law_1002 dL_law_1003 dL_law_1005 (by decide) dL_law_1006 dL_law_1007 ?_
  refine tj_callVi (M' := me_X12_slotOf) (b := 56) (As := [.int (xs (i + 1))]) (rest := []) hK0 hA (lok_E hq) dL_law_1008 gL_law_X12_slotOf rfl hd_X12_slotOf (by decide +kernel) (by decide +kernel) rfl (Nat.le_of_ble_eq_true rfl) ⟨(Nat.le_of_ble_eq_true rfl), (Nat.le_of_ble_eq_true rfl)⟩ rfl ⟨hc1, hc2⟩ h2 ?_
  refine tj_istore dL_law_1011 (by decide) ?_
  exact lj_tail hx h3 (fun _ => zcd_lt) hc1 hc2 dL_law_1013 dL_law_1014 dL_law_1017 dL_law_1019 dL_law_1024 dL_law_1026 dL_law_1029 dL_law_1030 dL_law_1031 dL_law_1032 dL_law_1034 dL_law_1035 dL_law_1036 dL_law_1041 (by decide) (k σ2 _ _ (zInv_I2 hI h4))
set_option maxRecDepth 20000 in
theorem lc_14 (hx : lcx G q s b Ls xs) (hi : i + 6 ≤ Ls) (hI : zInv σ r) (hr : r + 200 < 2 ^ 27) (hc1 : cells + 1 ≤ 601024) (hc2 : slots + 6 ≤ 7293034) (k : ∀ σ2 f2 g2, zInx r σ2 → lJ G q p e s m below meth c b Z (cells + 1) (slots + 6) f2 g2 3361 (lL G q b i .null .null) σ2 []) : lJ G q p e s m below meth c b Z cells slots f g 1044 (lL G q b i .null .null) σ [] := by
  obtain ⟨ok, hq, hT, hX, hb, hA, ha, hd, hLs⟩ := id hx
  obtain ⟨Rc, σ1, rm, σ2, h1, h2, h3, h4⟩ := p_lessonAt ok hI.1 (decide (¬ xs (i + 1) = 0)) (xs (i + 2)) (xs (i + 3))
  have hK0 : ∀ x, x < s.heap.size → ¬ sj_A G x → ¬ s.heap.size ≤ x := fun x h _ h2 => by omega
  have hA' : ∀ x, lA G q x → s.heap.size ≤ x := fun x h => h.elim (hA x) (fun h => h.elim (fun h => h ▸ ha) (fun h => h ▸ hd))
  have hbA : ¬ s.heap.size ≤ b := by omega
  unfold lJ
  refine tj_aload_n (x := sj_ad G 0) dL_law_1044 (i := 1) rfl rfl ?_
  refine tj_scr hX hb hbA hLs (k := 1) rfl rfl (by omega) dL_law_1045 dL_law_1046 dL_law_1048 (by decide) dL_law_1049 dL_law_1050 ?_
  refine tj_bool dL_law_1051 dL_law_1054 dL_law_1055 dL_law_1058 (by decide) (by decide) ?_
  refine tj_scr hX hb hbA hLs (k := 2) rfl rfl (by omega) dL_law_1059 dL_law_1060 dL_law_1062 (by decide) dL_law_1063 dL_law_1064 ?_
  refine tj_scr hX hb hbA hLs (k := 3) rfl rfl (by omega) dL_law_1065 dL_law_1066 dL_law_1068 (by decide) dL_law_1069 dL_law_1070 ?_
  refine tj_aload_n (x := q.1) dL_law_1071 (i := 3) rfl rfl ?_
  refine lj_callS (M' := me_L_lessonAt) (As := [.ref (sj_ad G 0), .int (if decide (¬ xs (i + 1) = 0) then nI 1 else nI 0), .int (xs (i + 2)), .int (xs (i + 3)), .ref q.1]) (rest := []) hK0 hA' hT dL_law_1072 gL_law_L_lessonAt rfl hd_L_lessonAt (Nat.le_of_ble_eq_true rfl) ⟨(Nat.le_of_ble_eq_true rfl), (Nat.le_of_ble_eq_true rfl)⟩ ⟨hc1, hc2⟩ (lm_lessonAt ok hq h1 (z_err h3)) ?_
  refine tj_istore dL_law_1075 (by decide) ?_
  refine tj_aload_n (x := sj_ad G 56) dL_law_1077 (i := 2) rfl rfl ?_
  refine tj_scr hX hb hbA hLs (k := 1) rfl rfl (by omega) dL_law_1078 dL_law_1079 dL_law_1081 (by decide) dL_law_1082 dL_law_1083 ?_
  refine tj_bool dL_law_1084 dL_law_1087 dL_law_1088 dL_law_1091 (by decide) (by decide) ?_
  refine tj_scr hX hb hbA hLs (k := 2) rfl rfl (by omega) dL_law_1092 dL_law_1093 dL_law_1095 (by decide) dL_law_1096 dL_law_1097 ?_
  refine tj_scr hX hb hbA hLs (k := 3) rfl rfl (by omega) dL_law_1098 dL_law_1099 dL_law_1101 (by decide) dL_law_1102 dL_law_1103 ?_
  refine tj_callVi (M' := me_X12_lessonAt) (b := 56) (As := [.int (if decide (¬ xs (i + 1) = 0) then nI 1 else nI 0), .int (xs (i + 2)), .int (xs (i + 3))]) (rest := []) hK0 hA (lok_E hq) dL_law_1104 gL_law_X12_lessonAt rfl hd_X12_lessonAt (by decide +kernel) (by decide +kernel) rfl (Nat.le_of_ble_eq_true rfl) ⟨(Nat.le_of_ble_eq_true rfl), (Nat.le_of_ble_eq_true rfl)⟩ rfl ⟨hc1, hc2⟩ h2 ?_
  refine tj_istore dL_law_1107 (by decide) ?_
  exact lj_tail hx h3 (fun _ => zcd_lt) hc1 hc2 dL_law_1109 dL_law_1110 dL_law_1113 dL_law_1115 dL_law_1120 dL_law_1122 dL_law_1125 dL_law_1126 dL_law_1127 dL_law_1128 dL_law_1130 dL_law_1131 dL_law_1132 dL_law_1137 (by decide) (k σ2 _ _ (zInv_I2 hI h4))
set_option maxRecDepth 20000 in
theorem lc_15 (hx : lcx G q s b Ls xs) (hi : i + 6 ≤ Ls) (hI : zInv σ r) (hr : r + 200 < 2 ^ 27) (hc1 : cells + 1 ≤ 601024) (hc2 : slots + 6 ≤ 7293034) (k : ∀ σ2 f2 g2, zInx r σ2 → lJ G q p e s m below meth c b Z (cells + 1) (slots + 6) f2 g2 3361 (lL G q b i .null .null) σ2 []) : lJ G q p e s m below meth c b Z cells slots f g 1140 (lL G q b i .null .null) σ [] := by
  obtain ⟨ok, hq, hT, hX, hb, hA, ha, hd, hLs⟩ := id hx
  obtain ⟨Rc, σ1, rm, σ2, h1, h2, h3, h4⟩ := p_roomOf ok hI.1 (xs (i + 1))
  have hK0 : ∀ x, x < s.heap.size → ¬ sj_A G x → ¬ s.heap.size ≤ x := fun x h _ h2 => by omega
  have hA' : ∀ x, lA G q x → s.heap.size ≤ x := fun x h => h.elim (hA x) (fun h => h.elim (fun h => h ▸ ha) (fun h => h ▸ hd))
  have hbA : ¬ s.heap.size ≤ b := by omega
  unfold lJ
  refine tj_aload_n (x := sj_ad G 0) dL_law_1140 (i := 1) rfl rfl ?_
  refine tj_scr hX hb hbA hLs (k := 1) rfl rfl (by omega) dL_law_1141 dL_law_1142 dL_law_1144 (by decide) dL_law_1145 dL_law_1146 ?_
  refine tj_aload_n (x := q.1) dL_law_1147 (i := 3) rfl rfl ?_
  refine lj_callS (M' := me_L_roomOf) (As := [.ref (sj_ad G 0), .int (xs (i + 1)), .ref q.1]) (rest := []) hK0 hA' hT dL_law_1148 gL_law_L_roomOf rfl hd_L_roomOf (Nat.le_of_ble_eq_true rfl) ⟨(Nat.le_of_ble_eq_true rfl), (Nat.le_of_ble_eq_true rfl)⟩ ⟨hc1, hc2⟩ (lm_roomOf ok hq h1 (z_err h3)) ?_
  refine tj_istore dL_law_1151 (by decide) ?_
  refine tj_aload_n (x := sj_ad G 56) dL_law_1153 (i := 2) rfl rfl ?_
  refine tj_scr hX hb hbA hLs (k := 1) rfl rfl (by omega) dL_law_1154 dL_law_1155 dL_law_1157 (by decide) dL_law_1158 dL_law_1159 ?_
  refine tj_callVi (M' := me_X12_roomOf) (b := 56) (As := [.int (xs (i + 1))]) (rest := []) hK0 hA (lok_E hq) dL_law_1160 gL_law_X12_roomOf rfl hd_X12_roomOf (by decide +kernel) (by decide +kernel) rfl (Nat.le_of_ble_eq_true rfl) ⟨(Nat.le_of_ble_eq_true rfl), (Nat.le_of_ble_eq_true rfl)⟩ rfl ⟨hc1, hc2⟩ h2 ?_
  refine tj_istore dL_law_1163 (by decide) ?_
  exact lj_tail hx h3 (fun _ => zcd_lt) hc1 hc2 dL_law_1165 dL_law_1166 dL_law_1169 dL_law_1171 dL_law_1176 dL_law_1178 dL_law_1181 dL_law_1182 dL_law_1183 dL_law_1184 dL_law_1186 dL_law_1187 dL_law_1188 dL_law_1193 (by decide) (k σ2 _ _ (zInv_I2 hI h4))
set_option maxRecDepth 20000 in
theorem lc_16 (hx : lcx G q s b Ls xs) (hi : i + 6 ≤ Ls) (hI : zInv σ r) (hr : r + 200 < 2 ^ 27) (hc1 : cells + 1 ≤ 601024) (hc2 : slots + 6 ≤ 7293034) (k : ∀ σ2 f2 g2, zInx r σ2 → lJ G q p e s m below meth c b Z (cells + 1) (slots + 6) f2 g2 3361 (lL G q b i .null .null) σ2 []) : lJ G q p e s m below meth c b Z cells slots f g 1196 (lL G q b i .null .null) σ [] := by
  obtain ⟨ok, hq, hT, hX, hb, hA, ha, hd, hLs⟩ := id hx
  obtain ⟨Rc, σ1, rm, σ2, h1, h2, h3, h4⟩ := p_choices ok hI.1 (xs (i + 1))
  have hK0 : ∀ x, x < s.heap.size → ¬ sj_A G x → ¬ s.heap.size ≤ x := fun x h _ h2 => by omega
  have hA' : ∀ x, lA G q x → s.heap.size ≤ x := fun x h => h.elim (hA x) (fun h => h.elim (fun h => h ▸ ha) (fun h => h ▸ hd))
  have hbA : ¬ s.heap.size ≤ b := by omega
  unfold lJ
  refine tj_aload_n (x := sj_ad G 0) dL_law_1196 (i := 1) rfl rfl ?_
  refine tj_scr hX hb hbA hLs (k := 1) rfl rfl (by omega) dL_law_1197 dL_law_1198 dL_law_1200 (by decide) dL_law_1201 dL_law_1202 ?_
  refine tj_aload_n (x := q.1) dL_law_1203 (i := 3) rfl rfl ?_
  refine lj_callS (M' := me_L_choices) (As := [.ref (sj_ad G 0), .int (xs (i + 1)), .ref q.1]) (rest := []) hK0 hA' hT dL_law_1204 gL_law_L_choices rfl hd_L_choices (Nat.le_of_ble_eq_true rfl) ⟨(Nat.le_of_ble_eq_true rfl), (Nat.le_of_ble_eq_true rfl)⟩ ⟨hc1, hc2⟩ (lm_choices ok hq h1 (z_err h3)) ?_
  refine tj_istore dL_law_1207 (by decide) ?_
  refine tj_aload_n (x := sj_ad G 56) dL_law_1209 (i := 2) rfl rfl ?_
  refine tj_scr hX hb hbA hLs (k := 1) rfl rfl (by omega) dL_law_1210 dL_law_1211 dL_law_1213 (by decide) dL_law_1214 dL_law_1215 ?_
  refine tj_callVi (M' := me_X12_choices) (b := 56) (As := [.int (xs (i + 1))]) (rest := []) hK0 hA (lok_E hq) dL_law_1216 gL_law_X12_choices rfl hd_X12_choices (by decide +kernel) (by decide +kernel) rfl (Nat.le_of_ble_eq_true rfl) ⟨(Nat.le_of_ble_eq_true rfl), (Nat.le_of_ble_eq_true rfl)⟩ rfl ⟨hc1, hc2⟩ h2 ?_
  refine tj_istore dL_law_1219 (by decide) ?_
  exact lj_tail hx h3 (fun _ => zcd_lt) hc1 hc2 dL_law_1221 dL_law_1222 dL_law_1225 dL_law_1227 dL_law_1232 dL_law_1234 dL_law_1237 dL_law_1238 dL_law_1239 dL_law_1240 dL_law_1242 dL_law_1243 dL_law_1244 dL_law_1249 (by decide) (k σ2 _ _ (zInv_I2 hI h4))
set_option maxRecDepth 20000 in
theorem lc_17 (hx : lcx G q s b Ls xs) (hi : i + 6 ≤ Ls) (hI : zInv σ r) (hr : r + 200 < 2 ^ 27) (hc1 : cells + 1 ≤ 601024) (hc2 : slots + 6 ≤ 7293034) (k : ∀ σ2 f2 g2, zInx r σ2 → lJ G q p e s m below meth c b Z (cells + 1) (slots + 6) f2 g2 3361 (lL G q b i .null .null) σ2 []) : lJ G q p e s m below meth c b Z cells slots f g 1252 (lL G q b i .null .null) σ [] := by
  obtain ⟨ok, hq, hT, hX, hb, hA, ha, hd, hLs⟩ := id hx
  obtain ⟨Rc, σ1, rm, σ2, h1, h2, h3, h4⟩ := p_move ok hI.1 (xs (i + 1)) (xs (i + 2))
  have hK0 : ∀ x, x < s.heap.size → ¬ sj_A G x → ¬ s.heap.size ≤ x := fun x h _ h2 => by omega
  have hA' : ∀ x, lA G q x → s.heap.size ≤ x := fun x h => h.elim (hA x) (fun h => h.elim (fun h => h ▸ ha) (fun h => h ▸ hd))
  have hbA : ¬ s.heap.size ≤ b := by omega
  unfold lJ
  refine tj_aload_n (x := sj_ad G 0) dL_law_1252 (i := 1) rfl rfl ?_
  refine tj_scr hX hb hbA hLs (k := 1) rfl rfl (by omega) dL_law_1253 dL_law_1254 dL_law_1256 (by decide) dL_law_1257 dL_law_1258 ?_
  refine tj_scr hX hb hbA hLs (k := 2) rfl rfl (by omega) dL_law_1259 dL_law_1260 dL_law_1262 (by decide) dL_law_1263 dL_law_1264 ?_
  refine tj_aload_n (x := q.1) dL_law_1265 (i := 3) rfl rfl ?_
  refine lj_callS (M' := me_L_move) (As := [.ref (sj_ad G 0), .int (xs (i + 1)), .int (xs (i + 2)), .ref q.1]) (rest := []) hK0 hA' hT dL_law_1266 gL_law_L_move rfl hd_L_move (Nat.le_of_ble_eq_true rfl) ⟨(Nat.le_of_ble_eq_true rfl), (Nat.le_of_ble_eq_true rfl)⟩ ⟨hc1, hc2⟩ (lm_move ok hq h1 (z_err h3)) ?_
  refine tj_istore dL_law_1269 (by decide) ?_
  refine tj_aload_n (x := sj_ad G 56) dL_law_1271 (i := 2) rfl rfl ?_
  refine tj_scr hX hb hbA hLs (k := 1) rfl rfl (by omega) dL_law_1272 dL_law_1273 dL_law_1275 (by decide) dL_law_1276 dL_law_1277 ?_
  refine tj_scr hX hb hbA hLs (k := 2) rfl rfl (by omega) dL_law_1278 dL_law_1279 dL_law_1281 (by decide) dL_law_1282 dL_law_1283 ?_
  refine tj_callVi (M' := me_X12_move) (b := 56) (As := [.int (xs (i + 1)), .int (xs (i + 2))]) (rest := []) hK0 hA (lok_E hq) dL_law_1284 gL_law_X12_move rfl hd_X12_move (by decide +kernel) (by decide +kernel) rfl (Nat.le_of_ble_eq_true rfl) ⟨(Nat.le_of_ble_eq_true rfl), (Nat.le_of_ble_eq_true rfl)⟩ rfl ⟨hc1, hc2⟩ h2 ?_
  refine tj_istore dL_law_1287 (by decide) ?_
  exact lj_tail hx h3 (fun _ => zcd_lt) hc1 hc2 dL_law_1289 dL_law_1290 dL_law_1293 dL_law_1295 dL_law_1300 dL_law_1302 dL_law_1305 dL_law_1306 dL_law_1307 dL_law_1308 dL_law_1310 dL_law_1311 dL_law_1312 dL_law_1317 (by decide) (k σ2 _ _ (zInv_I2 hI h4))
end LC
