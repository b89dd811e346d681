section LC
variable {G : sj_G} {q : lG} {p : Program} {e : Env} {s : State} {m : MethodId} {below : List Frame} {meth : Method} {c : Code} {b Ls i r : Nat} {xs : Nat → Int32} {Z : State → Prop} {cells slots : Nat} {f : Nat → Int64} {g : Nat → UInt64} {σ : sj_S}
set_option maxRecDepth 20000 in
theorem lc_18 (hx : lcx G q s b Ls xs) (hi : i + 6 ≤ Ls) (hI : zInv σ r) (hr : r + 200 < 2 ^ 27) (hc1 : cells + 1 ≤ 601024) (hc2 : slots + 6 ≤ 7293034) (k : ∀ σ2 f2 g2, zInx r σ2 → lJ G q p e s m below meth c b Z (cells + 1) (slots + 6) f2 g2 3361 (lL G q b i .null .null) σ2 []) : lJ G q p e s m below meth c b Z cells slots f g 1320 (lL G q b i .null .null) σ [] := by
  obtain ⟨ok, hq, hT, hX, hb, hA, ha, hd, hLs⟩ := id hx
  obtain ⟨Rc, σ1, rm, σ2, h1, h2, h3, h4⟩ := p_holds ok hI.1 (xs (i + 1))
  have hK0 : ∀ x, x < s.heap.size → ¬ sj_A G x → ¬ s.heap.size ≤ x := fun x h _ h2 => by omega
  have hA' : ∀ x, lA G q x → s.heap.size ≤ x := fun x h => h.elim (hA x) (fun h => h.elim (fun h => h ▸ ha) (fun h => h ▸ hd))
  have hbA : ¬ s.heap.size ≤ b := by omega
  unfold lJ
  refine tj_aload_n (x := sj_ad G 0) dL_law_1320 (i := 1) rfl rfl ?_
  refine tj_scr hX hb hbA hLs (k := 1) rfl rfl (by omega) dL_law_1321 dL_law_1322 dL_law_1324 (by decide) dL_law_1325 dL_law_1326 ?_
  refine tj_aload_n (x := q.1) dL_law_1327 (i := 3) rfl rfl ?_
  refine lj_callS (M' := me_L_holds) (As := [.ref (sj_ad G 0), .int (xs (i + 1)), .ref q.1]) (rest := []) hK0 hA' hT dL_law_1328 gL_law_L_holds rfl hd_L_holds (Nat.le_of_ble_eq_true rfl) ⟨(Nat.le_of_ble_eq_true rfl), (Nat.le_of_ble_eq_true rfl)⟩ ⟨hc1, hc2⟩ (lm_holds ok hq h1 (z_err h3)) ?_
  refine tj_istore dL_law_1331 (by decide) ?_
  refine tj_aload_n (x := sj_ad G 56) dL_law_1333 (i := 2) rfl rfl ?_
  refine tj_scr hX hb hbA hLs (k := 1) rfl rfl (by omega) dL_law_1334 dL_law_1335 dL_law_1337 (by decide) dL_law_1338 dL_law_1339 ?_
  refine tj_callVi (M' := me_X12_holds) (b := 56) (As := [.int (xs (i + 1))]) (rest := []) hK0 hA (lok_E hq) dL_law_1340 gL_law_X12_holds rfl hd_X12_holds (by decide +kernel) (by decide +kernel) rfl (Nat.le_of_ble_eq_true rfl) ⟨(Nat.le_of_ble_eq_true rfl), (Nat.le_of_ble_eq_true rfl)⟩ rfl ⟨hc1, hc2⟩ h2 ?_
  refine tj_istore dL_law_1343 (by decide) ?_
  exact lj_tailb hx h3 (fun _ => zcd_lt) hc1 hc2 dL_law_1345 dL_law_1346 dL_law_1349 dL_law_1351 dL_law_1356 dL_law_1358 dL_law_1361 dL_law_1362 dL_law_1363 dL_law_1364 dL_law_1366 dL_law_1369 dL_law_1370 dL_law_1373 dL_law_1374 dL_law_1375 dL_law_1380 (by decide) (k σ2 _ _ (zInv_I2 hI h4))
set_option maxRecDepth 20000 in
theorem lc_19 (hx : lcx G q s b Ls xs) (hi : i + 6 ≤ Ls) (hI : zInv σ r) (hr : r + 200 < 2 ^ 27) (hc1 : cells + 1 ≤ 601024) (hc2 : slots + 6 ≤ 7293034) (k : ∀ σ2 f2 g2, zInx r σ2 → lJ G q p e s m below meth c b Z (cells + 1) (slots + 6) f2 g2 3361 (lL G q b i .null .null) σ2 []) : lJ G q p e s m below meth c b Z cells slots f g 1383 (lL G q b i .null .null) σ [] := by
  obtain ⟨ok, hq, hT, hX, hb, hA, ha, hd, hLs⟩ := id hx
  obtain ⟨Rc, σ1, rm, σ2, h1, h2, h3, h4⟩ := p_cost ok hI.1
  have hK0 : ∀ x, x < s.heap.size → ¬ sj_A G x → ¬ s.heap.size ≤ x := fun x h _ h2 => by omega
  have hA' : ∀ x, lA G q x → s.heap.size ≤ x := fun x h => h.elim (hA x) (fun h => h.elim (fun h => h ▸ ha) (fun h => h ▸ hd))
  have hbA : ¬ s.heap.size ≤ b := by omega
  unfold lJ
  refine tj_aload_n (x := sj_ad G 0) dL_law_1383 (i := 1) rfl rfl ?_
  refine tj_aload_n (x := q.1) dL_law_1384 (i := 3) rfl rfl ?_
  refine lj_callS (M' := me_L_cost) (As := [.ref (sj_ad G 0), .ref q.1]) (rest := []) hK0 hA' hT dL_law_1385 gL_law_L_cost rfl hd_L_cost (Nat.le_of_ble_eq_true rfl) ⟨(Nat.le_of_ble_eq_true rfl), (Nat.le_of_ble_eq_true rfl)⟩ ⟨hc1, hc2⟩ (lm_cost ok hq h1 (z_err h3)) ?_
  refine tj_istore dL_law_1388 (by decide) ?_
  refine tj_aload_n (x := sj_ad G 56) dL_law_1390 (i := 2) rfl rfl ?_
  refine tj_callVi (M' := me_X12_cost) (b := 56) (As := []) (rest := []) hK0 hA (lok_E hq) dL_law_1391 gL_law_X12_cost rfl hd_X12_cost (by decide +kernel) (by decide +kernel) rfl (Nat.le_of_ble_eq_true rfl) ⟨(Nat.le_of_ble_eq_true rfl), (Nat.le_of_ble_eq_true rfl)⟩ rfl ⟨hc1, hc2⟩ h2 ?_
  refine tj_istore dL_law_1394 (by decide) ?_
  exact lj_tail hx h3 (fun _ => zcd_lt) hc1 hc2 dL_law_1396 dL_law_1397 dL_law_1400 dL_law_1402 dL_law_1407 dL_law_1409 dL_law_1412 dL_law_1413 dL_law_1414 dL_law_1415 dL_law_1417 dL_law_1418 dL_law_1419 dL_law_1424 (by decide) (k σ2 _ _ (zInv_I2 hI h4))
set_option maxRecDepth 20000 in
theorem lc_20 (hx : lcx G q s b Ls xs) (hi : i + 6 ≤ Ls) (hI : zInv σ r) (hr : r + 200 < 2 ^ 27) (hc1 : cells + 1 ≤ 601024) (hc2 : slots + 6 ≤ 7293034) (k : ∀ σ2 f2 g2, zInx r σ2 → lJ G q p e s m below meth c b Z (cells + 1) (slots + 6) f2 g2 3361 (lL G q b i .null .null) σ2 []) : lJ G q p e s m below meth c b Z cells slots f g 1427 (lL G q b i .null .null) σ [] := by
  obtain ⟨ok, hq, hT, hX, hb, hA, ha, hd, hLs⟩ := id hx
  obtain ⟨Rc, σ1, rm, σ2, h1, h2, h3, h4⟩ := p_gaps ok hI.1 (decide (¬ xs (i + 1) = 0)) (xs (i + 2))
  have hK0 : ∀ x, x < s.heap.size → ¬ sj_A G x → ¬ s.heap.size ≤ x := fun x h _ h2 => by omega
  have hA' : ∀ x, lA G q x → s.heap.size ≤ x := fun x h => h.elim (hA x) (fun h => h.elim (fun h => h ▸ ha) (fun h => h ▸ hd))
  have hbA : ¬ s.heap.size ≤ b := by omega
  unfold lJ
  refine tj_aload_n (x := sj_ad G 0) dL_law_1427 (i := 1) rfl rfl ?_
  refine tj_scr hX hb hbA hLs (k := 1) rfl rfl (by omega) dL_law_1428 dL_law_1429 dL_law_1431 (by decide) dL_law_1432 dL_law_1433 ?_
  refine tj_bool dL_law_1434 dL_law_1437 dL_law_1438 dL_law_1441 (by decide) (by decide) ?_
  refine tj_scr hX hb hbA hLs (k := 2) rfl rfl (by omega) dL_law_1442 dL_law_1443 dL_law_1445 (by decide) dL_law_1446 dL_law_1447 ?_
  refine tj_aload_n (x := q.1) dL_law_1448 (i := 3) rfl rfl ?_
  refine lj_callS (M' := me_L_gaps) (As := [.ref (sj_ad G 0), .int (if decide (¬ xs (i + 1) = 0) then nI 1 else nI 0), .int (xs (i + 2)), .ref q.1]) (rest := []) hK0 hA' hT dL_law_1449 gL_law_L_gaps rfl hd_L_gaps (Nat.le_of_ble_eq_true rfl) ⟨(Nat.le_of_ble_eq_true rfl), (Nat.le_of_ble_eq_true rfl)⟩ ⟨hc1, hc2⟩ (lm_gaps ok hq h1 (z_err h3)) ?_
  refine tj_istore dL_law_1452 (by decide) ?_
  refine tj_aload_n (x := sj_ad G 56) dL_law_1454 (i := 2) rfl rfl ?_
  refine tj_scr hX hb hbA hLs (k := 1) rfl rfl (by omega) dL_law_1455 dL_law_1456 dL_law_1458 (by decide) dL_law_1459 dL_law_1460 ?_
  refine tj_bool dL_law_1461 dL_law_1464 dL_law_1465 dL_law_1468 (by decide) (by decide) ?_
  refine tj_scr hX hb hbA hLs (k := 2) rfl rfl (by omega) dL_law_1469 dL_law_1470 dL_law_1472 (by decide) dL_law_1473 dL_law_1474 ?_
  refine tj_callVi (M' := me_X12_gaps) (b := 56) (As := [.int (if decide (¬ xs (i + 1) = 0) then nI 1 else nI 0), .int (xs (i + 2))]) (rest := []) hK0 hA (lok_E hq) dL_law_1475 gL_law_X12_gaps rfl hd_X12_gaps (by decide +kernel) (by decide +kernel) rfl (Nat.le_of_ble_eq_true rfl) ⟨(Nat.le_of_ble_eq_true rfl), (Nat.le_of_ble_eq_true rfl)⟩ rfl ⟨hc1, hc2⟩ h2 ?_
  refine tj_istore dL_law_1478 (by decide) ?_
  exact lj_tail hx h3 (fun _ => zcd_lt) hc1 hc2 dL_law_1480 dL_law_1481 dL_law_1484 dL_law_1486 dL_law_1491 dL_law_1493 dL_law_1496 dL_law_1497 dL_law_1498 dL_law_1499 dL_law_1501 dL_law_1502 dL_law_1503 dL_law_1508 (by decide) (k σ2 _ _ (zInv_I2 hI h4))
set_option maxRecDepth 20000 in
theorem lc_21 (hx : lcx G q s b Ls xs) (hi : i + 6 ≤ Ls) (hI : zInv σ r) (hr : r + 200 < 2 ^ 27) (hc1 : cells + 1 ≤ 601024) (hc2 : slots + 6 ≤ 7293034) (k : ∀ σ2 f2 g2, zInx r σ2 → lJ G q p e s m below meth c b Z (cells + 1) (slots + 6) f2 g2 3361 (lL G q b i .null .null) σ2 []) : lJ G q p e s m below meth c b Z cells slots f g 1511 (lL G q b i .null .null) σ [] := by
  obtain ⟨ok, hq, hT, hX, hb, hA, ha, hd, hLs⟩ := id hx
  obtain ⟨Rc, σ1, rm, σ2, h1, h2, h3, h4⟩ := p_improve ok hI.1
  have hK0 : ∀ x, x < s.heap.size → ¬ sj_A G x → ¬ s.heap.size ≤ x := fun x h _ h2 => by omega
  have hA' : ∀ x, lA G q x → s.heap.size ≤ x := fun x h => h.elim (hA x) (fun h => h.elim (fun h => h ▸ ha) (fun h => h ▸ hd))
  have hbA : ¬ s.heap.size ≤ b := by omega
  unfold lJ
  refine tj_aload_n (x := sj_ad G 0) dL_law_1511 (i := 1) rfl rfl ?_
  refine tj_aload_n (x := q.1) dL_law_1512 (i := 3) rfl rfl ?_
  refine lj_callS (M' := me_L_improve) (As := [.ref (sj_ad G 0), .ref q.1]) (rest := []) hK0 hA' hT dL_law_1513 gL_law_L_improve rfl hd_L_improve (Nat.le_of_ble_eq_true rfl) ⟨(Nat.le_of_ble_eq_true rfl), (Nat.le_of_ble_eq_true rfl)⟩ ⟨hc1, hc2⟩ (lm_improve ok hq h1 (z_err h3)) ?_
  refine tj_istore dL_law_1516 (by decide) ?_
  refine tj_aload_n (x := sj_ad G 56) dL_law_1518 (i := 2) rfl rfl ?_
  refine tj_callVi (M' := me_X12_improve) (b := 56) (As := []) (rest := []) hK0 hA (lok_E hq) dL_law_1519 gL_law_X12_improve rfl hd_X12_improve (by decide +kernel) (by decide +kernel) rfl (Nat.le_of_ble_eq_true rfl) ⟨(Nat.le_of_ble_eq_true rfl), (Nat.le_of_ble_eq_true rfl)⟩ rfl ⟨hc1, hc2⟩ h2 ?_
  refine tj_istore dL_law_1522 (by decide) ?_
  exact lj_tail hx h3 (fun _ => zcd_lt) hc1 hc2 dL_law_1524 dL_law_1525 dL_law_1528 dL_law_1530 dL_law_1535 dL_law_1537 dL_law_1540 dL_law_1541 dL_law_1542 dL_law_1543 dL_law_1545 dL_law_1546 dL_law_1547 dL_law_1552 (by decide) (k σ2 _ _ (zInv_I2 hI h4))
set_option maxRecDepth 20000 in
theorem lc_22 (hx : lcx G q s b Ls xs) (hi : i + 6 ≤ Ls) (hI : zInv σ r) (hr : r + 200 < 2 ^ 27) (hc1 : cells + 1 ≤ 601024) (hc2 : slots + 6 ≤ 7293034) (k : ∀ σ2 f2 g2, zInx r σ2 → lJ G q p e s m below meth c b Z (cells + 1) (slots + 6) f2 g2 3361 (lL G q b i .null .null) σ2 []) : lJ G q p e s m below meth c b Z cells slots f g 1555 (lL G q b i .null .null) σ [] := by
  obtain ⟨ok, hq, hT, hX, hb, hA, ha, hd, hLs⟩ := id hx
  obtain ⟨Rc, σ1, rm, σ2, h1, h2, h3, h4⟩ := p_most ok hI.1
  obtain rfl := z_ok h3
  have hK0 : ∀ x, x < s.heap.size → ¬ sj_A G x → ¬ s.heap.size ≤ x := fun x h _ h2 => by omega
  have hcs : cells ≤ 601024 ∧ slots ≤ 7293034 := ⟨by omega, by omega⟩
  unfold lJ at k ⊢
  refine tj_aload_n (x := sj_ad G 0) dL_law_1555 (i := 1) rfl rfl ?_
  refine tj_callVi (M' := me_X11_most) (b := 0) (As := []) (rest := []) hK0 hA (lok_E hq) dL_law_1556 gL_law_X11_most rfl hd_X11_most (by decide +kernel) (by decide +kernel) rfl (Nat.le_of_ble_eq_true rfl) ⟨(Nat.le_of_ble_eq_true rfl), (Nat.le_of_ble_eq_true rfl)⟩ rfl hcs h1 ?_
  refine tj_aload_n (x := sj_ad G 56) dL_law_1559 (i := 2) rfl rfl ?_
  refine tj_callVi (M' := me_X12_most) (b := 56) (As := []) (rest := [.int rm]) hK0 hA (lok_E hq) dL_law_1560 gL_law_X12_most rfl hd_X12_most (by decide +kernel) (by decide +kernel) rfl (Nat.le_of_ble_eq_true rfl) ⟨(Nat.le_of_ble_eq_true rfl), (Nat.le_of_ble_eq_true rfl)⟩ rfl hcs h2 ?_
  refine tj_icmp_eq (tgt := 3361) dL_law_1563 (by decide) (fun _ => ?_) (fun h => absurd rfl h)
  exact tj_widen (Nat.le_add_right _ _) (Nat.le_add_right _ _) (k σ2 f g (zInv_I2 hI h4))
set_option maxRecDepth 20000 in
theorem lc_23 (hx : lcx G q s b Ls xs) (hi : i + 6 ≤ Ls) (hI : zInv σ r) (hr : r + 200 < 2 ^ 27) (hc1 : cells + 1 ≤ 601024) (hc2 : slots + 6 ≤ 7293034) (k : ∀ σ2 f2 g2, zInx r σ2 → lJ G q p e s m below meth c b Z (cells + 1) (slots + 6) f2 g2 3361 (lL G q b i .null .null) σ2 []) : lJ G q p e s m below meth c b Z cells slots f g 1568 (lL G q b i .null .null) σ [] := by
  obtain ⟨ok, hq, hT, hX, hb, hA, ha, hd, hLs⟩ := id hx
  obtain ⟨Rc, σ1, rm, σ2, h1, h2, h3, h4⟩ := p_colour ok hI.1 (xs (i + 1))
  have hK0 : ∀ x, x < s.heap.size → ¬ sj_A G x → ¬ s.heap.size ≤ x := fun x h _ h2 => by omega
  have hA' : ∀ x, lA G q x → s.heap.size ≤ x := fun x h => h.elim (hA x) (fun h => h.elim (fun h => h ▸ ha) (fun h => h ▸ hd))
  have hbA : ¬ s.heap.size ≤ b := by omega
  unfold lJ
  refine tj_aload_n (x := sj_ad G 0) dL_law_1568 (i := 1) rfl rfl ?_
  refine tj_scr hX hb hbA hLs (k := 1) rfl rfl (by omega) dL_law_1569 dL_law_1570 dL_law_1572 (by decide) dL_law_1573 dL_law_1574 ?_
  refine tj_aload_n (x := q.1) dL_law_1575 (i := 3) rfl rfl ?_
  refine lj_callS (M' := me_L_colour) (As := [.ref (sj_ad G 0), .int (xs (i + 1)), .ref q.1]) (rest := []) hK0 hA' hT dL_law_1576 gL_law_L_colour rfl hd_L_colour (Nat.le_of_ble_eq_true rfl) ⟨(Nat.le_of_ble_eq_true rfl), (Nat.le_of_ble_eq_true rfl)⟩ ⟨hc1, hc2⟩ (lm_colour ok hq h1 (z_err h3)) ?_
  refine tj_istore dL_law_1579 (by decide) ?_
  refine tj_aload_n (x := sj_ad G 56) dL_law_1581 (i := 2) rfl rfl ?_
  refine tj_scr hX hb hbA hLs (k := 1) rfl rfl (by omega) dL_law_1582 dL_law_1583 dL_law_1585 (by decide) dL_law_1586 dL_law_1587 ?_
  refine tj_callVi (M' := me_X12_colour) (b := 56) (As := [.int (xs (i + 1))]) (rest := []) hK0 hA (lok_E hq) dL_law_1588 gL_law_X12_colour rfl hd_X12_colour (by decide +kernel) (by decide +kernel) rfl (Nat.le_of_ble_eq_true rfl) ⟨(Nat.le_of_ble_eq_true rfl), (Nat.le_of_ble_eq_true rfl)⟩ rfl ⟨hc1, hc2⟩ h2 ?_
  refine tj_istore dL_law_1591 (by decide) ?_
  exact lj_tail hx h3 (fun _ => zcd_lt) hc1 hc2 dL_law_1593 dL_law_1594 dL_law_1597 dL_law_1599 dL_law_1604 dL_law_1606 dL_law_1609 dL_law_1610 dL_law_1611 dL_law_1612 dL_law_1614 dL_law_1615 dL_law_1616 dL_law_1621 (by decide) (k σ2 _ _ (zInv_I2 hI h4))
set_option maxRecDepth 20000 in
theorem lc_24 (hx : lcx G q s b Ls xs) (hi : i + 6 ≤ Ls) (hI : zInv σ r) (hr : r + 200 < 2 ^ 27) (hc1 : cells + 1 ≤ 601024) (hc2 : slots + 6 ≤ 7293034) (k : ∀ σ2 f2 g2, zInx r σ2 → lJ G q p e s m below meth c b Z (cells + 1) (slots + 6) f2 g2 3361 (lL G q b i .null .null) σ2 []) : lJ G q p e s m below meth c b Z cells slots f g 1624 (lL G q b i .null .null) σ [] := by
  obtain ⟨ok, hq, hT, hX, hb, hA, ha, hd, hLs⟩ := id hx
  obtain ⟨Rc, σ1, rm, σ2, h1, h2, h3, h4⟩ := p_setIll ok hI.1 (xs (i + 1)) (xs (i + 2)) (decide (¬ xs (i + 3) = 0))
  have hK0 : ∀ x, x < s.heap.size → ¬ sj_A G x → ¬ s.heap.size ≤ x := fun x h _ h2 => by omega
  have hA' : ∀ x, lA G q x → s.heap.size ≤ x := fun x h => h.elim (hA x) (fun h => h.elim (fun h => h ▸ ha) (fun h => h ▸ hd))
  have hbA : ¬ s.heap.size ≤ b := by omega
  unfold lJ
  refine tj_aload_n (x := sj_ad G 0) dL_law_1624 (i := 1) rfl rfl ?_
  refine tj_scr hX hb hbA hLs (k := 1) rfl rfl (by omega) dL_law_1625 dL_law_1626 dL_law_1628 (by decide) dL_law_1629 dL_law_1630 ?_
  refine tj_scr hX hb hbA hLs (k := 2) rfl rfl (by omega) dL_law_1631 dL_law_1632 dL_law_1634 (by decide) dL_law_1635 dL_law_1636 ?_
  refine tj_scr hX hb hbA hLs (k := 3) rfl rfl (by omega) dL_law_1637 dL_law_1638 dL_law_1640 (by decide) dL_law_1641 dL_law_1642 ?_
  refine tj_bool dL_law_1643 dL_law_1646 dL_law_1647 dL_law_1650 (by decide) (by decide) ?_
  refine tj_aload_n (x := q.1) dL_law_1651 (i := 3) rfl rfl ?_
  refine lj_callS (M' := me_L_setIll) (As := [.ref (sj_ad G 0), .int (xs (i + 1)), .int (xs (i + 2)), .int (if decide (¬ xs (i + 3) = 0) then nI 1 else nI 0), .ref q.1]) (rest := []) hK0 hA' hT dL_law_1652 gL_law_L_setIll rfl hd_L_setIll (Nat.le_of_ble_eq_true rfl) ⟨(Nat.le_of_ble_eq_true rfl), (Nat.le_of_ble_eq_true rfl)⟩ ⟨hc1, hc2⟩ (lm_setIll ok hq h1 (z_err h3)) ?_
  refine tj_istore dL_law_1655 (by decide) ?_
  refine tj_aload_n (x := sj_ad G 56) dL_law_1657 (i := 2) rfl rfl ?_
  refine tj_scr hX hb hbA hLs (k := 1) rfl rfl (by omega) dL_law_1658 dL_law_1659 dL_law_1661 (by decide) dL_law_1662 dL_law_1663 ?_
  refine tj_scr hX hb hbA hLs (k := 2) rfl rfl (by omega) dL_law_1664 dL_law_1665 dL_law_1667 (by decide) dL_law_1668 dL_law_1669 ?_
  refine tj_scr hX hb hbA hLs (k := 3) rfl rfl (by omega) dL_law_1670 dL_law_1671 dL_law_1673 (by decide) dL_law_1674 dL_law_1675 ?_
  refine tj_bool dL_law_1676 dL_law_1679 dL_law_1680 dL_law_1683 (by decide) (by decide) ?_
  refine tj_callVi (M' := me_X12_setIll) (b := 56) (As := [.int (xs (i + 1)), .int (xs (i + 2)), .int (if decide (¬ xs (i + 3) = 0) then nI 1 else nI 0)]) (rest := []) hK0 hA (lok_E hq) dL_law_1684 gL_law_X12_setIll rfl hd_X12_setIll (by decide +kernel) (by decide +kernel) rfl (Nat.le_of_ble_eq_true rfl) ⟨(Nat.le_of_ble_eq_true rfl), (Nat.le_of_ble_eq_true rfl)⟩ rfl ⟨hc1, hc2⟩ h2 ?_
  refine tj_istore dL_law_1687 (by decide) ?_
  exact lj_tailb hx h3 (fun _ => zcd_lt) hc1 hc2 dL_law_1689 dL_law_1690 dL_law_1693 dL_law_1695 dL_law_1700 dL_law_1702 dL_law_1705 dL_law_1706 dL_law_1707 dL_law_1708 dL_law_1710 dL_law_1713 dL_law_1714 dL_law_1717 dL_law_1718 dL_law_1719 dL_law_1724 (by decide) (k σ2 _ _ (zInv_I2 hI h4))
set_option maxRecDepth 20000 in
theorem lc_25 (hx : lcx G q s b Ls xs) (hi : i + 6 ≤ Ls) (hI : zInv σ r) (hr : r + 200 < 2 ^ 27) (hc1 : cells + 1 ≤ 601024) (hc2 : slots + 6 ≤ 7293034) (k : ∀ σ2 f2 g2, zInx r σ2 → lJ G q p e s m below meth c b Z (cells + 1) (slots + 6) f2 g2 3361 (lL G q b i .null .null) σ2 []) : lJ G q p e s m below meth c b Z cells slots f g 1727 (lL G q b i .null .null) σ [] := by
  obtain ⟨ok, hq, hT, hX, hb, hA, ha, hd, hLs⟩ := id hx
  obtain ⟨Rc, σ1, rm, σ2, h1, h2, h3, h4⟩ := p_ill ok hI.1 (xs (i + 1)) (decide (¬ xs (i + 2) = 0))
  have hK0 : ∀ x, x < s.heap.size → ¬ sj_A G x → ¬ s.heap.size ≤ x := fun x h _ h2 => by omega
  have hA' : ∀ x, lA G q x → s.heap.size ≤ x := fun x h => h.elim (hA x) (fun h => h.elim (fun h => h ▸ ha) (fun h => h ▸ hd))
  have hbA : ¬ s.heap.size ≤ b := by omega
  unfold lJ
  refine tj_aload_n (x := sj_ad G 0) dL_law_1727 (i := 1) rfl rfl ?_
  refine tj_scr hX hb hbA hLs (k := 1) rfl rfl (by omega) dL_law_1728 dL_law_1729 dL_law_1731 (by decide) dL_law_1732 dL_law_1733 ?_
  refine tj_scr hX hb hbA hLs (k := 2) rfl rfl (by omega) dL_law_1734 dL_law_1735 dL_law_1737 (by decide) dL_law_1738 dL_law_1739 ?_
  refine tj_bool dL_law_1740 dL_law_1743 dL_law_1744 dL_law_1747 (by decide) (by decide) ?_
  refine tj_aload_n (x := q.1) dL_law_1748 (i := 3) rfl rfl ?_
  refine lj_callS (M' := me_L_ill) (As := [.ref (sj_ad G 0), .int (xs (i + 1)), .int (if decide (¬ xs (i + 2) = 0) then nI 1 else nI 0), .ref q.1]) (rest := []) hK0 hA' hT dL_law_1749 gL_law_L_ill rfl hd_L_ill (Nat.le_of_ble_eq_true rfl) ⟨(Nat.le_of_ble_eq_true rfl), (Nat.le_of_ble_eq_true rfl)⟩ ⟨hc1, hc2⟩ (lm_ill ok hq h1 (z_err h3)) ?_
  refine tj_istore dL_law_1752 (by decide) ?_
  refine tj_aload_n (x := sj_ad G 56) dL_law_1754 (i := 2) rfl rfl ?_
  refine tj_scr hX hb hbA hLs (k := 1) rfl rfl (by omega) dL_law_1755 dL_law_1756 dL_law_1758 (by decide) dL_law_1759 dL_law_1760 ?_
  refine tj_scr hX hb hbA hLs (k := 2) rfl rfl (by omega) dL_law_1761 dL_law_1762 dL_law_1764 (by decide) dL_law_1765 dL_law_1766 ?_
  refine tj_bool dL_law_1767 dL_law_1770 dL_law_1771 dL_law_1774 (by decide) (by decide) ?_
  refine tj_callVi (M' := me_X12_ill) (b := 56) (As := [.int (xs (i + 1)), .int (if decide (¬ xs (i + 2) = 0) then nI 1 else nI 0)]) (rest := []) hK0 hA (lok_E hq) dL_law_1775 gL_law_X12_ill rfl hd_X12_ill (by decide +kernel) (by decide +kernel) rfl (Nat.le_of_ble_eq_true rfl) ⟨(Nat.le_of_ble_eq_true rfl), (Nat.le_of_ble_eq_true rfl)⟩ rfl ⟨hc1, hc2⟩ h2 ?_
  refine tj_istore dL_law_1778 (by decide) ?_
  exact lj_tail hx h3 (fun _ => zcd_lt) hc1 hc2 dL_law_1780 dL_law_1781 dL_law_1784 dL_law_1786 dL_law_1791 dL_law_1793 dL_law_1796 dL_law_1797 dL_law_1798 dL_law_1799 dL_law_1801 dL_law_1802 dL_law_1803 dL_law_1808 (by decide) (k σ2 _ _ (zInv_I2 hI h4))
set_option maxRecDepth 20000 in
theorem lc_26 (hx : lcx G q s b Ls xs) (hi : i + 6 ≤ Ls) (hI : zInv σ r) (hr : r + 200 < 2 ^ 27) (hc1 : cells + 1 ≤ 601024) (hc2 : slots + 6 ≤ 7293034) (k : ∀ σ2 f2 g2, zInx r σ2 → lJ G q p e s m below meth c b Z (cells + 1) (slots + 6) f2 g2 3361 (lL G q b i .null .null) σ2 []) : lJ G q p e s m below meth c b Z cells slots f g 1811 (lL G q b i .null .null) σ [] := by
  obtain ⟨ok, hq, hT, hX, hb, hA, ha, hd, hLs⟩ := id hx
  obtain ⟨Rc, σ1, rm, σ2, h1, h2, h3, h4⟩ := p_substitute ok hI.1 (xs (i + 1)) (xs (i + 2))
  have hK0 : ∀ x, x < s.heap.size → ¬ sj_A G x → ¬ s.heap.size ≤ x := fun x h _ h2 => by omega
  have hA' : ∀ x, lA G q x → s.heap.size ≤ x := fun x h => h.elim (hA x) (fun h => h.elim (fun h => h ▸ ha) (fun h => h ▸ hd))
  have hbA : ¬ s.heap.size ≤ b := by omega
  unfold lJ
  refine tj_aload_n (x := sj_ad G 0) dL_law_1811 (i := 1) rfl rfl ?_
  refine tj_scr hX hb hbA hLs (k := 1) rfl rfl (by omega) dL_law_1812 dL_law_1813 dL_law_1815 (by decide) dL_law_1816 dL_law_1817 ?_
  refine tj_scr hX hb hbA hLs (k := 2) rfl rfl (by omega) dL_law_1818 dL_law_1819 dL_law_1821 (by decide) dL_law_1822 dL_law_1823 ?_
  refine tj_aload_n (x := q.1) dL_law_1824 (i := 3) rfl rfl ?_
  refine lj_callS (M' := me_L_substitute) (As := [.ref (sj_ad G 0), .int (xs (i + 1)), .int (xs (i + 2)), .ref q.1]) (rest := []) hK0 hA' hT dL_law_1825 gL_law_L_substitute rfl hd_L_substitute (Nat.le_of_ble_eq_true rfl) ⟨(Nat.le_of_ble_eq_true rfl), (Nat.le_of_ble_eq_true rfl)⟩ ⟨hc1, hc2⟩ (lm_substitute ok hq h1 (z_err h3)) ?_
  refine tj_istore dL_law_1828 (by decide) ?_
  refine tj_aload_n (x := sj_ad G 56) dL_law_1830 (i := 2) rfl rfl ?_
  refine tj_scr hX hb hbA hLs (k := 1) rfl rfl (by omega) dL_law_1831 dL_law_1832 dL_law_1834 (by decide) dL_law_1835 dL_law_1836 ?_
  refine tj_scr hX hb hbA hLs (k := 2) rfl rfl (by omega) dL_law_1837 dL_law_1838 dL_law_1840 (by decide) dL_law_1841 dL_law_1842 ?_
  refine tj_callVi (M' := me_X12_substitute) (b := 56) (As := [.int (xs (i + 1)), .int (xs (i + 2))]) (rest := []) hK0 hA (lok_E hq) dL_law_1843 gL_law_X12_substitute rfl hd_X12_substitute (by decide +kernel) (by decide +kernel) rfl (Nat.le_of_ble_eq_true rfl) ⟨(Nat.le_of_ble_eq_true rfl), (Nat.le_of_ble_eq_true rfl)⟩ rfl ⟨hc1, hc2⟩ h2 ?_
  refine tj_istore dL_law_1846 (by decide) ?_
  exact lj_tail hx h3 (fun _ => zcd_lt) hc1 hc2 dL_law_1848 dL_law_1849 dL_law_1852 dL_law_1854 dL_law_1859 dL_law_1861 dL_law_1864 dL_law_1865 dL_law_1866 dL_law_1867 dL_law_1869 dL_law_1870 dL_law_1871 dL_law_1876 (by decide) (k σ2 _ _ (zInv_I2 hI h4))
set_option maxRecDepth 20000 in
theorem lc_27 (hx : lcx G q s b Ls xs) (hi : i + 6 ≤ Ls) (hI : zInv σ r) (hr : r + 200 < 2 ^ 27) (hc1 : cells + 1 ≤ 601024) (hc2 : slots + 6 ≤ 7293034) (k : ∀ σ2 f2 g2, zInx r σ2 → lJ G q p e s m below meth c b Z (cells + 1) (slots + 6) f2 g2 3361 (lL G q b i .null .null) σ2 []) : lJ G q p e s m below meth c b Z cells slots f g 1879 (lL G q b i .null .null) σ [] := by
  obtain ⟨ok, hq, hT, hX, hb, hA, ha, hd, hLs⟩ := id hx
  obtain ⟨Rc, σ1, rm, σ2, h1, h2, h3, h4⟩ := p_takes ok hI.1 (xs (i + 1))
  have hK0 : ∀ x, x < s.heap.size → ¬ sj_A G x → ¬ s.heap.size ≤ x := fun x h _ h2 => by omega
  have hA' : ∀ x, lA G q x → s.heap.size ≤ x := fun x h => h.elim (hA x) (fun h => h.elim (fun h => h ▸ ha) (fun h => h ▸ hd))
  have hbA : ¬ s.heap.size ≤ b := by omega
  unfold lJ
  refine tj_aload_n (x := sj_ad G 0) dL_law_1879 (i := 1) rfl rfl ?_
  refine tj_scr hX hb hbA hLs (k := 1) rfl rfl (by omega) dL_law_1880 dL_law_1881 dL_law_1883 (by decide) dL_law_1884 dL_law_1885 ?_
  refine tj_aload_n (x := q.1) dL_law_1886 (i := 3) rfl rfl ?_
  refine lj_callS (M' := me_L_takes) (As := [.ref (sj_ad G 0), .int (xs (i + 1)), .ref q.1]) (rest := []) hK0 hA' hT dL_law_1887 gL_law_L_takes rfl hd_L_takes (Nat.le_of_ble_eq_true rfl) ⟨(Nat.le_of_ble_eq_true rfl), (Nat.le_of_ble_eq_true rfl)⟩ ⟨hc1, hc2⟩ (lm_takes ok hq h1 (z_err h3)) ?_
  refine tj_istore dL_law_1890 (by decide) ?_
  refine tj_aload_n (x := sj_ad G 56) dL_law_1892 (i := 2) rfl rfl ?_
  refine tj_scr hX hb hbA hLs (k := 1) rfl rfl (by omega) dL_law_1893 dL_law_1894 dL_law_1896 (by decide) dL_law_1897 dL_law_1898 ?_
  refine tj_callVi (M' := me_X12_takes) (b := 56) (As := [.int (xs (i + 1))]) (rest := []) hK0 hA (lok_E hq) dL_law_1899 gL_law_X12_takes rfl hd_X12_takes (by decide +kernel) (by decide +kernel) rfl (Nat.le_of_ble_eq_true rfl) ⟨(Nat.le_of_ble_eq_true rfl), (Nat.le_of_ble_eq_true rfl)⟩ rfl ⟨hc1, hc2⟩ h2 ?_
  refine tj_istore dL_law_1902 (by decide) ?_
  exact lj_tail hx h3 (fun _ => zcd_lt) hc1 hc2 dL_law_1904 dL_law_1905 dL_law_1908 dL_law_1910 dL_law_1915 dL_law_1917 dL_law_1920 dL_law_1921 dL_law_1922 dL_law_1923 dL_law_1925 dL_law_1926 dL_law_1927 dL_law_1932 (by decide) (k σ2 _ _ (zInv_I2 hI h4))
set_option maxRecDepth 20000 in
theorem lc_28 (hx : lcx G q s b Ls xs) (hi : i + 6 ≤ Ls) (hI : zInv σ r) (hr : r + 200 < 2 ^ 27) (hc1 : cells + 1 ≤ 601024) (hc2 : slots + 6 ≤ 7293034) (k : ∀ σ2 f2 g2, zInx r σ2 → lJ G q p e s m below meth c b Z (cells + 1) (slots + 6) f2 g2 3361 (lL G q b i .null .null) σ2 []) : lJ G q p e s m below meth c b Z cells slots f g 1935 (lL G q b i .null .null) σ [] := by
  obtain ⟨ok, hq, hT, hX, hb, hA, ha, hd, hLs⟩ := id hx
  obtain ⟨Rc, σ1, rm, σ2, h1, h2, h3, h4⟩ := p_setApart ok hI.1 (xs (i + 1)) (xs (i + 2)) (decide (¬ xs (i + 3) = 0))
  have hK0 : ∀ x, x < s.heap.size → ¬ sj_A G x → ¬ s.heap.size ≤ x := fun x h _ h2 => by omega
  have hA' : ∀ x, lA G q x → s.heap.size ≤ x := fun x h => h.elim (hA x) (fun h => h.elim (fun h => h ▸ ha) (fun h => h ▸ hd))
  have hbA : ¬ s.heap.size ≤ b := by omega
  unfold lJ
  refine tj_aload_n (x := sj_ad G 0) dL_law_1935 (i := 1) rfl rfl ?_
  refine tj_scr hX hb hbA hLs (k := 1) rfl rfl (by omega) dL_law_1936 dL_law_1937 dL_law_1939 (by decide) dL_law_1940 dL_law_1941 ?_
  refine tj_scr hX hb hbA hLs (k := 2) rfl rfl (by omega) dL_law_1942 dL_law_1943 dL_law_1945 (by decide) dL_law_1946 dL_law_1947 ?_
  refine tj_scr hX hb hbA hLs (k := 3) rfl rfl (by omega) dL_law_1948 dL_law_1949 dL_law_1951 (by decide) dL_law_1952 dL_law_1953 ?_
  refine tj_bool dL_law_1954 dL_law_1957 dL_law_1958 dL_law_1961 (by decide) (by decide) ?_
  refine tj_aload_n (x := q.1) dL_law_1962 (i := 3) rfl rfl ?_
  refine lj_callS (M' := me_L_setApart) (As := [.ref (sj_ad G 0), .int (xs (i + 1)), .int (xs (i + 2)), .int (if decide (¬ xs (i + 3) = 0) then nI 1 else nI 0), .ref q.1]) (rest := []) hK0 hA' hT dL_law_1963 gL_law_L_setApart rfl hd_L_setApart (Nat.le_of_ble_eq_true rfl) ⟨(Nat.le_of_ble_eq_true rfl), (Nat.le_of_ble_eq_true rfl)⟩ ⟨hc1, hc2⟩ (lm_setApart ok hq h1 (z_err h3)) ?_
  refine tj_istore dL_law_1966 (by decide) ?_
  refine tj_aload_n (x := sj_ad G 56) dL_law_1968 (i := 2) rfl rfl ?_
  refine tj_scr hX hb hbA hLs (k := 1) rfl rfl (by omega) dL_law_1969 dL_law_1970 dL_law_1972 (by decide) dL_law_1973 dL_law_1974 ?_
  refine tj_scr hX hb hbA hLs (k := 2) rfl rfl (by omega) dL_law_1975 dL_law_1976 dL_law_1978 (by decide) dL_law_1979 dL_law_1980 ?_
  refine tj_scr hX hb hbA hLs (k := 3) rfl rfl (by omega) dL_law_1981 dL_law_1982 dL_law_1984 (by decide) dL_law_1985 dL_law_1986 ?_
  refine tj_bool dL_law_1987 dL_law_1990 dL_law_1991 dL_law_1994 (by decide) (by decide) ?_
  refine tj_callVi (M' := me_X12_setApart) (b := 56) (As := [.int (xs (i + 1)), .int (xs (i + 2)), .int (if decide (¬ xs (i + 3) = 0) then nI 1 else nI 0)]) (rest := []) hK0 hA (lok_E hq) dL_law_1995 gL_law_X12_setApart rfl hd_X12_setApart (by decide +kernel) (by decide +kernel) rfl (Nat.le_of_ble_eq_true rfl) ⟨(Nat.le_of_ble_eq_true rfl), (Nat.le_of_ble_eq_true rfl)⟩ rfl ⟨hc1, hc2⟩ h2 ?_
  refine tj_istore dL_law_1998 (by decide) ?_
  exact lj_tailb hx h3 (fun _ => zcd_lt) hc1 hc2 dL_law_2000 dL_law_2001 dL_law_2004 dL_law_2006 dL_law_2011 dL_law_2013 dL_law_2016 dL_law_2017 dL_law_2018 dL_law_2019 dL_law_2021 dL_law_2024 dL_law_2025 dL_law_2028 dL_law_2029 dL_law_2030 dL_law_2035 (by decide) (k σ2 _ _ (zInv_I2 hI h4))
set_option maxRecDepth 20000 in
theorem lc_29 (hx : lcx G q s b Ls xs) (hi : i + 6 ≤ Ls) (hI : zInv σ r) (hr : r + 200 < 2 ^ 27) (hc1 : cells + 1 ≤ 601024) (hc2 : slots + 6 ≤ 7293034) (k : ∀ σ2 f2 g2, zInx r σ2 → lJ G q p e s m below meth c b Z (cells + 1) (slots + 6) f2 g2 3361 (lL G q b i .null .null) σ2 []) : lJ G q p e s m below meth c b Z cells slots f g 2038 (lL G q b i .null .null) σ [] := by
  obtain ⟨ok, hq, hT, hX, hb, hA, ha, hd, hLs⟩ := id hx
  obtain ⟨Rc, σ1, rm, σ2, h1, h2, h3, h4⟩ := p_daysNeeded ok hI.1
  obtain rfl := z_ok h3
  have hK0 : ∀ x, x < s.heap.size → ¬ sj_A G x → ¬ s.heap.size ≤ x := fun x h _ h2 => by omega
  have hcs : cells ≤ 601024 ∧ slots ≤ 7293034 := ⟨by omega, by omega⟩
  unfold lJ at k ⊢
  refine tj_aload_n (x := sj_ad G 0) dL_law_2038 (i := 1) rfl rfl ?_
  refine tj_callVi (M' := me_X11_daysNeeded) (b := 0) (As := []) (rest := []) hK0 hA (lok_E hq) dL_law_2039 gL_law_X11_daysNeeded rfl hd_X11_daysNeeded (by decide +kernel) (by decide +kernel) rfl (Nat.le_of_ble_eq_true rfl) ⟨(Nat.le_of_ble_eq_true rfl), (Nat.le_of_ble_eq_true rfl)⟩ rfl hcs h1 ?_
  refine tj_aload_n (x := sj_ad G 56) dL_law_2042 (i := 2) rfl rfl ?_
  refine tj_callVi (M' := me_X12_daysNeeded) (b := 56) (As := []) (rest := [.int rm]) hK0 hA (lok_E hq) dL_law_2043 gL_law_X12_daysNeeded rfl hd_X12_daysNeeded (by decide +kernel) (by decide +kernel) rfl (Nat.le_of_ble_eq_true rfl) ⟨(Nat.le_of_ble_eq_true rfl), (Nat.le_of_ble_eq_true rfl)⟩ rfl hcs h2 ?_
  refine tj_icmp_eq (tgt := 3361) dL_law_2046 (by decide) (fun _ => ?_) (fun h => absurd rfl h)
  exact tj_widen (Nat.le_add_right _ _) (Nat.le_add_right _ _) (k σ2 f g (zInv_I2 hI h4))
set_option maxRecDepth 20000 in
theorem lc_30 (hx : lcx G q s b Ls xs) (hi : i + 6 ≤ Ls) (hI : zInv σ r) (hr : r + 200 < 2 ^ 27) (hc1 : cells + 1 ≤ 601024) (hc2 : slots + 6 ≤ 7293034) (k : ∀ σ2 f2 g2, zInx r σ2 → lJ G q p e s m below meth c b Z (cells + 1) (slots + 6) f2 g2 3361 (lL G q b i .null .null) σ2 []) : lJ G q p e s m below meth c b Z cells slots f g 2051 (lL G q b i .null .null) σ [] := by
  obtain ⟨ok, hq, hT, hX, hb, hA, ha, hd, hLs⟩ := id hx
  obtain ⟨Rc, σ1, rm, σ2, h1, h2, h3, h4⟩ := p_examDay ok hI.1 (xs (i + 1))
  have hK0 : ∀ x, x < s.heap.size → ¬ sj_A G x → ¬ s.heap.size ≤ x := fun x h _ h2 => by omega
  have hA' : ∀ x, lA G q x → s.heap.size ≤ x := fun x h => h.elim (hA x) (fun h => h.elim (fun h => h ▸ ha) (fun h => h ▸ hd))
  have hbA : ¬ s.heap.size ≤ b := by omega
  unfold lJ
  refine tj_aload_n (x := sj_ad G 0) dL_law_2051 (i := 1) rfl rfl ?_
  refine tj_scr hX hb hbA hLs (k := 1) rfl rfl (by omega) dL_law_2052 dL_law_2053 dL_law_2055 (by decide) dL_law_2056 dL_law_2057 ?_
  refine tj_aload_n (x := q.1) dL_law_2058 (i := 3) rfl rfl ?_
  refine lj_callS (M' := me_L_examDay) (As := [.ref (sj_ad G 0), .int (xs (i + 1)), .ref q.1]) (rest := []) hK0 hA' hT dL_law_2059 gL_law_L_examDay rfl hd_L_examDay (Nat.le_of_ble_eq_true rfl) ⟨(Nat.le_of_ble_eq_true rfl), (Nat.le_of_ble_eq_true rfl)⟩ ⟨hc1, hc2⟩ (lm_examDay ok hq h1 (z_err h3)) ?_
  refine tj_istore dL_law_2062 (by decide) ?_
  refine tj_aload_n (x := sj_ad G 56) dL_law_2064 (i := 2) rfl rfl ?_
  refine tj_scr hX hb hbA hLs (k := 1) rfl rfl (by omega) dL_law_2065 dL_law_2066 dL_law_2068 (by decide) dL_law_2069 dL_law_2070 ?_
  refine tj_callVi (M' := me_X12_examDay) (b := 56) (As := [.int (xs (i + 1))]) (rest := []) hK0 hA (lok_E hq) dL_law_2071 gL_law_X12_examDay rfl hd_X12_examDay (by decide +kernel) (by decide +kernel) rfl (Nat.le_of_ble_eq_true rfl) ⟨(Nat.le_of_ble_eq_true rfl), (Nat.le_of_ble_eq_true rfl)⟩ rfl ⟨hc1, hc2⟩ h2 ?_
  refine tj_istore dL_law_2074 (by decide) ?_
  exact lj_tail hx h3 (fun _ => zcd_lt) hc1 hc2 dL_law_2076 dL_law_2077 dL_law_2080 dL_law_2082 dL_law_2087 dL_law_2089 dL_law_2092 dL_law_2093 dL_law_2094 dL_law_2095 dL_law_2097 dL_law_2098 dL_law_2099 dL_law_2104 (by decide) (k σ2 _ _ (zInv_I2 hI h4))
set_option maxRecDepth 20000 in
theorem lc_31 (hx : lcx G q s b Ls xs) (hi : i + 6 ≤ Ls) (hI : zInv σ r) (hr : r + 200 < 2 ^ 27) (hc1 : cells + 1 ≤ 601024) (hc2 : slots + 6 ≤ 7293034) (k : ∀ σ2 f2 g2, zInx r σ2 → lJ G q p e s m below meth c b Z (cells + 1) (slots + 6) f2 g2 3361 (lL G q b i .null .null) σ2 []) : lJ G q p e s m below meth c b Z cells slots f g 2107 (lL G q b i .null .null) σ [] := by
  obtain ⟨ok, hq, hT, hX, hb, hA, ha, hd, hLs⟩ := id hx
  obtain ⟨Rc, σ1, rm, σ2, h1, h2, h3, h4⟩ := p_group ok hI.1
  obtain rfl := z_ok h3
  have hK0 : ∀ x, x < s.heap.size → ¬ sj_A G x → ¬ s.heap.size ≤ x := fun x h _ h2 => by omega
  have hcs : cells ≤ 601024 ∧ slots ≤ 7293034 := ⟨by omega, by omega⟩
  unfold lJ at k ⊢
  refine tj_aload_n (x := sj_ad G 0) dL_law_2107 (i := 1) rfl rfl ?_
  refine tj_callVi (M' := me_X11_group) (b := 0) (As := []) (rest := []) hK0 hA (lok_E hq) dL_law_2108 gL_law_X11_group rfl hd_X11_group (by decide +kernel) (by decide +kernel) rfl (Nat.le_of_ble_eq_true rfl) ⟨(Nat.le_of_ble_eq_true rfl), (Nat.le_of_ble_eq_true rfl)⟩ rfl hcs h1 ?_
  refine tj_aload_n (x := sj_ad G 56) dL_law_2111 (i := 2) rfl rfl ?_
  refine tj_callVi (M' := me_X12_group) (b := 56) (As := []) (rest := [.int rm]) hK0 hA (lok_E hq) dL_law_2112 gL_law_X12_group rfl hd_X12_group (by decide +kernel) (by decide +kernel) rfl (Nat.le_of_ble_eq_true rfl) ⟨(Nat.le_of_ble_eq_true rfl), (Nat.le_of_ble_eq_true rfl)⟩ rfl hcs h2 ?_
  refine tj_icmp_eq (tgt := 3361) dL_law_2115 (by decide) (fun _ => ?_) (fun h => absurd rfl h)
  exact tj_widen (Nat.le_add_right _ _) (Nat.le_add_right _ _) (k σ2 f g (zInv_I2 hI h4))
set_option maxRecDepth 20000 in
theorem lc_32 (hx : lcx G q s b Ls xs) (hi : i + 6 ≤ Ls) (hI : zInv σ r) (hr : r + 200 < 2 ^ 27) (hc1 : cells + 1 ≤ 601024) (hc2 : slots + 6 ≤ 7293034) (k : ∀ σ2 f2 g2, zInx r σ2 → lJ G q p e s m below meth c b Z (cells + 1) (slots + 6) f2 g2 3361 (lL G q b i .null .null) σ2 []) : lJ G q p e s m below meth c b Z cells slots f g 2120 (lL G q b i .null .null) σ [] := by
  obtain ⟨ok, hq, hT, hX, hb, hA, ha, hd, hLs⟩ := id hx
  obtain ⟨Rc, σ1, rm, σ2, h1, h2, h3, h4⟩ := p_setBells ok hI.1 hI.2.1 (xs (i + 1)) (xs (i + 2)) (xs (i + 3)) (xs (i + 4))
  have hK0 : ∀ x, x < s.heap.size → ¬ sj_A G x → ¬ s.heap.size ≤ x := fun x h _ h2 => by omega
  have hA' : ∀ x, lA G q x → s.heap.size ≤ x := fun x h => h.elim (hA x) (fun h => h.elim (fun h => h ▸ ha) (fun h => h ▸ hd))
  have hbA : ¬ s.heap.size ≤ b := by omega
  unfold lJ
  refine tj_aload_n (x := sj_ad G 0) dL_law_2120 (i := 1) rfl rfl ?_
  refine tj_scr hX hb hbA hLs (k := 1) rfl rfl (by omega) dL_law_2121 dL_law_2122 dL_law_2124 (by decide) dL_law_2125 dL_law_2126 ?_
  refine tj_scr hX hb hbA hLs (k := 2) rfl rfl (by omega) dL_law_2127 dL_law_2128 dL_law_2130 (by decide) dL_law_2131 dL_law_2132 ?_
  refine tj_scr hX hb hbA hLs (k := 3) rfl rfl (by omega) dL_law_2133 dL_law_2134 dL_law_2136 (by decide) dL_law_2137 dL_law_2138 ?_
  refine tj_scr hX hb hbA hLs (k := 4) rfl rfl (by omega) dL_law_2139 dL_law_2140 dL_law_2142 (by decide) dL_law_2143 dL_law_2144 ?_
  refine tj_aload_n (x := q.1) dL_law_2145 (i := 3) rfl rfl ?_
  refine lj_callS (M' := me_L_setBells) (As := [.ref (sj_ad G 0), .int (xs (i + 1)), .int (xs (i + 2)), .int (xs (i + 3)), .int (xs (i + 4)), .ref q.1]) (rest := []) hK0 hA' hT dL_law_2146 gL_law_L_setBells rfl hd_L_setBells (Nat.le_of_ble_eq_true rfl) ⟨(Nat.le_of_ble_eq_true rfl), (Nat.le_of_ble_eq_true rfl)⟩ ⟨hc1, hc2⟩ (lm_setBells ok hq h1 (z_err h3)) ?_
  refine tj_istore dL_law_2149 (by decide) ?_
  refine tj_aload_n (x := sj_ad G 56) dL_law_2151 (i := 2) rfl rfl ?_
  refine tj_scr hX hb hbA hLs (k := 1) rfl rfl (by omega) dL_law_2152 dL_law_2153 dL_law_2155 (by decide) dL_law_2156 dL_law_2157 ?_
  refine tj_scr hX hb hbA hLs (k := 2) rfl rfl (by omega) dL_law_2158 dL_law_2159 dL_law_2161 (by decide) dL_law_2162 dL_law_2163 ?_
  refine tj_scr hX hb hbA hLs (k := 3) rfl rfl (by omega) dL_law_2164 dL_law_2165 dL_law_2167 (by decide) dL_law_2168 dL_law_2169 ?_
  refine tj_scr hX hb hbA hLs (k := 4) rfl rfl (by omega) dL_law_2170 dL_law_2171 dL_law_2173 (by decide) dL_law_2174 dL_law_2175 ?_
  refine tj_callVi (M' := me_X12_setBells) (b := 56) (As := [.int (xs (i + 1)), .int (xs (i + 2)), .int (xs (i + 3)), .int (xs (i + 4))]) (rest := []) hK0 hA (lok_E hq) dL_law_2176 gL_law_X12_setBells rfl hd_X12_setBells (by decide +kernel) (by decide +kernel) rfl (Nat.le_of_ble_eq_true rfl) ⟨(Nat.le_of_ble_eq_true rfl), (Nat.le_of_ble_eq_true rfl)⟩ rfl ⟨hc1, hc2⟩ h2 ?_
  refine tj_istore dL_law_2179 (by decide) ?_
  exact lj_tail hx h3 (fun _ => zcd_lt) hc1 hc2 dL_law_2181 dL_law_2182 dL_law_2185 dL_law_2187 dL_law_2192 dL_law_2194 dL_law_2197 dL_law_2198 dL_law_2199 dL_law_2200 dL_law_2202 dL_law_2203 dL_law_2204 dL_law_2209 (by decide) (k σ2 _ _ (zInv_IB hI h4))
set_option maxRecDepth 20000 in
theorem lc_33 (hx : lcx G q s b Ls xs) (hi : i + 6 ≤ Ls) (hI : zInv σ r) (hr : r + 200 < 2 ^ 27) (hc1 : cells + 1 ≤ 601024) (hc2 : slots + 6 ≤ 7293034) (k : ∀ σ2 f2 g2, zInx r σ2 → lJ G q p e s m below meth c b Z (cells + 1) (slots + 6) f2 g2 3361 (lL G q b i .null .null) σ2 []) : lJ G q p e s m below meth c b Z cells slots f g 2212 (lL G q b i .null .null) σ [] := by
  obtain ⟨ok, hq, hT, hX, hb, hA, ha, hd, hLs⟩ := id hx
  obtain ⟨Rc, σ1, rm, σ2, h1, h2, h3, h4⟩ := zp_bell ok hI.2.1 (xs (i + 1)) (decide (¬ xs (i + 2) = 0))
  have hK0 : ∀ x, x < s.heap.size → ¬ sj_A G x → ¬ s.heap.size ≤ x := fun x h _ h2 => by omega
  have hA' : ∀ x, lA G q x → s.heap.size ≤ x := fun x h => h.elim (hA x) (fun h => h.elim (fun h => h ▸ ha) (fun h => h ▸ hd))
  have hbA : ¬ s.heap.size ≤ b := by omega
  unfold lJ
  refine tj_aload_n (x := sj_ad G 0) dL_law_2212 (i := 1) rfl rfl ?_
  refine tj_scr hX hb hbA hLs (k := 1) rfl rfl (by omega) dL_law_2213 dL_law_2214 dL_law_2216 (by decide) dL_law_2217 dL_law_2218 ?_
  refine tj_scr hX hb hbA hLs (k := 2) rfl rfl (by omega) dL_law_2219 dL_law_2220 dL_law_2222 (by decide) dL_law_2223 dL_law_2224 ?_
  refine tj_bool dL_law_2225 dL_law_2228 dL_law_2229 dL_law_2232 (by decide) (by decide) ?_
  refine tj_aload_n (x := q.1) dL_law_2233 (i := 3) rfl rfl ?_
  refine lj_callS (M' := me_L_bell) (As := [.ref (sj_ad G 0), .int (xs (i + 1)), .int (if decide (¬ xs (i + 2) = 0) then nI 1 else nI 0), .ref q.1]) (rest := []) hK0 hA' hT dL_law_2234 gL_law_L_bell rfl hd_L_bell (Nat.le_of_ble_eq_true rfl) ⟨(Nat.le_of_ble_eq_true rfl), (Nat.le_of_ble_eq_true rfl)⟩ ⟨hc1, hc2⟩ (lm_bell ok hq h1 (z_err h3)) ?_
  refine tj_istore dL_law_2237 (by decide) ?_
  refine tj_aload_n (x := sj_ad G 56) dL_law_2239 (i := 2) rfl rfl ?_
  refine tj_scr hX hb hbA hLs (k := 1) rfl rfl (by omega) dL_law_2240 dL_law_2241 dL_law_2243 (by decide) dL_law_2244 dL_law_2245 ?_
  refine tj_scr hX hb hbA hLs (k := 2) rfl rfl (by omega) dL_law_2246 dL_law_2247 dL_law_2249 (by decide) dL_law_2250 dL_law_2251 ?_
  refine tj_bool dL_law_2252 dL_law_2255 dL_law_2256 dL_law_2259 (by decide) (by decide) ?_
  refine tj_callVi (M' := me_X12_bell) (b := 56) (As := [.int (xs (i + 1)), .int (if decide (¬ xs (i + 2) = 0) then nI 1 else nI 0)]) (rest := []) hK0 hA (lok_E hq) dL_law_2260 gL_law_X12_bell rfl hd_X12_bell (by decide +kernel) (by decide +kernel) rfl (Nat.le_of_ble_eq_true rfl) ⟨(Nat.le_of_ble_eq_true rfl), (Nat.le_of_ble_eq_true rfl)⟩ rfl ⟨hc1, hc2⟩ h2 ?_
  refine tj_istore dL_law_2263 (by decide) ?_
  exact lj_tail hx h3 (fun _ => zcd_lt) hc1 hc2 dL_law_2265 dL_law_2266 dL_law_2269 dL_law_2271 dL_law_2276 dL_law_2278 dL_law_2281 dL_law_2282 dL_law_2283 dL_law_2284 dL_law_2286 dL_law_2287 dL_law_2288 dL_law_2293 (by decide) (k σ2 _ _ (zInv_only hI h4))
set_option maxRecDepth 20000 in
theorem lc_34 (hx : lcx G q s b Ls xs) (hi : i + 6 ≤ Ls) (hI : zInv σ r) (hr : r + 200 < 2 ^ 27) (hc1 : cells + 1 ≤ 601024) (hc2 : slots + 6 ≤ 7293034) (k : ∀ σ2 f2 g2, zInx r σ2 → lJ G q p e s m below meth c b Z (cells + 1) (slots + 6) f2 g2 3361 (lL G q b i .null .null) σ2 []) : lJ G q p e s m below meth c b Z cells slots f g 2296 (lL G q b i .null .null) σ [] := by
  obtain ⟨ok, hq, hT, hX, hb, hA, ha, hd, hLs⟩ := id hx
  obtain ⟨Rc, σ1, rm, σ2, h1, h2, h3, h4⟩ := p_slotAt ok hI.1 hI.2.1 (xs (i + 1)) (xs (i + 2))
  have hK0 : ∀ x, x < s.heap.size → ¬ sj_A G x → ¬ s.heap.size ≤ x := fun x h _ h2 => by omega
  have hA' : ∀ x, lA G q x → s.heap.size ≤ x := fun x h => h.elim (hA x) (fun h => h.elim (fun h => h ▸ ha) (fun h => h ▸ hd))
  have hbA : ¬ s.heap.size ≤ b := by omega
  unfold lJ
  refine tj_aload_n (x := sj_ad G 0) dL_law_2296 (i := 1) rfl rfl ?_
  refine tj_scr hX hb hbA hLs (k := 1) rfl rfl (by omega) dL_law_2297 dL_law_2298 dL_law_2300 (by decide) dL_law_2301 dL_law_2302 ?_
  refine tj_scr hX hb hbA hLs (k := 2) rfl rfl (by omega) dL_law_2303 dL_law_2304 dL_law_2306 (by decide) dL_law_2307 dL_law_2308 ?_
  refine tj_aload_n (x := q.1) dL_law_2309 (i := 3) rfl rfl ?_
  refine lj_callS (M' := me_L_slotAt) (As := [.ref (sj_ad G 0), .int (xs (i + 1)), .int (xs (i + 2)), .ref q.1]) (rest := []) hK0 hA' hT dL_law_2310 gL_law_L_slotAt rfl hd_L_slotAt (Nat.le_of_ble_eq_true rfl) ⟨(Nat.le_of_ble_eq_true rfl), (Nat.le_of_ble_eq_true rfl)⟩ ⟨hc1, hc2⟩ (lm_slotAt ok hq h1 (z_err h3)) ?_
  refine tj_istore dL_law_2313 (by decide) ?_
  refine tj_aload_n (x := sj_ad G 56) dL_law_2315 (i := 2) rfl rfl ?_
  refine tj_scr hX hb hbA hLs (k := 1) rfl rfl (by omega) dL_law_2316 dL_law_2317 dL_law_2319 (by decide) dL_law_2320 dL_law_2321 ?_
  refine tj_scr hX hb hbA hLs (k := 2) rfl rfl (by omega) dL_law_2322 dL_law_2323 dL_law_2325 (by decide) dL_law_2326 dL_law_2327 ?_
  refine tj_callVi (M' := me_X12_slotAt) (b := 56) (As := [.int (xs (i + 1)), .int (xs (i + 2))]) (rest := []) hK0 hA (lok_E hq) dL_law_2328 gL_law_X12_slotAt rfl hd_X12_slotAt (by decide +kernel) (by decide +kernel) rfl (Nat.le_of_ble_eq_true rfl) ⟨(Nat.le_of_ble_eq_true rfl), (Nat.le_of_ble_eq_true rfl)⟩ rfl ⟨hc1, hc2⟩ h2 ?_
  refine tj_istore dL_law_2331 (by decide) ?_
  exact lj_tail hx h3 (fun _ => zcd_lt) hc1 hc2 dL_law_2333 dL_law_2334 dL_law_2337 dL_law_2339 dL_law_2344 dL_law_2346 dL_law_2349 dL_law_2350 dL_law_2351 dL_law_2352 dL_law_2354 dL_law_2355 dL_law_2356 dL_law_2361 (by decide) (k σ2 _ _ (zInv_IB hI h4))
set_option maxRecDepth 20000 in
theorem lc_35 (hx : lcx G q s b Ls xs) (hi : i + 6 ≤ Ls) (hI : zInv σ r) (hr : r + 200 < 2 ^ 27) (hc1 : cells + 1 ≤ 601024) (hc2 : slots + 6 ≤ 7293034) (k : ∀ σ2 f2 g2, zInx r σ2 → lJ G q p e s m below meth c b Z (cells + 1) (slots + 6) f2 g2 3361 (lL G q b i .null .null) σ2 []) : lJ G q p e s m below meth c b Z cells slots f g 2364 (lL G q b i .null .null) σ [] := by
  obtain ⟨ok, hq, hT, hX, hb, hA, ha, hd, hLs⟩ := id hx
  obtain ⟨Rc, σ1, rm, σ2, h1, h2, h3, h4⟩ := p_setYear ok hI.1 hI.2.2.2.1 (xs (i + 1))
  have hK0 : ∀ x, x < s.heap.size → ¬ sj_A G x → ¬ s.heap.size ≤ x := fun x h _ h2 => by omega
  have hA' : ∀ x, lA G q x → s.heap.size ≤ x := fun x h => h.elim (hA x) (fun h => h.elim (fun h => h ▸ ha) (fun h => h ▸ hd))
  have hbA : ¬ s.heap.size ≤ b := by omega
  unfold lJ
  refine tj_aload_n (x := sj_ad G 0) dL_law_2364 (i := 1) rfl rfl ?_
  refine tj_scr hX hb hbA hLs (k := 1) rfl rfl (by omega) dL_law_2365 dL_law_2366 dL_law_2368 (by decide) dL_law_2369 dL_law_2370 ?_
  refine tj_aload_n (x := q.1) dL_law_2371 (i := 3) rfl rfl ?_
  refine lj_callS (M' := me_L_setYear) (As := [.ref (sj_ad G 0), .int (xs (i + 1)), .ref q.1]) (rest := []) hK0 hA' hT dL_law_2372 gL_law_L_setYear rfl hd_L_setYear (Nat.le_of_ble_eq_true rfl) ⟨(Nat.le_of_ble_eq_true rfl), (Nat.le_of_ble_eq_true rfl)⟩ ⟨hc1, hc2⟩ (lm_setYear ok hq h1 (z_err h3)) ?_
  refine tj_istore dL_law_2375 (by decide) ?_
  refine tj_aload_n (x := sj_ad G 56) dL_law_2377 (i := 2) rfl rfl ?_
  refine tj_scr hX hb hbA hLs (k := 1) rfl rfl (by omega) dL_law_2378 dL_law_2379 dL_law_2381 (by decide) dL_law_2382 dL_law_2383 ?_
  refine tj_callVi (M' := me_X12_setYear) (b := 56) (As := [.int (xs (i + 1))]) (rest := []) hK0 hA (lok_E hq) dL_law_2384 gL_law_X12_setYear rfl hd_X12_setYear (by decide +kernel) (by decide +kernel) rfl (Nat.le_of_ble_eq_true rfl) ⟨(Nat.le_of_ble_eq_true rfl), (Nat.le_of_ble_eq_true rfl)⟩ rfl ⟨hc1, hc2⟩ h2 ?_
  refine tj_istore dL_law_2387 (by decide) ?_
  exact lj_tail hx h3 (fun _ => zcd_lt) hc1 hc2 dL_law_2389 dL_law_2390 dL_law_2393 dL_law_2395 dL_law_2400 dL_law_2402 dL_law_2405 dL_law_2406 dL_law_2407 dL_law_2408 dL_law_2410 dL_law_2411 dL_law_2412 dL_law_2417 (by decide) (k σ2 _ _ (zInv_IY hI h4))
end LC
