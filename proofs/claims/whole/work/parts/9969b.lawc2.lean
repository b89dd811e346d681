section LC
variable {G : sj_G} {q : lG} {p : Program} {e : Env} {s : State} {m : MethodId} {below : List Frame} {meth : Method} {c : Code} {b Ls i r : Nat} {xs : Nat → Int32} {Z : State → Prop} {cells slots : Nat} {f : Nat → Int64} {g : Nat → UInt64} {σ : sj_S}
set_option maxRecDepth 20000 in
theorem lc_36 (hx : lcx G q s b Ls xs) (hi : i + 6 ≤ Ls) (hI : zInv σ r) (hr : r + 200 < 2 ^ 27) (hc1 : cells + 1 ≤ 601024) (hc2 : slots + 6 ≤ 7293034) (k : ∀ σ2 f2 g2, zInx r σ2 → lJ G q p e s m below meth c b Z (cells + 1) (slots + 6) f2 g2 3361 (lL G q b i .null .null) σ2 []) : lJ G q p e s m below meth c b Z cells slots f g 2420 (lL G q b i .null .null) σ [] := by
  obtain ⟨ok, hq, hT, hX, hb, hA, ha, hd, hLs⟩ := id hx
  obtain ⟨Rc, σ1, rm, σ2, h1, h2, h3, h4⟩ := p_holiday ok hI.1 hI.2.2.2.1 (xs (i + 1)) (xs (i + 2))
  have hK0 : ∀ x, x < s.heap.size → ¬ sj_A G x → ¬ s.heap.size ≤ x := fun x h _ h2 => by omega
  have hA' : ∀ x, lA G q x → s.heap.size ≤ x := fun x h => h.elim (hA x) (fun h => h.elim (fun h => h ▸ ha) (fun h => h ▸ hd))
  have hbA : ¬ s.heap.size ≤ b := by omega
  unfold lJ
  refine tj_aload_n (x := sj_ad G 0) dL_law_2420 (i := 1) rfl rfl ?_
  refine tj_scr hX hb hbA hLs (k := 1) rfl rfl (by omega) dL_law_2421 dL_law_2422 dL_law_2424 (by decide) dL_law_2425 dL_law_2426 ?_
  refine tj_scr hX hb hbA hLs (k := 2) rfl rfl (by omega) dL_law_2427 dL_law_2428 dL_law_2430 (by decide) dL_law_2431 dL_law_2432 ?_
  refine tj_aload_n (x := q.1) dL_law_2433 (i := 3) rfl rfl ?_
  refine lj_callS (M' := me_L_holiday) (As := [.ref (sj_ad G 0), .int (xs (i + 1)), .int (xs (i + 2)), .ref q.1]) (rest := []) hK0 hA' hT dL_law_2434 gL_law_L_holiday rfl hd_L_holiday (Nat.le_of_ble_eq_true rfl) ⟨(Nat.le_of_ble_eq_true rfl), (Nat.le_of_ble_eq_true rfl)⟩ ⟨hc1, hc2⟩ (lm_holiday ok hq h1 (z_err h3)) ?_
  refine tj_istore dL_law_2437 (by decide) ?_
  refine tj_aload_n (x := sj_ad G 56) dL_law_2439 (i := 2) rfl rfl ?_
  refine tj_scr hX hb hbA hLs (k := 1) rfl rfl (by omega) dL_law_2440 dL_law_2441 dL_law_2443 (by decide) dL_law_2444 dL_law_2445 ?_
  refine tj_scr hX hb hbA hLs (k := 2) rfl rfl (by omega) dL_law_2446 dL_law_2447 dL_law_2449 (by decide) dL_law_2450 dL_law_2451 ?_
  refine tj_callVi (M' := me_X12_holiday) (b := 56) (As := [.int (xs (i + 1)), .int (xs (i + 2))]) (rest := []) hK0 hA (lok_E hq) dL_law_2452 gL_law_X12_holiday rfl hd_X12_holiday (by decide +kernel) (by decide +kernel) rfl (Nat.le_of_ble_eq_true rfl) ⟨(Nat.le_of_ble_eq_true rfl), (Nat.le_of_ble_eq_true rfl)⟩ rfl ⟨hc1, hc2⟩ h2 ?_
  refine tj_istore dL_law_2455 (by decide) ?_
  exact lj_tail hx h3 (fun _ => zcd_lt) hc1 hc2 dL_law_2457 dL_law_2458 dL_law_2461 dL_law_2463 dL_law_2468 dL_law_2470 dL_law_2473 dL_law_2474 dL_law_2475 dL_law_2476 dL_law_2478 dL_law_2479 dL_law_2480 dL_law_2485 (by decide) (k σ2 _ _ (zInv_IY hI h4))
set_option maxRecDepth 20000 in
theorem lc_37 (hx : lcx G q s b Ls xs) (hi : i + 6 ≤ Ls) (hI : zInv σ r) (hr : r + 200 < 2 ^ 27) (hc1 : cells + 1 ≤ 601024) (hc2 : slots + 6 ≤ 7293034) (k : ∀ σ2 f2 g2, zInx r σ2 → lJ G q p e s m below meth c b Z (cells + 1) (slots + 6) f2 g2 3361 (lL G q b i .null .null) σ2 []) : lJ G q p e s m below meth c b Z cells slots f g 2488 (lL G q b i .null .null) σ [] := by
  obtain ⟨ok, hq, hT, hX, hb, hA, ha, hd, hLs⟩ := id hx
  obtain ⟨Rc, σ1, rm, σ2, h1, h2, h3, h4⟩ := p_schoolDays ok hI.1 hI.2.2.2.1
  obtain rfl := z_ok h3
  have hK0 : ∀ x, x < s.heap.size → ¬ sj_A G x → ¬ s.heap.size ≤ x := fun x h _ h2 => by omega
  have hcs : cells ≤ 601024 ∧ slots ≤ 7293034 := ⟨by omega, by omega⟩
  unfold lJ at k ⊢
  refine tj_aload_n (x := sj_ad G 0) dL_law_2488 (i := 1) rfl rfl ?_
  refine tj_callVi (M' := me_X11_schoolDays) (b := 0) (As := []) (rest := []) hK0 hA (lok_E hq) dL_law_2489 gL_law_X11_schoolDays rfl hd_X11_schoolDays (by decide +kernel) (by decide +kernel) rfl (Nat.le_of_ble_eq_true rfl) ⟨(Nat.le_of_ble_eq_true rfl), (Nat.le_of_ble_eq_true rfl)⟩ rfl hcs h1 ?_
  refine tj_aload_n (x := sj_ad G 56) dL_law_2492 (i := 2) rfl rfl ?_
  refine tj_callVi (M' := me_X12_schoolDays) (b := 56) (As := []) (rest := [.int rm]) hK0 hA (lok_E hq) dL_law_2493 gL_law_X12_schoolDays rfl hd_X12_schoolDays (by decide +kernel) (by decide +kernel) rfl (Nat.le_of_ble_eq_true rfl) ⟨(Nat.le_of_ble_eq_true rfl), (Nat.le_of_ble_eq_true rfl)⟩ rfl hcs h2 ?_
  refine tj_icmp_eq (tgt := 3361) dL_law_2496 (by decide) (fun _ => ?_) (fun h => absurd rfl h)
  exact tj_widen (Nat.le_add_right _ _) (Nat.le_add_right _ _) (k σ2 f g (zInv_I2 hI h4))
set_option maxRecDepth 20000 in
theorem lc_38 (hx : lcx G q s b Ls xs) (hi : i + 6 ≤ Ls) (hI : zInv σ r) (hr : r + 200 < 2 ^ 27) (hc1 : cells + 1 ≤ 601024) (hc2 : slots + 6 ≤ 7293034) (k : ∀ σ2 f2 g2, zInx r σ2 → lJ G q p e s m below meth c b Z (cells + 1) (slots + 6) f2 g2 3361 (lL G q b i .null .null) σ2 []) : lJ G q p e s m below meth c b Z cells slots f g 2501 (lL G q b i .null .null) σ [] := by
  obtain ⟨ok, hq, hT, hX, hb, hA, ha, hd, hLs⟩ := id hx
  obtain ⟨Rc, σ1, rm, σ2, h1, h2, h3, h4⟩ := p_dateOf ok hI.1 hI.2.2.2.1 (xs (i + 1))
  have hK0 : ∀ x, x < s.heap.size → ¬ sj_A G x → ¬ s.heap.size ≤ x := fun x h _ h2 => by omega
  have hA' : ∀ x, lA G q x → s.heap.size ≤ x := fun x h => h.elim (hA x) (fun h => h.elim (fun h => h ▸ ha) (fun h => h ▸ hd))
  have hbA : ¬ s.heap.size ≤ b := by omega
  unfold lJ
  refine tj_aload_n (x := sj_ad G 0) dL_law_2501 (i := 1) rfl rfl ?_
  refine tj_scr hX hb hbA hLs (k := 1) rfl rfl (by omega) dL_law_2502 dL_law_2503 dL_law_2505 (by decide) dL_law_2506 dL_law_2507 ?_
  refine tj_aload_n (x := q.1) dL_law_2508 (i := 3) rfl rfl ?_
  refine lj_callS (M' := me_L_dateOf) (As := [.ref (sj_ad G 0), .int (xs (i + 1)), .ref q.1]) (rest := []) hK0 hA' hT dL_law_2509 gL_law_L_dateOf rfl hd_L_dateOf (Nat.le_of_ble_eq_true rfl) ⟨(Nat.le_of_ble_eq_true rfl), (Nat.le_of_ble_eq_true rfl)⟩ ⟨hc1, hc2⟩ (lm_dateOf ok hq h1 (z_err h3)) ?_
  refine tj_istore dL_law_2512 (by decide) ?_
  refine tj_aload_n (x := sj_ad G 56) dL_law_2514 (i := 2) rfl rfl ?_
  refine tj_scr hX hb hbA hLs (k := 1) rfl rfl (by omega) dL_law_2515 dL_law_2516 dL_law_2518 (by decide) dL_law_2519 dL_law_2520 ?_
  refine tj_callVi (M' := me_X12_dateOf) (b := 56) (As := [.int (xs (i + 1))]) (rest := []) hK0 hA (lok_E hq) dL_law_2521 gL_law_X12_dateOf rfl hd_X12_dateOf (by decide +kernel) (by decide +kernel) rfl (Nat.le_of_ble_eq_true rfl) ⟨(Nat.le_of_ble_eq_true rfl), (Nat.le_of_ble_eq_true rfl)⟩ rfl ⟨hc1, hc2⟩ h2 ?_
  refine tj_istore dL_law_2524 (by decide) ?_
  exact lj_tail hx h3 (fun _ => zcd_lt) hc1 hc2 dL_law_2526 dL_law_2527 dL_law_2530 dL_law_2532 dL_law_2537 dL_law_2539 dL_law_2542 dL_law_2543 dL_law_2544 dL_law_2545 dL_law_2547 dL_law_2548 dL_law_2549 dL_law_2554 (by decide) (k σ2 _ _ (zInv_I2 hI h4))
set_option maxRecDepth 20000 in
theorem lc_39 (hx : lcx G q s b Ls xs) (hi : i + 6 ≤ Ls) (hI : zInv σ r) (hr : r + 200 < 2 ^ 27) (hc1 : cells + 1 ≤ 601024) (hc2 : slots + 6 ≤ 7293034) (k : ∀ σ2 f2 g2, zInx r σ2 → lJ G q p e s m below meth c b Z (cells + 1) (slots + 6) f2 g2 3361 (lL G q b i .null .null) σ2 []) : lJ G q p e s m below meth c b Z cells slots f g 2557 (lL G q b i .null .null) σ [] := by
  obtain ⟨ok, hq, hT, hX, hb, hA, ha, hd, hLs⟩ := id hx
  obtain ⟨Rc, σ1, rm, σ2, h1, h2, h3, h4⟩ := p_numberOf ok hI.1 hI.2.2.2.1 (xs (i + 1))
  have hK0 : ∀ x, x < s.heap.size → ¬ sj_A G x → ¬ s.heap.size ≤ x := fun x h _ h2 => by omega
  have hA' : ∀ x, lA G q x → s.heap.size ≤ x := fun x h => h.elim (hA x) (fun h => h.elim (fun h => h ▸ ha) (fun h => h ▸ hd))
  have hbA : ¬ s.heap.size ≤ b := by omega
  unfold lJ
  refine tj_aload_n (x := sj_ad G 0) dL_law_2557 (i := 1) rfl rfl ?_
  refine tj_scr hX hb hbA hLs (k := 1) rfl rfl (by omega) dL_law_2558 dL_law_2559 dL_law_2561 (by decide) dL_law_2562 dL_law_2563 ?_
  refine tj_aload_n (x := q.1) dL_law_2564 (i := 3) rfl rfl ?_
  refine lj_callS (M' := me_L_numberOf) (As := [.ref (sj_ad G 0), .int (xs (i + 1)), .ref q.1]) (rest := []) hK0 hA' hT dL_law_2565 gL_law_L_numberOf rfl hd_L_numberOf (Nat.le_of_ble_eq_true rfl) ⟨(Nat.le_of_ble_eq_true rfl), (Nat.le_of_ble_eq_true rfl)⟩ ⟨hc1, hc2⟩ (lm_numberOf ok hq h1 (z_err h3)) ?_
  refine tj_istore dL_law_2568 (by decide) ?_
  refine tj_aload_n (x := sj_ad G 56) dL_law_2570 (i := 2) rfl rfl ?_
  refine tj_scr hX hb hbA hLs (k := 1) rfl rfl (by omega) dL_law_2571 dL_law_2572 dL_law_2574 (by decide) dL_law_2575 dL_law_2576 ?_
  refine tj_callVi (M' := me_X12_numberOf) (b := 56) (As := [.int (xs (i + 1))]) (rest := []) hK0 hA (lok_E hq) dL_law_2577 gL_law_X12_numberOf rfl hd_X12_numberOf (by decide +kernel) (by decide +kernel) rfl (Nat.le_of_ble_eq_true rfl) ⟨(Nat.le_of_ble_eq_true rfl), (Nat.le_of_ble_eq_true rfl)⟩ rfl ⟨hc1, hc2⟩ h2 ?_
  refine tj_istore dL_law_2580 (by decide) ?_
  exact lj_tail hx h3 (fun _ => zcd_lt) hc1 hc2 dL_law_2582 dL_law_2583 dL_law_2586 dL_law_2588 dL_law_2593 dL_law_2595 dL_law_2598 dL_law_2599 dL_law_2600 dL_law_2601 dL_law_2603 dL_law_2604 dL_law_2605 dL_law_2610 (by decide) (k σ2 _ _ (zInv_I2 hI h4))
set_option maxRecDepth 20000 in
theorem lc_40 (hx : lcx G q s b Ls xs) (hi : i + 6 ≤ Ls) (hI : zInv σ r) (hr : r + 200 < 2 ^ 27) (hc1 : cells + 1 ≤ 601024) (hc2 : slots + 6 ≤ 7293034) (k : ∀ σ2 f2 g2, zInx r σ2 → lJ G q p e s m below meth c b Z (cells + 1) (slots + 6) f2 g2 3361 (lL G q b i .null .null) σ2 []) : lJ G q p e s m below meth c b Z cells slots f g 2613 (lL G q b i .null .null) σ [] := by
  obtain ⟨ok, hq, hT, hX, hb, hA, ha, hd, hLs⟩ := id hx
  obtain ⟨Rc, σ1, rm, σ2, h1, h2, h3, h4⟩ := p_nextDay ok hI.1 hI.2.2.2.1 (xs (i + 1))
  have hK0 : ∀ x, x < s.heap.size → ¬ sj_A G x → ¬ s.heap.size ≤ x := fun x h _ h2 => by omega
  have hA' : ∀ x, lA G q x → s.heap.size ≤ x := fun x h => h.elim (hA x) (fun h => h.elim (fun h => h ▸ ha) (fun h => h ▸ hd))
  have hbA : ¬ s.heap.size ≤ b := by omega
  unfold lJ
  refine tj_aload_n (x := sj_ad G 0) dL_law_2613 (i := 1) rfl rfl ?_
  refine tj_scr hX hb hbA hLs (k := 1) rfl rfl (by omega) dL_law_2614 dL_law_2615 dL_law_2617 (by decide) dL_law_2618 dL_law_2619 ?_
  refine tj_aload_n (x := q.1) dL_law_2620 (i := 3) rfl rfl ?_
  refine lj_callS (M' := me_L_nextDay) (As := [.ref (sj_ad G 0), .int (xs (i + 1)), .ref q.1]) (rest := []) hK0 hA' hT dL_law_2621 gL_law_L_nextDay rfl hd_L_nextDay (Nat.le_of_ble_eq_true rfl) ⟨(Nat.le_of_ble_eq_true rfl), (Nat.le_of_ble_eq_true rfl)⟩ ⟨hc1, hc2⟩ (lm_nextDay ok hq h1 (z_err h3)) ?_
  refine tj_istore dL_law_2624 (by decide) ?_
  refine tj_aload_n (x := sj_ad G 56) dL_law_2626 (i := 2) rfl rfl ?_
  refine tj_scr hX hb hbA hLs (k := 1) rfl rfl (by omega) dL_law_2627 dL_law_2628 dL_law_2630 (by decide) dL_law_2631 dL_law_2632 ?_
  refine tj_callVi (M' := me_X12_nextDay) (b := 56) (As := [.int (xs (i + 1))]) (rest := []) hK0 hA (lok_E hq) dL_law_2633 gL_law_X12_nextDay rfl hd_X12_nextDay (by decide +kernel) (by decide +kernel) rfl (Nat.le_of_ble_eq_true rfl) ⟨(Nat.le_of_ble_eq_true rfl), (Nat.le_of_ble_eq_true rfl)⟩ rfl ⟨hc1, hc2⟩ h2 ?_
  refine tj_istore dL_law_2636 (by decide) ?_
  exact lj_tail hx h3 (fun _ => zcd_lt) hc1 hc2 dL_law_2638 dL_law_2639 dL_law_2642 dL_law_2644 dL_law_2649 dL_law_2651 dL_law_2654 dL_law_2655 dL_law_2656 dL_law_2657 dL_law_2659 dL_law_2660 dL_law_2661 dL_law_2666 (by decide) (k σ2 _ _ (zInv_I2 hI h4))
set_option maxRecDepth 20000 in
theorem lc_41 (hx : lcx G q s b Ls xs) (hi : i + 6 ≤ Ls) (hI : zInv σ r) (hr : r + 200 < 2 ^ 27) (hc1 : cells + 1 ≤ 601024) (hc2 : slots + 6 ≤ 7293034) (k : ∀ σ2 f2 g2, zInx r σ2 → lJ G q p e s m below meth c b Z (cells + 1) (slots + 6) f2 g2 3361 (lL G q b i .null .null) σ2 []) : lJ G q p e s m below meth c b Z cells slots f g 2669 (lL G q b i .null .null) σ [] := by
  obtain ⟨ok, hq, hT, hX, hb, hA, ha, hd, hLs⟩ := id hx
  obtain ⟨Rc, σ1, rm, σ2, h1, h2, h3, h4⟩ := p_weekOf ok hI.1 hI.2.2.2.1 (xs (i + 1)) (xs (i + 2))
  have hK0 : ∀ x, x < s.heap.size → ¬ sj_A G x → ¬ s.heap.size ≤ x := fun x h _ h2 => by omega
  have hA' : ∀ x, lA G q x → s.heap.size ≤ x := fun x h => h.elim (hA x) (fun h => h.elim (fun h => h ▸ ha) (fun h => h ▸ hd))
  have hbA : ¬ s.heap.size ≤ b := by omega
  unfold lJ
  refine tj_aload_n (x := sj_ad G 0) dL_law_2669 (i := 1) rfl rfl ?_
  refine tj_scr hX hb hbA hLs (k := 1) rfl rfl (by omega) dL_law_2670 dL_law_2671 dL_law_2673 (by decide) dL_law_2674 dL_law_2675 ?_
  refine tj_scr hX hb hbA hLs (k := 2) rfl rfl (by omega) dL_law_2676 dL_law_2677 dL_law_2679 (by decide) dL_law_2680 dL_law_2681 ?_
  refine tj_aload_n (x := q.1) dL_law_2682 (i := 3) rfl rfl ?_
  refine lj_callS (M' := me_L_weekOf) (As := [.ref (sj_ad G 0), .int (xs (i + 1)), .int (xs (i + 2)), .ref q.1]) (rest := []) hK0 hA' hT dL_law_2683 gL_law_L_weekOf rfl hd_L_weekOf (Nat.le_of_ble_eq_true rfl) ⟨(Nat.le_of_ble_eq_true rfl), (Nat.le_of_ble_eq_true rfl)⟩ ⟨hc1, hc2⟩ (lm_weekOf ok hq h1 (z_err h3)) ?_
  refine tj_istore dL_law_2686 (by decide) ?_
  refine tj_aload_n (x := sj_ad G 56) dL_law_2688 (i := 2) rfl rfl ?_
  refine tj_scr hX hb hbA hLs (k := 1) rfl rfl (by omega) dL_law_2689 dL_law_2690 dL_law_2692 (by decide) dL_law_2693 dL_law_2694 ?_
  refine tj_scr hX hb hbA hLs (k := 2) rfl rfl (by omega) dL_law_2695 dL_law_2696 dL_law_2698 (by decide) dL_law_2699 dL_law_2700 ?_
  refine tj_callVi (M' := me_X12_weekOf) (b := 56) (As := [.int (xs (i + 1)), .int (xs (i + 2))]) (rest := []) hK0 hA (lok_E hq) dL_law_2701 gL_law_X12_weekOf rfl hd_X12_weekOf (by decide +kernel) (by decide +kernel) rfl (Nat.le_of_ble_eq_true rfl) ⟨(Nat.le_of_ble_eq_true rfl), (Nat.le_of_ble_eq_true rfl)⟩ rfl ⟨hc1, hc2⟩ h2 ?_
  refine tj_istore dL_law_2704 (by decide) ?_
  exact lj_tail hx h3 (fun _ => zcd_lt) hc1 hc2 dL_law_2706 dL_law_2707 dL_law_2710 dL_law_2712 dL_law_2717 dL_law_2719 dL_law_2722 dL_law_2723 dL_law_2724 dL_law_2725 dL_law_2727 dL_law_2728 dL_law_2729 dL_law_2734 (by decide) (k σ2 _ _ (zInv_I2 hI h4))
set_option maxRecDepth 20000 in
theorem lc_42 (hx : lcx G q s b Ls xs) (hi : i + 6 ≤ Ls) (hI : zInv σ r) (hr : r + 200 < 2 ^ 27) (hc1 : cells + 1 ≤ 601024) (hc2 : slots + 6 ≤ 7293034) (k : ∀ σ2 f2 g2, zInx r σ2 → lJ G q p e s m below meth c b Z (cells + 1) (slots + 6) f2 g2 3361 (lL G q b i .null .null) σ2 []) : lJ G q p e s m below meth c b Z cells slots f g 2737 (lL G q b i .null .null) σ [] := by
  obtain ⟨ok, hq, hT, hX, hb, hA, ha, hd, hLs⟩ := id hx
  obtain ⟨Rc, σ1, rm, σ2, h1, h2, h3, h4⟩ := p_dayOfWeek ok hI.1 (xs (i + 1))
  have hK0 : ∀ x, x < s.heap.size → ¬ sj_A G x → ¬ s.heap.size ≤ x := fun x h _ h2 => by omega
  have hA' : ∀ x, lA G q x → s.heap.size ≤ x := fun x h => h.elim (hA x) (fun h => h.elim (fun h => h ▸ ha) (fun h => h ▸ hd))
  have hbA : ¬ s.heap.size ≤ b := by omega
  unfold lJ
  refine tj_aload_n (x := sj_ad G 0) dL_law_2737 (i := 1) rfl rfl ?_
  refine tj_scr hX hb hbA hLs (k := 1) rfl rfl (by omega) dL_law_2738 dL_law_2739 dL_law_2741 (by decide) dL_law_2742 dL_law_2743 ?_
  refine tj_aload_n (x := q.1) dL_law_2744 (i := 3) rfl rfl ?_
  refine lj_callS (M' := me_L_dayOfWeek) (As := [.ref (sj_ad G 0), .int (xs (i + 1)), .ref q.1]) (rest := []) hK0 hA' hT dL_law_2745 gL_law_L_dayOfWeek rfl hd_L_dayOfWeek (Nat.le_of_ble_eq_true rfl) ⟨(Nat.le_of_ble_eq_true rfl), (Nat.le_of_ble_eq_true rfl)⟩ ⟨hc1, hc2⟩ (lm_dayOfWeek ok hq h1 (z_err h3)) ?_
  refine tj_istore dL_law_2748 (by decide) ?_
  refine tj_aload_n (x := sj_ad G 56) dL_law_2750 (i := 2) rfl rfl ?_
  refine tj_scr hX hb hbA hLs (k := 1) rfl rfl (by omega) dL_law_2751 dL_law_2752 dL_law_2754 (by decide) dL_law_2755 dL_law_2756 ?_
  refine tj_callVi (M' := me_X12_dayOfWeek) (b := 56) (As := [.int (xs (i + 1))]) (rest := []) hK0 hA (lok_E hq) dL_law_2757 gL_law_X12_dayOfWeek rfl hd_X12_dayOfWeek (by decide +kernel) (by decide +kernel) rfl (Nat.le_of_ble_eq_true rfl) ⟨(Nat.le_of_ble_eq_true rfl), (Nat.le_of_ble_eq_true rfl)⟩ rfl ⟨hc1, hc2⟩ h2 ?_
  refine tj_istore dL_law_2760 (by decide) ?_
  exact lj_tail hx h3 (fun _ => zcd_lt) hc1 hc2 dL_law_2762 dL_law_2763 dL_law_2766 dL_law_2768 dL_law_2773 dL_law_2775 dL_law_2778 dL_law_2779 dL_law_2780 dL_law_2781 dL_law_2783 dL_law_2784 dL_law_2785 dL_law_2790 (by decide) (k σ2 _ _ (zInv_I2 hI h4))
set_option maxRecDepth 20000 in
theorem lc_43 (hx : lcx G q s b Ls xs) (hi : i + 6 ≤ Ls) (hI : zInv σ r) (hr : r + 200 < 2 ^ 27) (hc1 : cells + 1 ≤ 601024) (hc2 : slots + 6 ≤ 7293034) (k : ∀ σ2 f2 g2, zInx r σ2 → lJ G q p e s m below meth c b Z (cells + 1) (slots + 6) f2 g2 3361 (lL G q b i .null .null) σ2 []) : lJ G q p e s m below meth c b Z cells slots f g 2793 (lL G q b i .null .null) σ [] := by
  obtain ⟨ok, hq, hT, hX, hb, hA, ha, hd, hLs⟩ := id hx
  obtain ⟨Rc, σ1, rm, σ2, h1, h2, h3, h4⟩ := p_later ok hI.1 (xs (i + 1)) (xs (i + 2))
  have hK0 : ∀ x, x < s.heap.size → ¬ sj_A G x → ¬ s.heap.size ≤ x := fun x h _ h2 => by omega
  have hA' : ∀ x, lA G q x → s.heap.size ≤ x := fun x h => h.elim (hA x) (fun h => h.elim (fun h => h ▸ ha) (fun h => h ▸ hd))
  have hbA : ¬ s.heap.size ≤ b := by omega
  unfold lJ
  refine tj_aload_n (x := sj_ad G 0) dL_law_2793 (i := 1) rfl rfl ?_
  refine tj_scr hX hb hbA hLs (k := 1) rfl rfl (by omega) dL_law_2794 dL_law_2795 dL_law_2797 (by decide) dL_law_2798 dL_law_2799 ?_
  refine tj_scr hX hb hbA hLs (k := 2) rfl rfl (by omega) dL_law_2800 dL_law_2801 dL_law_2803 (by decide) dL_law_2804 dL_law_2805 ?_
  refine tj_aload_n (x := q.1) dL_law_2806 (i := 3) rfl rfl ?_
  refine lj_callS (M' := me_L_later) (As := [.ref (sj_ad G 0), .int (xs (i + 1)), .int (xs (i + 2)), .ref q.1]) (rest := []) hK0 hA' hT dL_law_2807 gL_law_L_later rfl hd_L_later (Nat.le_of_ble_eq_true rfl) ⟨(Nat.le_of_ble_eq_true rfl), (Nat.le_of_ble_eq_true rfl)⟩ ⟨hc1, hc2⟩ (lm_later ok hq h1 (z_err h3)) ?_
  refine tj_istore dL_law_2810 (by decide) ?_
  refine tj_aload_n (x := sj_ad G 56) dL_law_2812 (i := 2) rfl rfl ?_
  refine tj_scr hX hb hbA hLs (k := 1) rfl rfl (by omega) dL_law_2813 dL_law_2814 dL_law_2816 (by decide) dL_law_2817 dL_law_2818 ?_
  refine tj_scr hX hb hbA hLs (k := 2) rfl rfl (by omega) dL_law_2819 dL_law_2820 dL_law_2822 (by decide) dL_law_2823 dL_law_2824 ?_
  refine tj_callVi (M' := me_X12_later) (b := 56) (As := [.int (xs (i + 1)), .int (xs (i + 2))]) (rest := []) hK0 hA (lok_E hq) dL_law_2825 gL_law_X12_later rfl hd_X12_later (by decide +kernel) (by decide +kernel) rfl (Nat.le_of_ble_eq_true rfl) ⟨(Nat.le_of_ble_eq_true rfl), (Nat.le_of_ble_eq_true rfl)⟩ rfl ⟨hc1, hc2⟩ h2 ?_
  refine tj_istore dL_law_2828 (by decide) ?_
  exact lj_tail hx h3 (fun _ => zcd_lt) hc1 hc2 dL_law_2830 dL_law_2831 dL_law_2834 dL_law_2836 dL_law_2841 dL_law_2843 dL_law_2846 dL_law_2847 dL_law_2848 dL_law_2849 dL_law_2851 dL_law_2852 dL_law_2853 dL_law_2858 (by decide) (k σ2 _ _ (zInv_I2 hI h4))
set_option maxRecDepth 20000 in
theorem lc_44 (hx : lcx G q s b Ls xs) (hi : i + 6 ≤ Ls) (hI : zInv σ r) (hr : r + 200 < 2 ^ 27) (hc1 : cells + 1 ≤ 601024) (hc2 : slots + 6 ≤ 7293034) (k : ∀ σ2 f2 g2, zInx r σ2 → lJ G q p e s m below meth c b Z (cells + 1) (slots + 6) f2 g2 3361 (lL G q b i .null .null) σ2 []) : lJ G q p e s m below meth c b Z cells slots f g 2861 (lL G q b i .null .null) σ [] := by
  obtain ⟨ok, hq, hT, hX, hb, hA, ha, hd, hLs⟩ := id hx
  obtain ⟨Rc, σ1, rm, σ2, h1, h2, h3, h4⟩ := p_lostLessons ok hI.1 hI.2.2.2.1 (xs (i + 1))
  have hK0 : ∀ x, x < s.heap.size → ¬ sj_A G x → ¬ s.heap.size ≤ x := fun x h _ h2 => by omega
  have hA' : ∀ x, lA G q x → s.heap.size ≤ x := fun x h => h.elim (hA x) (fun h => h.elim (fun h => h ▸ ha) (fun h => h ▸ hd))
  have hbA : ¬ s.heap.size ≤ b := by omega
  unfold lJ
  refine tj_aload_n (x := sj_ad G 0) dL_law_2861 (i := 1) rfl rfl ?_
  refine tj_scr hX hb hbA hLs (k := 1) rfl rfl (by omega) dL_law_2862 dL_law_2863 dL_law_2865 (by decide) dL_law_2866 dL_law_2867 ?_
  refine tj_aload_n (x := q.1) dL_law_2868 (i := 3) rfl rfl ?_
  refine lj_callS (M' := me_L_lostLessons) (As := [.ref (sj_ad G 0), .int (xs (i + 1)), .ref q.1]) (rest := []) hK0 hA' hT dL_law_2869 gL_law_L_lostLessons rfl hd_L_lostLessons (Nat.le_of_ble_eq_true rfl) ⟨(Nat.le_of_ble_eq_true rfl), (Nat.le_of_ble_eq_true rfl)⟩ ⟨hc1, hc2⟩ (lm_lostLessons ok hq h1 (z_err h3)) ?_
  refine tj_istore dL_law_2872 (by decide) ?_
  refine tj_aload_n (x := sj_ad G 56) dL_law_2874 (i := 2) rfl rfl ?_
  refine tj_scr hX hb hbA hLs (k := 1) rfl rfl (by omega) dL_law_2875 dL_law_2876 dL_law_2878 (by decide) dL_law_2879 dL_law_2880 ?_
  refine tj_callVi (M' := me_X12_lostLessons) (b := 56) (As := [.int (xs (i + 1))]) (rest := []) hK0 hA (lok_E hq) dL_law_2881 gL_law_X12_lostLessons rfl hd_X12_lostLessons (by decide +kernel) (by decide +kernel) rfl (Nat.le_of_ble_eq_true rfl) ⟨(Nat.le_of_ble_eq_true rfl), (Nat.le_of_ble_eq_true rfl)⟩ rfl ⟨hc1, hc2⟩ h2 ?_
  refine tj_istore dL_law_2884 (by decide) ?_
  exact lj_tail hx h3 (fun _ => zcd_lt) hc1 hc2 dL_law_2886 dL_law_2887 dL_law_2890 dL_law_2892 dL_law_2897 dL_law_2899 dL_law_2902 dL_law_2903 dL_law_2904 dL_law_2905 dL_law_2907 dL_law_2908 dL_law_2909 dL_law_2914 (by decide) (k σ2 _ _ (zInv_I2 hI h4))
set_option maxRecDepth 20000 in
theorem lc_45 (hx : lcx G q s b Ls xs) (hi : i + 6 ≤ Ls) (hI : zInv σ r) (hr : r + 200 < 2 ^ 27) (hc1 : cells + 1 ≤ 601024) (hc2 : slots + 6 ≤ 7293034) (k : ∀ σ2 f2 g2, zInx r σ2 → lJ G q p e s m below meth c b Z (cells + 1) (slots + 6) f2 g2 3361 (lL G q b i .null .null) σ2 []) : lJ G q p e s m below meth c b Z cells slots f g 2917 (lL G q b i .null .null) σ [] := by
  obtain ⟨ok, hq, hT, hX, hb, hA, ha, hd, hLs⟩ := id hx
  obtain ⟨Rc, σ1, rm, σ2, h1, h2, h3, h4⟩ := p_append ok hI.1 hI.2.2.1 (xs (i + 1)) (xs (i + 2)) (xs (i + 3)) (xs (i + 4)) (xs (i + 5))
  have hK0 : ∀ x, x < s.heap.size → ¬ sj_A G x → ¬ s.heap.size ≤ x := fun x h _ h2 => by omega
  have hA' : ∀ x, lA G q x → s.heap.size ≤ x := fun x h => h.elim (hA x) (fun h => h.elim (fun h => h ▸ ha) (fun h => h ▸ hd))
  have hbA : ¬ s.heap.size ≤ b := by omega
  unfold lJ
  refine tj_aload_n (x := sj_ad G 0) dL_law_2917 (i := 1) rfl rfl ?_
  refine tj_scr hX hb hbA hLs (k := 1) rfl rfl (by omega) dL_law_2918 dL_law_2919 dL_law_2921 (by decide) dL_law_2922 dL_law_2923 ?_
  refine tj_scr hX hb hbA hLs (k := 2) rfl rfl (by omega) dL_law_2924 dL_law_2925 dL_law_2927 (by decide) dL_law_2928 dL_law_2929 ?_
  refine tj_scr hX hb hbA hLs (k := 3) rfl rfl (by omega) dL_law_2930 dL_law_2931 dL_law_2933 (by decide) dL_law_2934 dL_law_2935 ?_
  refine tj_scr hX hb hbA hLs (k := 4) rfl rfl (by omega) dL_law_2936 dL_law_2937 dL_law_2939 (by decide) dL_law_2940 dL_law_2941 ?_
  refine tj_scr hX hb hbA hLs (k := 5) rfl rfl (by omega) dL_law_2942 dL_law_2943 dL_law_2945 (by decide) dL_law_2946 dL_law_2947 ?_
  refine tj_aload_n (x := q.1) dL_law_2948 (i := 3) rfl rfl ?_
  refine lj_callS (M' := me_L_append) (As := [.ref (sj_ad G 0), .int (xs (i + 1)), .int (xs (i + 2)), .int (xs (i + 3)), .int (xs (i + 4)), .int (xs (i + 5)), .ref q.1]) (rest := []) hK0 hA' hT dL_law_2949 gL_law_L_append rfl hd_L_append (Nat.le_of_ble_eq_true rfl) ⟨(Nat.le_of_ble_eq_true rfl), (Nat.le_of_ble_eq_true rfl)⟩ ⟨hc1, hc2⟩ (lm_append ok hq h1 (z_err h3)) ?_
  refine tj_istore dL_law_2952 (by decide) ?_
  refine tj_aload_n (x := sj_ad G 56) dL_law_2954 (i := 2) rfl rfl ?_
  refine tj_scr hX hb hbA hLs (k := 1) rfl rfl (by omega) dL_law_2955 dL_law_2956 dL_law_2958 (by decide) dL_law_2959 dL_law_2960 ?_
  refine tj_scr hX hb hbA hLs (k := 2) rfl rfl (by omega) dL_law_2961 dL_law_2962 dL_law_2964 (by decide) dL_law_2965 dL_law_2966 ?_
  refine tj_scr hX hb hbA hLs (k := 3) rfl rfl (by omega) dL_law_2967 dL_law_2968 dL_law_2970 (by decide) dL_law_2971 dL_law_2972 ?_
  refine tj_scr hX hb hbA hLs (k := 4) rfl rfl (by omega) dL_law_2973 dL_law_2974 dL_law_2976 (by decide) dL_law_2977 dL_law_2978 ?_
  refine tj_scr hX hb hbA hLs (k := 5) rfl rfl (by omega) dL_law_2979 dL_law_2980 dL_law_2982 (by decide) dL_law_2983 dL_law_2984 ?_
  refine tj_callVi (M' := me_X12_append) (b := 56) (As := [.int (xs (i + 1)), .int (xs (i + 2)), .int (xs (i + 3)), .int (xs (i + 4)), .int (xs (i + 5))]) (rest := []) hK0 hA (lok_E hq) dL_law_2985 gL_law_X12_append rfl hd_X12_append (by decide +kernel) (by decide +kernel) rfl (Nat.le_of_ble_eq_true rfl) ⟨(Nat.le_of_ble_eq_true rfl), (Nat.le_of_ble_eq_true rfl)⟩ rfl ⟨hc1, hc2⟩ h2 ?_
  refine tj_istore dL_law_2988 (by decide) ?_
  exact lj_tail hx h3 (fun _ => zcd_lt) hc1 hc2 dL_law_2990 dL_law_2991 dL_law_2994 dL_law_2996 dL_law_3001 dL_law_3003 dL_law_3006 dL_law_3007 dL_law_3008 dL_law_3009 dL_law_3011 dL_law_3012 dL_law_3013 dL_law_3018 (by decide) (k σ2 _ _ (zInv_IT hI h4))
set_option maxRecDepth 20000 in
theorem lc_46 (hx : lcx G q s b Ls xs) (hi : i + 6 ≤ Ls) (hI : zInv σ r) (hr : r + 200 < 2 ^ 27) (hc1 : cells + 1 ≤ 601024) (hc2 : slots + 6 ≤ 7293034) (k : ∀ σ2 f2 g2, zInx r σ2 → lJ G q p e s m below meth c b Z (cells + 1) (slots + 6) f2 g2 3361 (lL G q b i .null .null) σ2 []) : lJ G q p e s m below meth c b Z cells slots f g 3021 (lL G q b i .null .null) σ [] := by
  obtain ⟨ok, hq, hT, hX, hb, hA, ha, hd, hLs⟩ := id hx
  obtain ⟨Rc, σ1, rm, σ2, h1, h2, h3, h4⟩ := p_clearTape ok hI.1 hI.2.2.1
  obtain rfl := z_ok h3
  have hK0 : ∀ x, x < s.heap.size → ¬ sj_A G x → ¬ s.heap.size ≤ x := fun x h _ h2 => by omega
  have hcs : cells ≤ 601024 ∧ slots ≤ 7293034 := ⟨by omega, by omega⟩
  unfold lJ at k ⊢
  refine tj_aload_n (x := sj_ad G 0) dL_law_3021 (i := 1) rfl rfl ?_
  refine tj_callVi (M' := me_X11_clearTape) (b := 0) (As := []) (rest := []) hK0 hA (lok_E hq) dL_law_3022 gL_law_X11_clearTape rfl hd_X11_clearTape (by decide +kernel) (by decide +kernel) rfl (Nat.le_of_ble_eq_true rfl) ⟨(Nat.le_of_ble_eq_true rfl), (Nat.le_of_ble_eq_true rfl)⟩ rfl hcs h1 ?_
  refine tj_aload_n (x := sj_ad G 56) dL_law_3025 (i := 2) rfl rfl ?_
  refine tj_callVi (M' := me_X12_clearTape) (b := 56) (As := []) (rest := [.int rm]) hK0 hA (lok_E hq) dL_law_3026 gL_law_X12_clearTape rfl hd_X12_clearTape (by decide +kernel) (by decide +kernel) rfl (Nat.le_of_ble_eq_true rfl) ⟨(Nat.le_of_ble_eq_true rfl), (Nat.le_of_ble_eq_true rfl)⟩ rfl hcs h2 ?_
  refine tj_icmp_eq (tgt := 3361) dL_law_3029 (by decide) (fun _ => ?_) (fun h => absurd rfl h)
  exact tj_widen (Nat.le_add_right _ _) (Nat.le_add_right _ _) (k σ2 f g (zInv_IT hI h4))
set_option maxRecDepth 20000 in
theorem lc_47 (hx : lcx G q s b Ls xs) (hi : i + 6 ≤ Ls) (hI : zInv σ r) (hr : r + 200 < 2 ^ 27) (hc1 : cells + 1 ≤ 601024) (hc2 : slots + 6 ≤ 7293034) (k : ∀ σ2 f2 g2, zInx r σ2 → lJ G q p e s m below meth c b Z (cells + 1) (slots + 6) f2 g2 3361 (lL G q b i .null .null) σ2 []) : lJ G q p e s m below meth c b Z cells slots f g 3034 (lL G q b i .null .null) σ [] := by
  obtain ⟨ok, hq, hT, hX, hb, hA, ha, hd, hLs⟩ := id hx
  obtain ⟨Rc, σ1, rm, σ2, h1, h2, h3, h4⟩ := p_read ok hI.1 hI.2.2.1
  have hK0 : ∀ x, x < s.heap.size → ¬ sj_A G x → ¬ s.heap.size ≤ x := fun x h _ h2 => by omega
  have hA' : ∀ x, lA G q x → s.heap.size ≤ x := fun x h => h.elim (hA x) (fun h => h.elim (fun h => h ▸ ha) (fun h => h ▸ hd))
  have hbA : ¬ s.heap.size ≤ b := by omega
  unfold lJ
  refine tj_aload_n (x := sj_ad G 0) dL_law_3034 (i := 1) rfl rfl ?_
  refine tj_aload_n (x := q.1) dL_law_3035 (i := 3) rfl rfl ?_
  refine lj_callS (M' := me_L_read) (As := [.ref (sj_ad G 0), .ref q.1]) (rest := []) hK0 hA' hT dL_law_3036 gL_law_L_read rfl hd_L_read (Nat.le_of_ble_eq_true rfl) ⟨(Nat.le_of_ble_eq_true rfl), (Nat.le_of_ble_eq_true rfl)⟩ ⟨hc1, hc2⟩ (lm_read ok hq h1 (z_err h3)) ?_
  refine tj_istore dL_law_3039 (by decide) ?_
  refine tj_aload_n (x := sj_ad G 56) dL_law_3041 (i := 2) rfl rfl ?_
  refine tj_callVi (M' := me_X12_read) (b := 56) (As := []) (rest := []) hK0 hA (lok_E hq) dL_law_3042 gL_law_X12_read rfl hd_X12_read (by decide +kernel) (by decide +kernel) rfl (Nat.le_of_ble_eq_true rfl) ⟨(Nat.le_of_ble_eq_true rfl), (Nat.le_of_ble_eq_true rfl)⟩ rfl ⟨hc1, hc2⟩ h2 ?_
  refine tj_istore dL_law_3045 (by decide) ?_
  exact lj_tail hx h3 (fun _ => zcd_lt) hc1 hc2 dL_law_3047 dL_law_3048 dL_law_3051 dL_law_3053 dL_law_3058 dL_law_3060 dL_law_3063 dL_law_3064 dL_law_3065 dL_law_3066 dL_law_3068 dL_law_3069 dL_law_3070 dL_law_3075 (by decide) (k σ2 _ _ (zInv_IT hI h4))
set_option maxRecDepth 20000 in
theorem lc_48 (hx : lcx G q s b Ls xs) (hi : i + 6 ≤ Ls) (hI : zInv σ r) (hr : r + 200 < 2 ^ 27) (hc1 : cells + 1 ≤ 601024) (hc2 : slots + 6 ≤ 7293034) (k : ∀ σ2 f2 g2, zInx r σ2 → lJ G q p e s m below meth c b Z (cells + 1) (slots + 6) f2 g2 3361 (lL G q b i .null .null) σ2 []) : lJ G q p e s m below meth c b Z cells slots f g 3078 (lL G q b i .null .null) σ [] := by
  obtain ⟨ok, hq, hT, hX, hb, hA, ha, hd, hLs⟩ := id hx
  obtain ⟨Rc, σ1, rm, σ2, h1, h2, h3, h4⟩ := p_errorPosition ok hI.1 hI.2.2.1
  obtain rfl := z_ok h3
  have hK0 : ∀ x, x < s.heap.size → ¬ sj_A G x → ¬ s.heap.size ≤ x := fun x h _ h2 => by omega
  have hcs : cells ≤ 601024 ∧ slots ≤ 7293034 := ⟨by omega, by omega⟩
  unfold lJ at k ⊢
  refine tj_aload_n (x := sj_ad G 0) dL_law_3078 (i := 1) rfl rfl ?_
  refine tj_callVi (M' := me_X11_errorPosition) (b := 0) (As := []) (rest := []) hK0 hA (lok_E hq) dL_law_3079 gL_law_X11_errorPosition rfl hd_X11_errorPosition (by decide +kernel) (by decide +kernel) rfl (Nat.le_of_ble_eq_true rfl) ⟨(Nat.le_of_ble_eq_true rfl), (Nat.le_of_ble_eq_true rfl)⟩ rfl hcs h1 ?_
  refine tj_aload_n (x := sj_ad G 56) dL_law_3082 (i := 2) rfl rfl ?_
  refine tj_callVi (M' := me_X12_errorPosition) (b := 56) (As := []) (rest := [.int rm]) hK0 hA (lok_E hq) dL_law_3083 gL_law_X12_errorPosition rfl hd_X12_errorPosition (by decide +kernel) (by decide +kernel) rfl (Nat.le_of_ble_eq_true rfl) ⟨(Nat.le_of_ble_eq_true rfl), (Nat.le_of_ble_eq_true rfl)⟩ rfl hcs h2 ?_
  refine tj_icmp_eq (tgt := 3361) dL_law_3086 (by decide) (fun _ => ?_) (fun h => absurd rfl h)
  exact tj_widen (Nat.le_add_right _ _) (Nat.le_add_right _ _) (k σ2 f g (zInv_IT hI h4))
set_option maxRecDepth 20000 in
theorem lc_49 (hx : lcx G q s b Ls xs) (hi : i + 6 ≤ Ls) (hI : zInv σ r) (hr : r + 200 < 2 ^ 27) (hc1 : cells + 1 ≤ 601024) (hc2 : slots + 6 ≤ 7293034) (k : ∀ σ2 f2 g2, zInx r σ2 → lJ G q p e s m below meth c b Z (cells + 1) (slots + 6) f2 g2 3361 (lL G q b i .null .null) σ2 []) : lJ G q p e s m below meth c b Z cells slots f g 3091 (lL G q b i .null .null) σ [] := by
  obtain ⟨ok, hq, hT, hX, hb, hA, ha, hd, hLs⟩ := id hx
  obtain ⟨Rc, σ1, rm, σ2, h1, h2, h3, h4⟩ := p_write ok hI.1 hI.2.2.1
  have hK0 : ∀ x, x < s.heap.size → ¬ sj_A G x → ¬ s.heap.size ≤ x := fun x h _ h2 => by omega
  have hA' : ∀ x, lA G q x → s.heap.size ≤ x := fun x h => h.elim (hA x) (fun h => h.elim (fun h => h ▸ ha) (fun h => h ▸ hd))
  have hbA : ¬ s.heap.size ≤ b := by omega
  unfold lJ
  refine tj_aload_n (x := sj_ad G 0) dL_law_3091 (i := 1) rfl rfl ?_
  refine tj_aload_n (x := q.1) dL_law_3092 (i := 3) rfl rfl ?_
  refine lj_callS (M' := me_L_write) (As := [.ref (sj_ad G 0), .ref q.1]) (rest := []) hK0 hA' hT dL_law_3093 gL_law_L_write rfl hd_L_write (Nat.le_of_ble_eq_true rfl) ⟨(Nat.le_of_ble_eq_true rfl), (Nat.le_of_ble_eq_true rfl)⟩ ⟨hc1, hc2⟩ (lm_write ok hq h1 (z_err h3)) ?_
  refine tj_istore dL_law_3096 (by decide) ?_
  refine tj_aload_n (x := sj_ad G 56) dL_law_3098 (i := 2) rfl rfl ?_
  refine tj_callVi (M' := me_X12_write) (b := 56) (As := []) (rest := []) hK0 hA (lok_E hq) dL_law_3099 gL_law_X12_write rfl hd_X12_write (by decide +kernel) (by decide +kernel) rfl (Nat.le_of_ble_eq_true rfl) ⟨(Nat.le_of_ble_eq_true rfl), (Nat.le_of_ble_eq_true rfl)⟩ rfl ⟨hc1, hc2⟩ h2 ?_
  refine tj_istore dL_law_3102 (by decide) ?_
  exact lj_tail hx h3 (fun _ => zcd_lt) hc1 hc2 dL_law_3104 dL_law_3105 dL_law_3108 dL_law_3110 dL_law_3115 dL_law_3117 dL_law_3120 dL_law_3121 dL_law_3122 dL_law_3123 dL_law_3125 dL_law_3126 dL_law_3127 dL_law_3132 (by decide) (k σ2 _ _ (zInv_IT hI h4))
set_option maxRecDepth 20000 in
theorem lc_50 (hx : lcx G q s b Ls xs) (hi : i + 6 ≤ Ls) (hI : zInv σ r) (hr : r + 200 < 2 ^ 27) (hc1 : cells + 1 ≤ 601024) (hc2 : slots + 6 ≤ 7293034) (k : ∀ σ2 f2 g2, zInx r σ2 → lJ G q p e s m below meth c b Z (cells + 1) (slots + 6) f2 g2 3361 (lL G q b i .null .null) σ2 []) : lJ G q p e s m below meth c b Z cells slots f g 3135 (lL G q b i .null .null) σ [] := by
  obtain ⟨ok, hq, hT, hX, hb, hA, ha, hd, hLs⟩ := id hx
  obtain ⟨Rc, σ1, rm, σ2, h1, h2, h3, h4⟩ := p_writtenAt ok hI.1 hI.2.2.1 (xs (i + 1))
  have hK0 : ∀ x, x < s.heap.size → ¬ sj_A G x → ¬ s.heap.size ≤ x := fun x h _ h2 => by omega
  have hA' : ∀ x, lA G q x → s.heap.size ≤ x := fun x h => h.elim (hA x) (fun h => h.elim (fun h => h ▸ ha) (fun h => h ▸ hd))
  have hbA : ¬ s.heap.size ≤ b := by omega
  unfold lJ
  refine tj_aload_n (x := sj_ad G 0) dL_law_3135 (i := 1) rfl rfl ?_
  refine tj_scr hX hb hbA hLs (k := 1) rfl rfl (by omega) dL_law_3136 dL_law_3137 dL_law_3139 (by decide) dL_law_3140 dL_law_3141 ?_
  refine tj_aload_n (x := q.1) dL_law_3142 (i := 3) rfl rfl ?_
  refine lj_callS (M' := me_L_writtenAt) (As := [.ref (sj_ad G 0), .int (xs (i + 1)), .ref q.1]) (rest := []) hK0 hA' hT dL_law_3143 gL_law_L_writtenAt rfl hd_L_writtenAt (Nat.le_of_ble_eq_true rfl) ⟨(Nat.le_of_ble_eq_true rfl), (Nat.le_of_ble_eq_true rfl)⟩ ⟨hc1, hc2⟩ (lm_writtenAt ok hq h1 (z_err h3)) ?_
  refine tj_istore dL_law_3146 (by decide) ?_
  refine tj_aload_n (x := sj_ad G 56) dL_law_3148 (i := 2) rfl rfl ?_
  refine tj_scr hX hb hbA hLs (k := 1) rfl rfl (by omega) dL_law_3149 dL_law_3150 dL_law_3152 (by decide) dL_law_3153 dL_law_3154 ?_
  refine tj_callVi (M' := me_X12_writtenAt) (b := 56) (As := [.int (xs (i + 1))]) (rest := []) hK0 hA (lok_E hq) dL_law_3155 gL_law_X12_writtenAt rfl hd_X12_writtenAt (by decide +kernel) (by decide +kernel) rfl (Nat.le_of_ble_eq_true rfl) ⟨(Nat.le_of_ble_eq_true rfl), (Nat.le_of_ble_eq_true rfl)⟩ rfl ⟨hc1, hc2⟩ h2 ?_
  refine tj_istore dL_law_3158 (by decide) ?_
  exact lj_tail hx h3 (fun _ => zcd_lt) hc1 hc2 dL_law_3160 dL_law_3161 dL_law_3164 dL_law_3166 dL_law_3171 dL_law_3173 dL_law_3176 dL_law_3177 dL_law_3178 dL_law_3179 dL_law_3181 dL_law_3182 dL_law_3183 dL_law_3188 (by decide) (k σ2 _ _ (zInv_IT hI h4))
set_option maxRecDepth 20000 in
theorem lc_51 (hx : lcx G q s b Ls xs) (hi : i + 6 ≤ Ls) (hI : zInv σ r) (hr : r + 200 < 2 ^ 27) (hc1 : cells + 1 ≤ 601024) (hc2 : slots + 6 ≤ 7293034) (k : ∀ σ2 f2 g2, zInx r σ2 → lJ G q p e s m below meth c b Z (cells + 1) (slots + 6) f2 g2 3361 (lL G q b i .null .null) σ2 []) : lJ G q p e s m below meth c b Z cells slots f g 3191 (lL G q b i .null .null) σ [] := by
  obtain ⟨ok, hq, hT, hX, hb, hA, ha, hd, hLs⟩ := id hx
  obtain ⟨Rc, σ1, rm, σ2, h1, h2, h3, h4⟩ := p_undo ok hI.1
  obtain rfl := z_ok h3
  have hK0 : ∀ x, x < s.heap.size → ¬ sj_A G x → ¬ s.heap.size ≤ x := fun x h _ h2 => by omega
  have hcs : cells ≤ 601024 ∧ slots ≤ 7293034 := ⟨by omega, by omega⟩
  unfold lJ at k ⊢
  refine tj_aload_n (x := sj_ad G 0) dL_law_3191 (i := 1) rfl rfl ?_
  refine tj_callVi (M' := me_X11_undo) (b := 0) (As := []) (rest := []) hK0 hA (lok_E hq) dL_law_3192 gL_law_X11_undo rfl hd_X11_undo (by decide +kernel) (by decide +kernel) rfl (Nat.le_of_ble_eq_true rfl) ⟨(Nat.le_of_ble_eq_true rfl), (Nat.le_of_ble_eq_true rfl)⟩ rfl hcs h1 ?_
  refine tj_aload_n (x := sj_ad G 56) dL_law_3195 (i := 2) rfl rfl ?_
  refine tj_callVi (M' := me_X12_undo) (b := 56) (As := []) (rest := [.int rm]) hK0 hA (lok_E hq) dL_law_3196 gL_law_X12_undo rfl hd_X12_undo (by decide +kernel) (by decide +kernel) rfl (Nat.le_of_ble_eq_true rfl) ⟨(Nat.le_of_ble_eq_true rfl), (Nat.le_of_ble_eq_true rfl)⟩ rfl hcs h2 ?_
  refine tj_icmp_eq (tgt := 3361) dL_law_3199 (by decide) (fun _ => ?_) (fun h => absurd rfl h)
  exact tj_widen (Nat.le_add_right _ _) (Nat.le_add_right _ _) (k σ2 f g (zInv_I2 hI h4))
set_option maxRecDepth 20000 in
theorem lc_52 (hx : lcx G q s b Ls xs) (hi : i + 6 ≤ Ls) (hI : zInv σ r) (hr : r + 200 < 2 ^ 27) (hc1 : cells + 1 ≤ 601024) (hc2 : slots + 6 ≤ 7293034) (k : ∀ σ2 f2 g2, zInx r σ2 → lJ G q p e s m below meth c b Z (cells + 1) (slots + 6) f2 g2 3361 (lL G q b i .null .null) σ2 []) : lJ G q p e s m below meth c b Z cells slots f g 3204 (lL G q b i .null .null) σ [] := by
  obtain ⟨ok, hq, hT, hX, hb, hA, ha, hd, hLs⟩ := id hx
  obtain ⟨Rc, σ1, rm, σ2, h1, h2, h3, h4⟩ := p_checksum ok hI.1
  obtain rfl := z_ok h3
  have hK0 : ∀ x, x < s.heap.size → ¬ sj_A G x → ¬ s.heap.size ≤ x := fun x h _ h2 => by omega
  have hcs : cells ≤ 601024 ∧ slots ≤ 7293034 := ⟨by omega, by omega⟩
  unfold lJ at k ⊢
  refine tj_aload_n (x := sj_ad G 0) dL_law_3204 (i := 1) rfl rfl ?_
  refine tj_callVi (M' := me_X11_checksum) (b := 0) (As := []) (rest := []) hK0 hA (lok_E hq) dL_law_3205 gL_law_X11_checksum rfl hd_X11_checksum (by decide +kernel) (by decide +kernel) rfl (Nat.le_of_ble_eq_true rfl) ⟨(Nat.le_of_ble_eq_true rfl), (Nat.le_of_ble_eq_true rfl)⟩ rfl hcs h1 ?_
  refine tj_aload_n (x := sj_ad G 56) dL_law_3208 (i := 2) rfl rfl ?_
  refine tj_callVi (M' := me_X12_checksum) (b := 56) (As := []) (rest := [.int rm]) hK0 hA (lok_E hq) dL_law_3209 gL_law_X12_checksum rfl hd_X12_checksum (by decide +kernel) (by decide +kernel) rfl (Nat.le_of_ble_eq_true rfl) ⟨(Nat.le_of_ble_eq_true rfl), (Nat.le_of_ble_eq_true rfl)⟩ rfl hcs h2 ?_
  refine tj_icmp_eq (tgt := 3361) dL_law_3212 (by decide) (fun _ => ?_) (fun h => absurd rfl h)
  exact tj_widen (Nat.le_add_right _ _) (Nat.le_add_right _ _) (k σ2 f g (zInv_I2 hI h4))
set_option maxRecDepth 20000 in
theorem lc_55 (hx : lcx G q s b Ls xs) (hi : i + 6 ≤ Ls) (hI : zInv σ r) (hr : r + 200 < 2 ^ 27) (hc1 : cells + 1 ≤ 601024) (hc2 : slots + 6 ≤ 7293034) (k : ∀ σ2 f2 g2, zInx r σ2 → lJ G q p e s m below meth c b Z (cells + 1) (slots + 6) f2 g2 3361 (lL G q b i .null .null) σ2 []) : lJ G q p e s m below meth c b Z cells slots f g 3348 (lL G q b i .null .null) σ [] := by
  obtain ⟨ok, hq, hT, hX, hb, hA, ha, hd, hLs⟩ := id hx
  obtain ⟨Rc, σ1, rm, σ2, h1, h2, h3, h4⟩ := p_errors ok hI.1 hr hI.2.2.2.2
  obtain rfl := z_ok h3
  have hK0 : ∀ x, x < s.heap.size → ¬ sj_A G x → ¬ s.heap.size ≤ x := fun x h _ h2 => by omega
  have hcs : cells ≤ 601024 ∧ slots ≤ 7293034 := ⟨by omega, by omega⟩
  unfold lJ at k ⊢
  refine tj_aload_n (x := sj_ad G 0) dL_law_3348 (i := 1) rfl rfl ?_
  refine tj_callVi (M' := me_X11_errors) (b := 0) (As := []) (rest := []) hK0 hA (lok_E hq) dL_law_3349 gL_law_X11_errors rfl hd_X11_errors (by decide +kernel) (by decide +kernel) rfl (Nat.le_of_ble_eq_true rfl) ⟨(Nat.le_of_ble_eq_true rfl), (Nat.le_of_ble_eq_true rfl)⟩ rfl hcs h1 ?_
  refine tj_aload_n (x := sj_ad G 56) dL_law_3352 (i := 2) rfl rfl ?_
  refine tj_callVi (M' := me_X12_errors) (b := 56) (As := []) (rest := [.int rm]) hK0 hA (lok_E hq) dL_law_3353 gL_law_X12_errors rfl hd_X12_errors (by decide +kernel) (by decide +kernel) rfl (Nat.le_of_ble_eq_true rfl) ⟨(Nat.le_of_ble_eq_true rfl), (Nat.le_of_ble_eq_true rfl)⟩ rfl hcs h2 ?_
  refine tj_icmp_eq (tgt := 3361) dL_law_3356 (by decide) (fun _ => ?_) (fun h => absurd rfl h)
  exact tj_widen (Nat.le_add_right _ _) (Nat.le_add_right _ _) (k σ2 f g (zInv_IF hI h4))
end LC
