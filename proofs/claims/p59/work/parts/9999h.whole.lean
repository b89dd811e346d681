/-! P59: THE START: the law's object, the script stirred, the law's walk -/
section KPA
variable {l : Launch} {D : va_G} {cs : Nat → ClassId} {A : Nat → Prop} {M : sj_M} {p : Program} {e : Env} {s : State} {m : MethodId} {args : Array Value} {below : List Frame} {meth : Method} {c : Code} {rm : Room} {Z : State → Prop} {cells slots : Nat} {ws : va_W} {pc : Nat} {L st rest : List Value}
theorem kj_putA {ci k9 idx N h0 q0 : Nat} {Cn : String} {T : u_T} {fs fs' : List Value} {v : Value} {ty : FieldType} (hd : decode (sj_cc M) pc = .ok (.putfield idx, 3)) (ha : ws[q0]? = some (h0, .inr (ci, fs))) (hq : vwCl[ci]? = some (Cn, T, N)) (hk : k9 < N) (hlink : Cond.fieldLink (sj_own M) idx (T k9).1 (T k9).2.1 (T k9).2.2.1 ∈ sj_ws M) (hfin : (T k9).2.2.2 = false) (hpd : parseFieldDescriptor (T k9).2.2.1 = some ty) (hn : narrow ty v = v) (hfit : fits ty v = true) (hlen : k9 < fs.length) (hfs : fs.set k9 v = fs')
    (k : kj_J l D cs A M p e s m args below meth c rm Z cells slots (ws.set q0 (h0, .inr (ci, fs'))) (pc + 3) L rest) : kj_J l D cs A M p e s m args below meth c rm Z cells slots ws pc L (v :: .ref h0 :: rest) := by
  subst hfs
  intro C H locs ls hP hD hS hl
  have hcw : ∀ w ∈ sj_clw, w.before args s = true := fun w hw => by
    have g := List.all_eq_true.mp sj_clw_good w hw
    simp only [Bool.and_eq_true] at g
    exact va_Nw.use g.2 (C.2.2.2.2.2.2.2.1.2.1 w hw)
  exact va_put C.1 C.2.1 (own := sj_own M) (ref := (T k9).1) (C := Cn) (T := T) (N := N) hcw (sj_cls_in hq) (sj_ty ci) (sj_cls_ty hq) (sj_cls_nm hq) C.2.2.2.1 C.2.2.2.2.2.2.2.1.1 hP hD hS q0 ha hq k9 hk (C.2.2.2.2.1 _ hlink) (fun x hx => hx) hfin hpd hn hfit hlen hd (fun H1 locs1 hP1 hD1 hS1 => k C H1 locs1 ls hP1 hD1 hS1 hl)
end KPA
theorem kL_56 {ad : Nat → Nat} {cs : Nat → ClassId} {σ : sj_S} : ([] ++ kj_sl ad cs σ 0 70)[56]? = some (ad 56, .inr (12, sj_fs ad σ 56)) := by
  rw [List.nil_append]
  unfold kj_sl
  rw [List.getElem?_map, List.getElem?_range (by decide)]
  rfl
theorem l_notrace {l : Launch} (h : l.flags = flags0) : l.stackTraces = false := by
  unfold Launch.stackTraces
  rw [h]
  decide +kernel
abbrev me_L_law : sj_M := (x, RL, code, 2, wsF, ret)
theorem lT_bits {D : zD} (h : ∀ t, t < 6 → dIll D t = 0) : ∀ t d, t < 6 → d < 5 → (dIll D t).testBit d = false := fun t d ht _ => by rw [h t ht, Nat.zero_testBit]
section WLK
variable {G : sj_G} {p : Program} {e : Env} {s : State} {m : MethodId} {below : List Frame} {meth : Method} {c : Code} {b : Nat}
abbrev hJ (G : sj_G) (p : Program) (e : Env) (s : State) (m : MethodId) (b : Nat) (below : List Frame) (meth : Method) (c : Code) (cells slots : Nat) (ws : va_W) (pc : Nat) (L st : List Value) : Prop :=
  kj_J (sj_l G) (sj_D G) (sj_cs G) (sj_A G) me_L_law p e s m #[Value.ref b] below meth c room_1 (lw_Z below #[Value.ref b] s) cells slots ws pc L st
/-- the law's end -/
theorem h_exit (hA : ∀ x, sj_A G x → s.heap.size ≤ x) {cells slots : Nat} {ws : va_W} {L : List Value} (hc : cells ≤ 600086) (hs : slots ≤ 7301442) : hJ G p e s m b below meth c cells slots ws 68 L [] := by
  refine kj_iconst (v := 1) dL_law_68 (by decide) ?_
  refine kj_goto (tgt := 73) dL_law_69 (by decide) ?_
  intro C H locs ls hP hD hS hl
  refine va_forget (fun x hx => hA _ (hS.2.2 x hx)) ?_
  refine W.widen hc hs ?_
  exact lw_ret C.1 C.2.1 C.2.2.2.2.2.2.1 C.2.2.2.2.2.1 dL_law_73
set_option maxRecDepth 20000 in
/-- behind isFound -/
theorem h_rest (ok : sj_ok G) (K0 : sj_K G s s.heap) (hO : sj_ad G 70 = sj_ad G 0) (hA : ∀ x, sj_A G x → s.heap.size ≤ x) {cells slots : Nat} (hc : cells ≤ 600086) (hs : slots ≤ 7301442) {D : zD} {T : Nat → Nat} {σ : sj_S} {r : Nat} (hW : kW D T σ) (hL : lR D σ) (hd : zRd σ r) (hr : r + 200 < 2 ^ 27) (hE : lE9 D σ) {B h : Nat} {f g : Nat → Nat} (hY : zYr σ B 20260907 h f g) :
    hJ G p e s m b below meth c cells slots (sj_wd G σ) 30 [.ref b, .ref (sj_ad G 56)] [] := by
  have hcl : cells ≤ room_1.cells ∧ slots ≤ room_1.slots := ⟨hc, hs⟩
  refine kj_aload_n dL_law_30 (i := 1) rfl rfl ?_
  refine vj_call0 (M' := me_L_areColours) (d' := 11) (b := 56) (As := []) (rest := []) ok K0 dL_law_31 gL_law_L_areColours rfl hd_L_areColours (by decide +kernel) (by decide +kernel) rfl (Nat.le_of_ble_eq_true rfl) ⟨Nat.le_of_ble_eq_true rfl, Nat.le_of_ble_eq_true rfl⟩ rfl hcl (fun N okV => ?_)
  obtain ⟨σ1, c1, q1⟩ := l_areColours (G := gV G (sj_ad G) N) (σ := σ) okV hO hW hL
  refine ⟨_, σ1, c1, ?_⟩
  refine kj_if_eq (tgt := 72) dL_law_34 (by decide) (fun q => absurd q z_10) (fun _ => ?_)
  refine kj_aload_n dL_law_37 (i := 1) rfl rfl ?_
  refine vj_call0 (M' := me_L_areExams) (d' := 43) (b := 56) (As := []) (rest := []) ok K0 dL_law_38 gL_law_L_areExams rfl hd_L_areExams (by decide +kernel) (by decide +kernel) rfl (Nat.le_of_ble_eq_true rfl) ⟨Nat.le_of_ble_eq_true rfl, Nat.le_of_ble_eq_true rfl⟩ rfl hcl (fun N2 okV2 => ?_)
  have E1 : lE9 D σ1 := fun e o he ho => by rw [q1 69 (by omega)]; exact hE e o he ho
  obtain ⟨D', σ2, c2, -, q2, W2, L2⟩ := l_areExams (G := gV G (sj_ad G) N2) (σ := σ1) okV2 hO (kW_q hW q1) E1 (lQ hL q1)
  refine ⟨_, σ2, c2, ?_⟩
  refine kj_if_eq (tgt := 72) dL_law_41 (by decide) (fun q => absurd q z_10) (fun _ => ?_)
  refine kj_aload_n dL_law_44 (i := 1) rfl rfl ?_
  refine vj_call0 (M' := me_L_isYear) (d' := 12) (b := 56) (As := []) (rest := []) ok K0 dL_law_45 gL_law_L_isYear rfl hd_L_isYear (by decide +kernel) (by decide +kernel) rfl (Nat.le_of_ble_eq_true rfl) ⟨Nat.le_of_ble_eq_true rfl, Nat.le_of_ble_eq_true rfl⟩ rfl hcl (fun N3 okV3 => ?_)
  have Y2 : zYr σ2 B 20260907 h f g := zYr_of hY (by rw [q2.1 50 (by omega), q1 50 (by omega)]) (by rw [q2.1 51 (by omega), q1 51 (by omega)])
  obtain ⟨σ3, c3, q3⟩ := l_isYear (G := gV G (sj_ad G) N3) (σ := σ2) okV3 hO Y2
  refine ⟨_, σ3, c3, ?_⟩
  refine kj_if_eq (tgt := 72) dL_law_48 (by decide) (fun q => absurd q z_10) (fun _ => ?_)
  refine kj_aload_n dL_law_51 (i := 1) rfl rfl ?_
  refine vj_call0 (M' := me_L_areBells) (d' := 12) (b := 56) (As := []) (rest := []) ok K0 dL_law_52 gL_law_L_areBells rfl hd_L_areBells (by decide +kernel) (by decide +kernel) rfl (Nat.le_of_ble_eq_true rfl) ⟨Nat.le_of_ble_eq_true rfl, Nat.le_of_ble_eq_true rfl⟩ rfl hcl (fun N4 okV4 => ?_)
  obtain ⟨σ4, c4, q4, -⟩ := l_areBells (G := gV G (sj_ad G) N4) (σ := σ3) okV4 hO
  refine ⟨_, σ4, c4, ?_⟩
  refine kj_if_eq (tgt := 72) dL_law_55 (by decide) (fun q => absurd q z_10) (fun _ => ?_)
  refine kj_aload_n dL_law_58 (i := 1) rfl rfl ?_
  refine kj_getA (q0 := 56) (k9 := 1) (v := .ref (sj_ad G 0)) dL_law_59 (sj_wd_obj (by decide) (by decide +kernel)) rfl (by decide +kernel) (by decide +kernel) (lw_o hO) ?_
  refine vj_call0 (M' := me_X11_errors) (d' := 123) (b := 0) (As := []) (rest := []) ok K0 dL_law_62 gL_law_X11_errors rfl hd_X11_errors (by decide +kernel) (by decide +kernel) rfl (Nat.le_of_ble_eq_true rfl) ⟨Nat.le_of_ble_eq_true rfl, Nat.le_of_ble_eq_true rfl⟩ rfl hcl (fun N5 okV5 => ?_)
  have W4 : kW D' T σ4 := kW_e W2 (by rw [q4 2 (by decide) (by decide) (by decide) (by decide), q3.1 2 (by decide) (by decide) (by decide)]) (by rw [q4 3 (by decide) (by decide) (by decide) (by decide), q3.1 3 (by decide) (by decide) (by decide)]) (by rw [q4 4 (by decide) (by decide) (by decide) (by decide), q3.1 4 (by decide) (by decide) (by decide)])
  have R4 : zRd σ4 r := zRd_e hd (by rw [q4 30 (by decide) (by decide) (by decide) (by decide), q3.1 30 (by decide) (by decide) (by decide), q2.2.1 7 (by decide), q1 30 (by omega)]) (by rw [q4 33 (by decide) (by decide) (by decide) (by decide), q3.1 33 (by decide) (by decide) (by decide), q2.1 33 (by omega), q1 33 (by omega)])
  obtain ⟨σ5, c5⟩ := k_errors (G := gV G (sj_ad G) N5) (σ := σ4) okV5 W4 hr R4
  refine ⟨_, σ5, c5, ?_⟩
  refine kj_if_ne (tgt := 72) dL_law_65 (by decide) (fun q => absurd nI_0 q) (fun _ => ?_)
  exact h_exit hA hc hs
set_option maxRecDepth 20000 in
/-- behind the stirring -/
theorem h_walk (ok : sj_ok G) (K0 : sj_K G s s.heap) (hN : kNst s) (hO : sj_ad G 70 = sj_ad G 0) (hA : ∀ x, sj_A G x → s.heap.size ≤ x) {cells slots : Nat} (hc : cells + 728 ≤ 600086) (hs : slots + 78598 ≤ 7301442) {x0 : Int32} :
    hJ G p e s m b below meth c cells slots (sj_wd G (sj_st zInit 56 0 x0)) 16 [.ref b, .ref (sj_ad G 56)] [] := by
  have hcl : cells ≤ room_1.cells ∧ slots ≤ room_1.slots := ⟨by show cells ≤ 600086; omega, by show slots ≤ 7301442; omega⟩
  generalize e0 : sj_st zInit 56 0 x0 = σ
  have n0 : ∀ a, a ≠ 56 → σ a = zInit a := fun a ha => by rw [← e0, z_stn ha]
  have H0 : kH σ := kH_e zH0 (n0 4 (by decide))
  have R0 : zRd σ 0 := zRd_e zR0 (by rw [n0 30 (by decide)]) (n0 33 (by decide))
  refine kj_aload_n dL_law_16 (i := 1) rfl rfl ?_
  refine vj_call0 (M' := me_L_isDrawn) (d' := 13) (b := 56) (As := []) (rest := []) ok K0 dL_law_17 gL_law_L_isDrawn rfl hd_L_isDrawn (by decide +kernel) (by decide +kernel) rfl (Nat.le_of_ble_eq_true rfl) ⟨Nat.le_of_ble_eq_true rfl, Nat.le_of_ble_eq_true rfl⟩ rfl hcl (fun N okV => ?_)
  obtain ⟨D, σ1, c1, v, C1, H1, h1, hT0, L1, q1, r1⟩ := l_isDrawn (G := gV G (sj_ad G) N) (σ := σ) (D0 := zD0) okV hO (by rw [n0 2 (by decide)]; exact zD0_C) H0 zD0_k
  have n1 : ∀ a, a ≠ 2 → a ≠ 3 → a ≠ 4 → a ≠ 5 → a ≠ 30 → a < 56 ∨ 67 < a → σ1 a = zInit a := fun a a2 a3 a4 a5 a30 ha => by rw [q1.1 a a2 a3 a4 a5 a30 ha, n0 a (by omega)]
  have R1 : zRd σ1 0 := zRd_e R0 (q1.2 7 (by decide)) (q1.1 33 (by decide) (by decide) (by decide) (by decide) (by decide) (by decide))
  have hTc : ∀ t, t < 6 → dTch D t = 63 := fun t ht => (r1.1 t ht).1
  have hI : ∀ t, t < 6 → dIll D t = 0 := fun t ht => (r1.1 t ht).2
  have hAp : ∀ e, e < 8 → dAp D e = 0 := fun e he => r1.2 e he
  have h69 : ∀ i, σ1 69 i = nI 0 := fun i => by
    rw [n1 69 (by decide) (by decide) (by decide) (by decide) (by decide) (by decide)]
    show (0 : Int32) = nI 0
    exact nI_0.symm
  have h52 : σ1 52 2 = nI 0 := by
    rw [n1 52 (by decide) (by decide) (by decide) (by decide) (by decide) (by decide)]
    decide +kernel
  have Y1 : zYr σ1 13398 20260907 0 (fun _ => 0) (fun _ => 0) := zYr_of zY0 (n1 50 (by decide) (by decide) (by decide) (by decide) (by decide) (by decide)) (n1 51 (by decide) (by decide) (by decide) (by decide) (by decide) (by decide))
  have fin : ∀ {cells slots : Nat} {D' : zD} {T : Nat → Nat} {σ2 : sj_S} {r : Nat}, cells ≤ 600086 → slots ≤ 7301442 → kW D' T σ2 → lR D' σ2 → zRd σ2 r → r ≤ 200 → kF σ1 σ2 → (∀ e, e < 8 → dAp D' e = 0) → hJ G p e s m b below meth c cells slots (sj_wd G σ2) 30 [.ref b, .ref (sj_ad G 56)] [] := fun g1 g2 g3 g4 g5 g6 g7 g8 =>
    h_rest ok K0 hO hA g1 g2 g3 g4 g5 (by omega) (fun e o he ho => by rw [g7 69 (by omega), h69, g8 e he, Nat.zero_testBit]; rfl) (zYr_of Y1 (g7 50 (by omega)) (g7 51 (by omega)))
  refine ⟨_, σ1, c1, ?_⟩
  refine kj_if_eq (tgt := 72) dL_law_20 (by decide) (fun q => absurd q z_10) (fun _ => ?_)
  refine kj_aload_n dL_law_23 (i := 1) rfl rfl ?_
  by_cases hex : ∃ T, zRi D (zHd D) T
  · refine vj_call0 (M' := me_L_isFound) (d' := 125) (b := 56) (As := []) (rest := []) ok K0 dL_law_24 gL_law_L_isFound rfl hd_L_isFound (by decide +kernel) (by decide +kernel) rfl (Nat.le_of_ble_eq_true rfl) ⟨Nat.le_of_ble_eq_true rfl, Nat.le_of_ble_eq_true rfl⟩ rfl hcl (fun N2 okV2 => ?_)
    obtain ⟨D', T', σ2, r', c2, W2, L2, hr', R2, F2, e2⟩ := l_isFoundT (G := gV G (sj_ad G) N2) (σ := σ1) (r := 0) okV2 hO v C1 H1 L1 h1 h52 hTc (lT_bits hI) (by decide) R1 hex
    refine ⟨_, σ2, c2, ?_⟩
    refine kj_if_eq (tgt := 72) dL_law_27 (by decide) (fun q => absurd q z_10) (fun _ => ?_)
    exact fin (by omega) (by omega) W2 L2 R2 (by omega) F2 (fun e he => (e2 15 (by decide) (by decide) e).trans (hAp e he))
  · have hno : ∀ T, ¬ zRi D (zHd D) T := fun T hT => hex ⟨T, hT⟩
    refine vj_callP (M' := me_L_isFound) (d' := 125) (mc := 728) (ms := 78598) (b := 56) (As := []) (rest := []) ok K0 hN dL_law_24 gL_law_L_isFound rfl hd_L_isFound (by decide +kernel) (by decide +kernel) rfl (Nat.le_of_ble_eq_true rfl) ⟨Nat.le_of_ble_eq_true rfl, Nat.le_of_ble_eq_true rfl⟩ rfl ⟨hc, hs⟩ (fun N2 okV2 => ?_)
    refine ⟨_, _, l_isFoundN (G := gV G (sj_ad G) N2) (σ := σ1) (r := 0) okV2 hO v C1 H1 L1 h1 hT0 (by decide) R1 hno, fun τ hτ => ?_⟩
    obtain ⟨C2, H2, L2, ⟨r', hr', R2⟩, F2⟩ := hτ
    refine kj_if_eq (tgt := 72) dL_law_27 (by decide) (fun q => absurd q z_10) (fun _ => ?_)
    exact fin (T := fun _ => 0) hc hs ⟨v, C2, H2, fun q => absurd (hT0.symm.trans q) (by decide)⟩ L2 R2 (by omega) F2 hAp
end WLK
set_option maxRecDepth 20000 in
set_option maxHeartbeats 4000000 in
/-- from the entry, for every script of at most 260 ints, the law comes to its end with true -/
theorem whole_start {p : Program} {e : Env} {s : State} {m : MethodId} {below : List Frame} {meth : Method} {c : Code} (l : Launch) (hflags : l.flags = flags0) {b L : Nat} {xs : Nat → Int32} (hL : L ≤ 260) (C0 : lw_At p s m meth c b L xs) : W p l e room_1 s m #[Value.ref b] below meth c s.heap [] 0 0 (lw_Z below #[Value.ref b] s) (entryFrame m ([Value.ref b] : List Value).toArray 2) := by
  obtain ⟨hx, hb, hr, hml, hown, hts, hX, hbl, hlocks, hgv⟩ := id C0
  obtain ⟨D, cs, tk, tv, hKk, hR⟩ := ls_R (s := s) (b := b) ⟨hts, hgv⟩
  have hw : ∀ w ∈ wsF, w.before #[Value.ref b] s = true := fun w h => hts w (wsF_in w h)
  have hbA : ¬ (fun x : Nat => s.heap.size ≤ x) b := fun h => absurd (show s.heap.size ≤ b from h) (by omega)
  have CC : kj_Cx D cs (fun x => s.heap.size ≤ x) me_L_law p s m #[Value.ref b] meth c := ⟨hx, hb, hml, hown, hw, hlocks, hr, hKk, fun _ h => h⟩
  have hl := sj_lh_entry [.ref b] 2 (Nat.le_of_ble_eq_true rfl) (by simp [Value.category])
  rw [lg_entry_eq]
  refine (?_ : kj_J l D cs (fun x => s.heap.size ≤ x) me_L_law p e s m #[Value.ref b] below meth c room_1 (lw_Z below #[Value.ref b] s) 0 0 [] 0 ([Value.ref b] ++ List.replicate 1 .null) []) CC s.heap [] _ (fun k q h => by simp at h) ⟨fun i j p q h => by simp at h, fun k q h => by simp at h⟩ va_S.rf hl
  refine kj_new (ci := 12) (fs := kj_df 56) dL_law_0 rfl (by decide +kernel) (by decide +kernel) (by decide +kernel) (by decide +kernel) (Nat.le_of_ble_eq_true rfl) (Nat.le_of_ble_eq_true rfl) (fun x1 => ?_)
  refine kj_dup dL_law_3 rfl ?_
  refine kj_initI2 (M' := me_L_init) (d' := 5) (mc := 69) (ms := 6245) (σ0 := zInit) dL_law_4 gL_law_L_init rfl (by decide +kernel) (by decide +kernel) (by decide +kernel) rfl (by decide +kernel) ⟨Nat.le_of_ble_eq_true rfl, Nat.le_of_ble_eq_true rfl⟩ ⟨Nat.le_of_ble_eq_true rfl, Nat.le_of_ble_eq_true rfl⟩ (Nat.le_of_ble_eq_true rfl) k_L_init (fun ad e1 hO => ?_)
  subst e1
  refine kj_astore_n dL_law_7 (i := 1) rfl (by decide) ?_
  refine kj_aload_n dL_law_8 (i := 1) rfl rfl ?_
  refine kj_aload_n dL_law_9 (i := 0) rfl rfl ?_
  refine kj_callStir hX hbl hbA hL dL_law_10 gL_law_L_stirred rfl (Nat.le_of_ble_eq_true rfl) ⟨Nat.le_of_ble_eq_true rfl, Nat.le_of_ble_eq_true rfl⟩ ⟨Nat.le_of_ble_eq_true rfl, Nat.le_of_ble_eq_true rfl⟩ (fun x0 => ?_)
  -- its.x = ..
  refine kj_putA (q0 := 56) (ci := 12) (k9 := 0) (ty := .int) (fs' := sj_fs ad (sj_st zInit 56 0 x0) 56) dL_law_13 (kL_56 (ad := ad) (cs := cs)) rfl (by decide +kernel) (by decide +kernel) rfl (by decide +kernel) rfl rfl (Nat.le_of_ble_eq_true rfl) (sj_fs_set (ad := ad) (σ := zInit) (a := 56) (k := 0) (x := x0) (by decide +kernel)) ?_
  intro C H locs ls hP hD hS hl
  obtain ⟨G, hG⟩ : ∃ G : sj_G, G = (l, D.1, D.2, ad, cs, (fun x => s.heap.size ≤ x), s.heap.size, tk, tv) := ⟨_, rfl⟩
  have ew : ([] ++ kj_sl ad cs zInit 0 70).set 56 (ad 56, .inr (12, sj_fs ad (sj_st zInit 56 0 x0) 56)) = sj_wd G (sj_st zInit 56 0 x0) := by
    have e9 : ([] ++ kj_sl ad cs zInit 0 70) = sj_wd G zInit := by
      subst hG
      rw [List.nil_append]
      unfold kj_sl sj_wd
      apply List.map_congr_left
      intro k _
      rw [Nat.zero_add]
    rw [e9]
    have := sj_wd_set (G := G) (σ := zInit) (a := 56) (f := upd (zInit 56) 0 x0) (e := .inr (12, sj_fs ad (sj_st zInit 56 0 x0) 56)) (by decide) (by subst hG; rfl)
    subst hG
    exact this
  rw [ew] at hP hD
  have hgt : ∀ a, a < sj_NA → (sj_wd G (sj_st zInit 56 0 x0))[a]? = some (sj_ad G a, sj_ent (sj_ad G) (sj_cs G) (sj_st zInit 56 0 x0) a) := fun a ha => sj_wd_get ha
  have hAd : ∀ a, a < sj_NA → s.heap.size ≤ sj_ad G a := fun a ha => hD.2 a _ (hgt a ha)
  have ok : sj_ok G := by
    refine ⟨by subst hG; exact l_notrace hflags, fun x hx => by subst hG; exact hx, fun a ha => by have := hAd a ha; subst hG; exact this, fun a a2 ha ha2 he => hD.1 a a2 _ _ (hgt a ha) (hgt a2 ha2) he⟩
  have K0 : sj_K G s s.heap := by
    have := hR l ad (fun x => s.heap.size ≤ x) s.heap.size (fun _ h => h) (Nat.le_refl _)
    subst hG
    exact this
  subst hG
  exact h_walk (G := (l, D.1, D.2, ad, cs, (fun x => s.heap.size ≤ x), s.heap.size, tk, tv)) (p := p) (e := e) (s := s) (m := m) (b := b) (below := below) (meth := meth) (c := c) ok K0 hKk.2.2 hO (fun x h => h) (cells := 70) (slots := 6262) (by omega) (by omega) (x0 := x0) C H locs ls hP hD hS hl
