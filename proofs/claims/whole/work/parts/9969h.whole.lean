/-! THE START: both objects, the two arrays, the loop -/
section KJ2
variable {l : Launch} {D : va_G} {cs : Nat → ClassId} {A : Nat → Prop} {M : sj_M} {p : Program} {e : Env} {s : State} {m : MethodId} {args : Array Value} {below : List Frame} {meth : Method} {c : Code} {rm : Room} {Z : State → Prop} {cells slots : Nat} {ws : va_W} {pc : Nat} {L st rest : List Value}
theorem kj_astore_n {k9 : Fin 4} {i : Nat} {x : Nat} (hd : decode (sj_cc M) pc = .ok (.astore_n k9, 1)) (hi : (k9 : Nat) = i) (hn : i < sj_nL M) (k : kj_J l D cs A M p e s m args below meth c rm Z cells slots ws (pc + 1) (L.set i (.ref x)) rest) : kj_J l D cs A M p e s m args below meth c rm Z cells slots ws pc L (.ref x :: rest) := by
  subst hi
  intro C H locs ls hP hD hS hl
  obtain ⟨ls', e', h'⟩ := sj_lh_set (v := .ref x) hl hn rfl
  have hx := C.1
  have hb := C.2.1
  intro T hT X
  obtain ⟨t, a, b⟩ := k C H locs ls' hP hD hS h' T hT X
  refine ⟨t, ?_, b⟩
  jvm_step X.here [X.here.top, ↓top_set X.here.top, hx, hb, hd, e', Value.isRef]
  exact a
theorem kj_astore {i : Nat} {x : Nat} (hd : decode (sj_cc M) pc = .ok (.astore i, 2)) (hn : i < sj_nL M) (k : kj_J l D cs A M p e s m args below meth c rm Z cells slots ws (pc + 2) (L.set i (.ref x)) rest) : kj_J l D cs A M p e s m args below meth c rm Z cells slots ws pc L (.ref x :: rest) := by
  intro C H locs ls hP hD hS hl
  obtain ⟨ls', e', h'⟩ := sj_lh_set (v := .ref x) hl hn rfl
  have hx := C.1
  have hb := C.2.1
  intro T hT X
  obtain ⟨t, a, b⟩ := k C H locs ls' hP hD hS h' T hT X
  refine ⟨t, ?_, b⟩
  jvm_step X.here [X.here.top, ↓top_set X.here.top, hx, hb, hd, e', Value.isRef]
  exact a
theorem kj_istore {i : Nat} {x : Int32} (hd : decode (sj_cc M) pc = .ok (.istore i, 2)) (hn : i < sj_nL M) (k : kj_J l D cs A M p e s m args below meth c rm Z cells slots ws (pc + 2) (L.set i (.int x)) rest) : kj_J l D cs A M p e s m args below meth c rm Z cells slots ws pc L (.int x :: rest) := by
  intro C H locs ls hP hD hS hl
  obtain ⟨ls', e', h'⟩ := sj_lh_set (v := .int x) hl hn rfl
  have hx := C.1
  have hb := C.2.1
  intro T hT X
  obtain ⟨t, a, b⟩ := k C H locs ls' hP hD hS h' T hT X
  refine ⟨t, ?_, b⟩
  jvm_step X.here [X.here.top, ↓top_set X.here.top, hx, hb, hd, e']
  exact a
theorem kj_newX {atype : ArrayType} {N : Nat} {n : Int32} {a0 : vp_A} (hd : decode (sj_cc M) pc = .ok (.newarray atype, 2)) (harr : Cond.arrayClass (newarray.typeOf atype) ∈ sj_ws M) (ha : ∀ cA : ClassId, vp_cell cA a0 = arrV cA N (fun _ => defaultValue (newarray.typeOf atype))) (hn : ¬ n < 0) (hN : n.toNatClampNeg = N) (hbytes : N * componentBytes (newarray.typeOf atype) ≤ 536870912) (hc : cells + 1 ≤ rm.cells) (hs : slots + N ≤ rm.slots)
    (k : ∀ (q : Nat) (cA : ClassId), ArrOfT s cA (newarray.typeOf atype) ∧ va_RA s cA (newarray.typeOf atype) → kj_J l D cs A M p e s m args below meth c rm Z (cells + 1) (slots + N) (ws ++ [(q, .inl (cA, a0))]) (pc + 2) L (.ref q :: rest)) : kj_J l D cs A M p e s m args below meth c rm Z cells slots ws pc L (.int n :: rest) := by
  intro C H locs ls hP hD hS hl
  refine va_newaK C.1 C.2.1 (C.2.2.2.2.1 _ harr) rfl hd rfl hn hN hbytes hc hs rfl (fun H1 cA e1 z1 o1 hAr hNm => ?_)
  have hk : ∀ (k : Nat) (x : Nat × va_E), ws[k]? = some x → H1[x.1]? = H[x.1]? := fun k x hx => o1 x.1 ((hP k x hx).lt)
  refine k H.size cA ⟨hAr, by cases atype <;> exact hNm⟩ C H1 locs ls ((hP.kept hk).app (fun k x hx => ?_)) (hD.push hP rfl (C.2.2.2.2.2.2.2.2 _ hS.1)) ⟨Nat.le_trans hS.1 (by omega), fun x h1 h2 => (o1 x (Nat.lt_of_lt_of_le h1 hS.1)).trans (hS.2.1 x h1 h2), hS.2.2⟩ hl
  have hz : k < 1 := (List.getElem?_eq_some_iff.mp hx).1
  rw [show k = 0 by omega] at hx
  cases hx
  show H1[H.size]? = some (vp_cell _ _)
  rw [ha, e1]
end KJ2
theorem l_notrace {l : Launch} (h : l.flags = flags0) : l.stackTraces = false := by
  unfold Launch.stackTraces
  rw [h]
  decide +kernel
set_option maxRecDepth 20000 in
set_option maxHeartbeats 4000000 in
/-- from the entry, for every script of at most 3072 ints, the law comes to its end with true -/
theorem whole_start {p : Program} {e : Env} {s : State} {m : MethodId} {below : List Frame} {meth : Method} {c : Code} (l : Launch) (hflags : l.flags = flags0) {b L : Nat} {xs : Nat → Int32} (hL : L ≤ 3072) (C0 : lw_At p s m meth c b L xs) : W p l e room_1 s m #[Value.ref b] below meth c s.heap [] 0 0 (lw_Z below #[Value.ref b] s) (entryFrame m ([Value.ref b] : List Value).toArray 9) := by
  obtain ⟨hx, hb, hr, hml, hown, hts, hX, hbl, hlocks, hgv⟩ := id C0
  obtain ⟨D, cs, tk, tv, hKk, hR⟩ := ls_R (s := s) (b := b) ⟨hts, hgv⟩
  obtain ⟨hca, hnc⟩ := ls_T (s := s) (b := b) ⟨hts, hgv⟩
  have hw : ∀ w ∈ wsF, w.before #[Value.ref b] s = true := fun w h => hts w (wsF_in w h)
  have CC : kj_Cx D cs (fun x => s.heap.size ≤ x) me_L_law p s m #[Value.ref b] meth c := ⟨hx, hb, hml, hown, hw, hlocks, hr, hKk, fun _ h => h⟩
  have hl := sj_lh_entry [.ref b] 9 (Nat.le_of_ble_eq_true rfl) (by simp [Value.category])
  rw [lg_entry_eq]
  refine (?_ : kj_J l D cs (fun x => s.heap.size ≤ x) me_L_law p e s m #[Value.ref b] below meth c room_1 (lw_Z below #[Value.ref b] s) 0 0 [] 0 ([Value.ref b] ++ List.replicate 8 .null) []) CC s.heap [] _ (fun k q h => by simp at h) ⟨fun i j p q h => by simp at h, fun k q h => by simp at h⟩ va_S.rf hl
  refine kj_new (ci := 11) (fs := kj_df 0) dL_law_0 rfl (by decide +kernel) (by decide +kernel) (by decide +kernel) (by decide +kernel) (Nat.le_of_ble_eq_true rfl) (Nat.le_of_ble_eq_true rfl) (fun x0 => ?_)
  refine kj_dup dL_law_3 rfl ?_
  refine kj_initI (M' := me_X11_init) (d' := 4) (mc := 55) (ms := 6035) (b := 0) (n := 56) (r := 0) (σ0 := zInit) dL_law_4 gL_law_X11_init rfl (by decide +kernel) (by decide +kernel) (by decide +kernel) rfl (by decide +kernel) ⟨Nat.le_of_ble_eq_true rfl, Nat.le_of_ble_eq_true rfl⟩ ⟨Nat.le_of_ble_eq_true rfl, Nat.le_of_ble_eq_true rfl⟩ (Nat.le_of_ble_eq_true rfl) k_X11_init (fun a0 e0 => ?_)
  refine kj_astore_n dL_law_7 (i := 1) rfl (by decide) ?_
  refine kj_new (ci := 12) (fs := kj_df 56) dL_law_8 rfl (by decide +kernel) (by decide +kernel) (by decide +kernel) (by decide +kernel) (Nat.le_of_ble_eq_true rfl) (Nat.le_of_ble_eq_true rfl) (fun x1 => ?_)
  refine kj_dup dL_law_11 rfl ?_
  refine kj_initI (M' := me_X12_init) (d' := 2) (mc := 20) (ms := 2963) (b := 56) (n := 21) (r := 56) (σ0 := zInit) dL_law_12 gL_law_X12_init rfl (by decide +kernel) (by decide +kernel) (by decide +kernel) rfl (by decide +kernel) ⟨Nat.le_of_ble_eq_true rfl, Nat.le_of_ble_eq_true rfl⟩ ⟨Nat.le_of_ble_eq_true rfl, Nat.le_of_ble_eq_true rfl⟩ (Nat.le_of_ble_eq_true rfl) k_X12_init (fun a1 e1 => ?_)
  refine kj_astore_n dL_law_15 (i := 2) rfl (by decide) ?_
  refine kj_iconst (v := nI 1) dL_law_16 (by decide +kernel) ?_
  refine kj_newX (N := 1) (a0 := (1, .inr (.inl (fun _ => 0)))) dL_law_17 (by decide +kernel) (fun _ => rfl) (by decide) (by decide) (Nat.le_of_ble_eq_true rfl) (Nat.le_of_ble_eq_true rfl) (Nat.le_of_ble_eq_true rfl) (fun oA cL hL1 => ?_)
  refine kj_astore_n dL_law_19 (i := 3) rfl (by decide) ?_
  refine kj_iconst (v := nI 1) dL_law_20 (by decide +kernel) ?_
  refine kj_newX (N := 1) (a0 := (1, .inr (.inr (.inr (.inl (fun _ => 0)))))) dL_law_21 (by decide +kernel) (fun _ => rfl) (by decide) (by decide) (Nat.le_of_ble_eq_true rfl) (Nat.le_of_ble_eq_true rfl) (Nat.le_of_ble_eq_true rfl) (fun oD cD hD1 => ?_)
  refine kj_astore dL_law_23 (by decide) ?_
  refine kj_iconst (v := nI 0) dL_law_25 (by decide +kernel) ?_
  refine kj_istore dL_law_26 (by decide) ?_
  intro _ H locs ls hP hD hS hl
  obtain ⟨ad, had⟩ : ∃ ad : Nat → Nat, ∀ p, ad p = (if p < 56 then a0 p else a1 p) := ⟨fun p => _, fun p => rfl⟩
  have g0 : kj_sl a0 cs zInit 0 56 = kj_sl ad cs zInit 0 56 := kj_sl_congr (by decide +kernel) (fun k hk => by rw [had, if_pos (by omega)])
  have g1 : kj_sl a1 cs zInit 56 21 = kj_sl ad cs zInit 56 21 := kj_sl_congr (by decide +kernel) (fun k hk => by rw [had, if_neg (by omega)])
  have r0 : x0 = ad 0 := by rw [had, if_pos (by decide)]; exact e0.symm
  have r1 : x1 = ad 56 := by rw [had, if_neg (by decide)]; exact e1.symm
  rw [r0, r1] at hl
  obtain ⟨G, hG⟩ : ∃ G : sj_G, G = (l, D.1, D.2, ad, cs, (fun x => (∃ a, a < sj_NA ∧ x = ad a) ∨ H.size ≤ x), H.size, tk, tv) := ⟨_, rfl⟩
  have ew : ((([] ++ kj_sl a0 cs zInit 0 56) ++ kj_sl a1 cs zInit 56 21) ++ [(oA, .inl (cL, 1, .inr (.inl (fun _ => 0))))]) ++ [(oD, .inl (cD, 1, .inr (.inr (.inr (.inl (fun _ => 0))))))] = sj_wd G zInit ++ lE (oA, oD, cL, cD) (fun _ => 0) (fun _ => 0) := by
    rw [g0, g1, List.nil_append, kj_sl_ap (by decide), List.append_assoc]
    have e9 : kj_sl ad cs zInit 0 (56 + 21) = sj_wd G zInit := by
      subst hG
      unfold kj_sl sj_wd
      apply List.map_congr_left
      intro k _
      rw [Nat.zero_add]
    rw [e9]
    rfl
  rw [ew] at hP hD
  have hgt : ∀ a, a < sj_NA → (sj_wd G zInit ++ lE (oA, oD, cL, cD) (fun _ => 0) (fun _ => 0))[a]? = some (sj_ad G a, sj_ent (sj_ad G) (sj_cs G) zInit a) := fun a ha => by rw [tj_wd_l ha]; exact sj_wd_get ha
  have h77 := lE_0 (G := G) (q := (oA, oD, cL, cD)) (σ := zInit) (f := fun _ => 0) (g := fun _ => 0)
  have h78 := lE_1 (G := G) (q := (oA, oD, cL, cD)) (σ := zInit) (f := fun _ => 0) (g := fun _ => 0)
  have hAd : ∀ a, a < sj_NA → s.heap.size ≤ sj_ad G a := fun a ha => hD.2 a _ (hgt a ha)
  have hGA : ∀ x, sj_A G x ↔ ((∃ a, a < sj_NA ∧ x = sj_ad G a) ∨ H.size ≤ x) := fun x => by subst hG; exact Iff.rfl
  have hGN : sj_N0 G = H.size := by subst hG; rfl
  have hAA : ∀ x, sj_A G x → s.heap.size ≤ x := by
    intro x h
    rcases (hGA x).mp h with ⟨a, ha, e⟩ | h
    · rw [e]; exact hAd a ha
    · exact Nat.le_trans hS.1 h
  have ok : sj_ok G := by
    refine ⟨by subst hG; exact l_notrace hflags, fun x hx => (hGA x).mpr (Or.inr (by rw [← hGN]; exact hx)), fun a ha => (hGA _).mpr (Or.inl ⟨a, ha, rfl⟩), fun a a2 ha ha2 he => hD.1 a a2 _ _ (hgt a ha) (hgt a2 ha2) he⟩
  have hlt1 : oA < H.size := (hP _ _ h77).lt
  have hlt2 : oD < H.size := (hP _ _ h78).lt
  have hq : lok G (oA, oD, cL, cD) := by
    refine ⟨fun h => ?_, fun h => ?_, fun h => ?_⟩
    · rcases (hGA oA).mp h with ⟨a, ha, e⟩ | h
      · have := hD.1 a _ _ _ (hgt a ha) h77 e.symm
        omega
      · omega
    · rcases (hGA oD).mp h with ⟨a, ha, e⟩ | h
      · have := hD.1 a _ _ _ (hgt a ha) h78 e.symm
        omega
      · omega
    · have := hD.1 _ _ _ _ h77 h78 h
      omega
  have hGD : sj_D G = D := by subst hG; rfl
  have hT : lT G (oA, oD, cL, cD) s := by
    refine ⟨?_, hca, hnc⟩
    rw [hGD]
    refine ⟨hKk.1.1, fun k x hk => ?_⟩
    have h2 : k < 2 := (List.getElem?_eq_some_iff.mp hk).1
    rcases (by omega : k = 0 ∨ k = 1) with e | e <;> subst e <;> cases hk
    · exact hL1
    · exact hD1
  have hcx : lcx G (oA, oD, cL, cD) s b L xs := ⟨ok, hq, hT, hX, hbl, hAA, hD.2 _ _ h77, hD.2 _ _ h78, hL⟩
  have CT : tj_Cx G me_L_law p s m #[Value.ref b] meth c := ⟨hx, hb, hml, hown, hw, hlocks, hr, trivial, by
    have := hR l ad (sj_A G) H.size hAA
    subst hG
    exact this⟩
  have hGl : sj_l G = l := by subst hG; rfl
  have hGad : sj_ad G = ad := by subst hG; rfl
  have hfin := l_loop (p := p) (e := e) (m := m) (below := below) (meth := meth) (c := c) hcx (L / 6) 0 0 79 9041 zInit (fun _ => 0) (fun _ => 0) (by omega) (Nat.zero_le _) zInv0 (by omega) (by omega) (by omega) ok CT H locs ls ⟨by rw [hGD]; exact hP, hS, by rw [hGN]; exact Nat.le_refl _⟩ (by unfold lL; rw [hGad]; exact hl)
  rw [hGl] at hfin
  exact hfin
