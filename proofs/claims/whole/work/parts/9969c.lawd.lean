/-! THE LAW'S CASES 53, 54: meanSlot, taken -/
section LTH
variable {G : sj_G} {A0 : Nat → Prop} {p : Program} {e : Env} {s : State} {m : MethodId} {args : Array Value} {below : List Frame} {meth : Method} {c : Code} {rm : Room} {Z : State → Prop} {cells slots : Nat} {E : va_W} {M : sj_M} {pc idx : Nat} {L rest : List Value} {σ : sj_S}
theorem lj_thr {H : Heap} {locs : List Loc} {ls : Array Slot} (hK0 : ∀ x, x < s.heap.size → ¬ sj_A G x → ¬ A0 x) (hA : ∀ x, sj_A G x → A0 x) (hE : ∀ x ∈ E, ¬ sj_A G x.1) (ok : sj_ok G) (C : tj_Cx G M p s m args meth c) (hH : tj_H G A0 s σ E H locs) (hl : sj_lh ls (sj_nL M) L) (hd : decode (sj_cc M) pc = .ok (.invokevirtual idx, 3)) (hg : GoodIn (sj_ws M) (wsV (sj_own M) idx RX12 yX12_thrown wsX12_thrown)) (hdd : 2 + 1 ≤ rm.frames ∧ 64 * (2 + 1) ≤ rm.locals) (hcs : cells ≤ rm.cells ∧ slots ≤ rm.slots)
    (k : ∀ (H1 : Heap) (locs1 : List Loc), tj_H G A0 s σ E H1 locs1 → W p (sj_l G) e rm s m args below meth c H1 locs1 cells slots Z (F0 m (pc + 3) ls [.int (σ 56 0)])) : W p (sj_l G) e rm s m args below meth c H locs cells slots Z (F0 m pc ls [.ref (sj_ad G 56)]) := by
  have hr := tj_runV (E := E) (M' := me_X12_thrown) (As := []) (rest := []) (b := 56) hK0 ok C hH hl hd hg rfl hd_X12_thrown (by decide +kernel) (by decide +kernel) rfl (Nat.le_of_ble_eq_true rfl) hdd (c_X12_thrown ok rfl) (e := e) (below := below) hcs
  rw [show sj_rt me_X12_thrown = some .int from rfl] at hr
  refine vx_calli (a := #[Value.ref (sj_ad G 56)]) hr hH.2.1 (fun q _ h => hA q h) hA (fun q _ h => hA q h) (fun E ce q9 u t H1 locs1 ht hvm hpx hBX hz hk hS1 hce hcv hcl => ?_) (fun r u t H1 locs1 ht hvm hpost hB hz hk hS1 => ?_)
  · obtain ⟨k9, h9, -⟩ := hBX
    cases h9
  · cases hpost
    exact k H1 locs1 (tj_after hE hH ht hB hz hk hS1)
end LTH
section LCD
variable {G : sj_G} {q : lG} {p : Program} {e : Env} {s : State} {m : MethodId} {below : List Frame} {meth : Method} {c : Code} {b Ls i r : Nat} {xs : Nat → Int32} {Z : State → Prop} {cells slots : Nat} {f : Nat → Int64} {g : Nat → UInt64} {σ : sj_S}
set_option maxRecDepth 20000 in
theorem lc_53 (hx : lcx G q s b Ls xs) (hi : i + 6 ≤ Ls) (hI : zInv σ r) (hr : r + 200 < 2 ^ 27) (hc1 : cells + 1 ≤ 601024) (hc2 : slots + 6 ≤ 7293034) (k : ∀ σ2 f2 g2, zInx r σ2 → lJ G q p e s m below meth c b Z (cells + 1) (slots + 6) f2 g2 3361 (lL G q b i .null .null) σ2 []) : lJ G q p e s m below meth c b Z cells slots f g 3217 (lL G q b i .null .null) σ [] := by
  obtain ⟨ok, hq, hT, hX, hb, hA, ha, hd, hLs⟩ := id hx
  obtain ⟨Rc, σ1, rm, σ2, h1, h2, h3, h4⟩ := p_meanSlot ok hI.1
  have hK0 : ∀ x, x < s.heap.size → ¬ sj_A G x → ¬ s.heap.size ≤ x := fun x h _ h2 => by omega
  have hA' : ∀ x, lA G q x → s.heap.size ≤ x := fun x h => h.elim (hA x) (fun h => h.elim (fun h => h ▸ ha) (fun h => h ▸ hd))
  unfold lJ
  refine tj_aload_n (x := sj_ad G 0) dL_law_3217 (i := 1) rfl rfl ?_
  refine tj_aload (x := q.2.1) dL_law_3218 rfl ?_
  refine lj_callS (M' := me_L_meanSlot) (As := [.ref (sj_ad G 0), .ref q.2.1]) (rest := []) hK0 hA' hT dL_law_3220 gL_law_L_meanSlot rfl hd_L_meanSlot (Nat.le_of_ble_eq_true rfl) ⟨Nat.le_of_ble_eq_true rfl, Nat.le_of_ble_eq_true rfl⟩ ⟨hc1, hc2⟩ (lm_meanSlot ok hq h1 (fun k hk => by subst hk; exact h3.1)) ?_
  refine tj_istore dL_law_3223 (by decide) ?_
  refine tj_aload_n (x := sj_ad G 56) dL_law_3225 (i := 2) rfl rfl ?_
  refine lj_callD (M' := me_X12_meanSlot) (Rc := .ok rm) (σ1 := σ2) (b := 56) (As := []) (rest := []) hK0 hA (lok_E hq) dL_law_3226 gL_law_X12_meanSlot rfl hd_X12_meanSlot (by decide +kernel) (by decide +kernel) rfl (Nat.le_of_ble_eq_true rfl) ⟨Nat.le_of_ble_eq_true rfl, Nat.le_of_ble_eq_true rfl⟩ ⟨hc1, hc2⟩ h2 (fun k9 h => nomatch h) (fun v hv => ?_)
  cases hv
  intro ok C H locs ls hH hl
  have hv : lv_has ls 9 [(0, .ref b), (1, .ref (sj_ad G 0)), (2, .ref (sj_ad G 56)), (3, .ref q.1), (4, .ref q.2.1), (5, .int (nI i)), (6, .int (lrd Rc))] := by
    refine ⟨hl.1, hl.2.1, fun y hy => ?_⟩
    simp only [List.mem_cons, List.not_mem_nil, or_false] at hy
    rcases hy with h | h | h | h | h | h | h <;> rw [h] <;> exact hl.2.2.1 _ _ rfl (fun h => nomatch h)
  refine lv_dstore (i := 7) (lv' := [(7, .double rm), (0, .ref b), (1, .ref (sj_ad G 0)), (2, .ref (sj_ad G 56)), (3, .ref q.1), (4, .ref q.2.1), (5, .int (nI i)), (6, .int (lrd Rc))]) C.1 C.2.1 dL_law_3229 hv (by decide) rfl (fun ls hl => ?_)
  have hlL : sj_lh ls 9 (lL G q b i .null .null) := by
    refine ⟨hl.1, hl.2.1, fun j w hj hw => ?_, lL_cat⟩
    have hl9 : j < 9 := (List.getElem?_eq_some_iff.mp hj).1
    rcases (by omega : j = 0 ∨ j = 1 ∨ j = 2 ∨ j = 3 ∨ j = 4 ∨ j = 5 ∨ j = 6 ∨ j = 7 ∨ j = 8) with h | h | h | h | h | h | h | h | h <;> subst h
    · cases Option.some.inj hj; exact lv_at hl 1 rfl
    · cases Option.some.inj hj; exact lv_at hl 2 rfl
    · cases Option.some.inj hj; exact lv_at hl 3 rfl
    · cases Option.some.inj hj; exact lv_at hl 4 rfl
    · cases Option.some.inj hj; exact lv_at hl 5 rfl
    · cases Option.some.inj hj; exact lv_at hl 6 rfl
    · exact absurd (Option.some.inj hj).symm hw
    · exact absurd (Option.some.inj hj).symm hw
    · exact absurd (Option.some.inj hj).symm hw
  refine lv_aload_n (i := 2) C.1 C.2.1 dL_law_3231 rfl (lv_at hl 3 rfl) ?_
  refine lj_thr hK0 hA (lok_E hq) ok C hH hlL dL_law_3232 gL_law_X12_thrown ⟨Nat.le_of_ble_eq_true rfl, Nat.le_of_ble_eq_true rfl⟩ ⟨hc1, hc2⟩ (fun H locs hH => ?_)
  refine lv_iload C.1 C.2.1 dL_law_3235 (lv_at hl 7 rfl) ?_
  have kend := lv_goto (tgt := 3361) C.1 C.2.1 dL_law_3279 (by decide) (k σ2 f (ldd Rc g) (zInv_I2 hI h4) ok C H locs ls hH hlL)
  cases Rc with
  | ok v =>
    obtain ⟨g1, g2, g3⟩ := h3
    refine lv_icmp_eq (tgt := 3242) C.1 C.2.1 dL_law_3237 (by decide) (fun _ => ?_) (fun h => absurd g1 h)
    refine lv_iload C.1 C.2.1 dL_law_3242 (lv_at hl 7 rfl) ?_
    refine lv_if_ne (tgt := 3279) C.1 C.2.1 dL_law_3244 (by decide) (fun h => absurd z_00 h) (fun _ => ?_)
    refine lv_aload C.1 C.2.1 dL_law_3247 (lv_at hl 5 rfl) ?_
    refine lv_iconst (v := nI 0) C.1 C.2.1 dL_law_3249 (by decide +kernel) ?_
    refine va_dald C.1 C.2.1 hT.1 hH.1 (sj_NA + 1) 1 lE_1 rfl (z_in (by decide) (by decide)) dL_law_3250 ?_
    refine lv_dload C.1 C.2.1 dL_law_3251 (lv_at hl 0 rfl) ?_
    refine lv_dcmp C.1 C.2.1 dL_law_3253 ?_
    refine lv_if_eq (tgt := 3279) C.1 C.2.1 dL_law_3254 (by decide) (fun _ => kend) (fun h => absurd ?_ h)
    subst g2
    exact g3
  | error j =>
    obtain ⟨g0, g1⟩ := h3
    refine lv_icmp_eq (tgt := 3242) C.1 C.2.1 dL_law_3237 (by decide) (fun _ => ?_) (fun h => absurd g1 h)
    refine lv_iload C.1 C.2.1 dL_law_3242 (lv_at hl 7 rfl) ?_
    exact lv_if_ne (tgt := 3279) C.1 C.2.1 dL_law_3244 (by decide) (fun _ => kend) (fun h => absurd h z_10)
set_option maxRecDepth 20000 in
theorem lc_54 (hx : lcx G q s b Ls xs) (hi : i + 6 ≤ Ls) (hI : zInv σ r) (hr : r + 200 < 2 ^ 27) (hc1 : cells + 1 ≤ 601024) (hc2 : slots + 6 ≤ 7293034) (k : ∀ σ2 f2 g2, zInx r σ2 → lJ G q p e s m below meth c b Z (cells + 1) (slots + 6) f2 g2 3361 (lL G q b i .null .null) σ2 []) : lJ G q p e s m below meth c b Z cells slots f g 3282 (lL G q b i .null .null) σ [] := by
  obtain ⟨ok, hq, hT, hX, hb, hA, ha, hd, hLs⟩ := id hx
  obtain ⟨Rc, σ1, rm, σ2, h1, h2, h3, h4⟩ := p_taken ok hI.1
  have hK0 : ∀ x, x < s.heap.size → ¬ sj_A G x → ¬ s.heap.size ≤ x := fun x h _ h2 => by omega
  have hA' : ∀ x, lA G q x → s.heap.size ≤ x := fun x h => h.elim (hA x) (fun h => h.elim (fun h => h ▸ ha) (fun h => h ▸ hd))
  unfold lJ
  refine tj_aload_n (x := sj_ad G 0) dL_law_3282 (i := 1) rfl rfl ?_
  refine tj_aload (x := q.2.1) dL_law_3283 rfl ?_
  refine lj_callS (M' := me_L_taken) (As := [.ref (sj_ad G 0), .ref q.2.1]) (rest := []) hK0 hA' hT dL_law_3285 gL_law_L_taken rfl hd_L_taken (Nat.le_of_ble_eq_true rfl) ⟨Nat.le_of_ble_eq_true rfl, Nat.le_of_ble_eq_true rfl⟩ ⟨hc1, hc2⟩ (lm_taken ok hq h1 (fun k hk => by subst hk; exact h3.1) (fun v hv => by subst hv; exact h3.2.2.1)) ?_
  refine tj_istore dL_law_3288 (by decide) ?_
  refine tj_aload_n (x := sj_ad G 56) dL_law_3290 (i := 2) rfl rfl ?_
  refine lj_callF (M' := me_X12_taken) (Rc := .ok rm) (σ1 := σ2) (b := 56) (As := []) (rest := []) hK0 hA (lok_E hq) dL_law_3291 gL_law_X12_taken rfl hd_X12_taken (by decide +kernel) (by decide +kernel) rfl (Nat.le_of_ble_eq_true rfl) ⟨Nat.le_of_ble_eq_true rfl, Nat.le_of_ble_eq_true rfl⟩ ⟨hc1, hc2⟩ h2 (fun k9 h => nomatch h) (fun v hv => ?_)
  cases hv
  intro ok C H locs ls hH hl
  have hv : lv_has ls 9 [(0, .ref b), (1, .ref (sj_ad G 0)), (2, .ref (sj_ad G 56)), (3, .ref q.1), (4, .ref q.2.1), (5, .int (nI i)), (6, .int (lrd Rc))] := by
    refine ⟨hl.1, hl.2.1, fun y hy => ?_⟩
    simp only [List.mem_cons, List.not_mem_nil, or_false] at hy
    rcases hy with h | h | h | h | h | h | h <;> rw [h] <;> exact hl.2.2.1 _ _ rfl (fun h => nomatch h)
  refine lv_fstore (i := 7) (lv' := [(7, .float rm), (0, .ref b), (1, .ref (sj_ad G 0)), (2, .ref (sj_ad G 56)), (3, .ref q.1), (4, .ref q.2.1), (5, .int (nI i)), (6, .int (lrd Rc))]) C.1 C.2.1 dL_law_3294 hv (by decide) rfl (fun ls hl => ?_)
  have hlL : sj_lh ls 9 (lL G q b i .null .null) := by
    refine ⟨hl.1, hl.2.1, fun j w hj hw => ?_, lL_cat⟩
    have hl9 : j < 9 := (List.getElem?_eq_some_iff.mp hj).1
    rcases (by omega : j = 0 ∨ j = 1 ∨ j = 2 ∨ j = 3 ∨ j = 4 ∨ j = 5 ∨ j = 6 ∨ j = 7 ∨ j = 8) with h | h | h | h | h | h | h | h | h <;> subst h
    · cases Option.some.inj hj; exact lv_at hl 1 rfl
    · cases Option.some.inj hj; exact lv_at hl 2 rfl
    · cases Option.some.inj hj; exact lv_at hl 3 rfl
    · cases Option.some.inj hj; exact lv_at hl 4 rfl
    · cases Option.some.inj hj; exact lv_at hl 5 rfl
    · cases Option.some.inj hj; exact lv_at hl 6 rfl
    · exact absurd (Option.some.inj hj).symm hw
    · exact absurd (Option.some.inj hj).symm hw
    · exact absurd (Option.some.inj hj).symm hw
  refine lv_aload_n (i := 2) C.1 C.2.1 dL_law_3296 rfl (lv_at hl 3 rfl) ?_
  refine lj_thr hK0 hA (lok_E hq) ok C hH hlL dL_law_3297 gL_law_X12_thrown ⟨Nat.le_of_ble_eq_true rfl, Nat.le_of_ble_eq_true rfl⟩ ⟨hc1, hc2⟩ (fun H locs hH => ?_)
  refine lv_iload C.1 C.2.1 dL_law_3300 (lv_at hl 7 rfl) ?_
  have kend := lv_goto (tgt := 3361) C.1 C.2.1 dL_law_3345 (by decide) (k σ2 f (ldf Rc g) (zInv_I2 hI h4) ok C H locs ls hH hlL)
  cases Rc with
  | ok v =>
    obtain ⟨g1, g2, g3, g5⟩ := h3
    refine lv_icmp_eq (tgt := 3307) C.1 C.2.1 dL_law_3302 (by decide) (fun _ => ?_) (fun h => absurd g1 h)
    refine lv_iload C.1 C.2.1 dL_law_3307 (lv_at hl 7 rfl) ?_
    refine lv_if_ne (tgt := 3345) C.1 C.2.1 dL_law_3309 (by decide) (fun h => absurd z_00 h) (fun _ => ?_)
    refine lv_aload C.1 C.2.1 dL_law_3312 (lv_at hl 5 rfl) ?_
    refine lv_iconst (v := nI 0) C.1 C.2.1 dL_law_3314 (by decide +kernel) ?_
    refine va_dald C.1 C.2.1 hT.1 hH.1 (sj_NA + 1) 1 lE_1 rfl (z_in (by decide) (by decide)) dL_law_3315 ?_
    refine lv_fload C.1 C.2.1 dL_law_3316 (lv_at hl 0 rfl) ?_
    refine lv_f2d C.1 C.2.1 dL_law_3318 (g2 ▸ g3) ?_
    refine lv_dcmp C.1 C.2.1 dL_law_3319 ?_
    refine lv_if_eq (tgt := 3345) C.1 C.2.1 dL_law_3320 (by decide) (fun _ => kend) (fun h => absurd ?_ h)
    subst g2
    exact g5
  | error j =>
    obtain ⟨g0, g1⟩ := h3
    refine lv_icmp_eq (tgt := 3307) C.1 C.2.1 dL_law_3302 (by decide) (fun _ => ?_) (fun h => absurd g1 h)
    refine lv_iload C.1 C.2.1 dL_law_3307 (lv_at hl 7 rfl) ?_
    exact lv_if_ne (tgt := 3345) C.1 C.2.1 dL_law_3309 (by decide) (fun _ => kend) (fun h => absurd h z_10)
end LCD
