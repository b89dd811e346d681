/-! P59, THE LAW 19: isFound, with a table and without -/
section VP
variable {G : sj_G} {M : sj_M} {p : Program} {e : Env} {s : State} {m : MethodId} {args : Array Value} {below : List Frame} {meth : Method} {c : Code} {rm : Room} {cells slots : Nat} {pc : Nat} {L st rest : List Value} {σ : sj_S} {Z : State → Prop}
/-- a call of a method that allots cells -/
theorem vj_callP {M' : sj_M} {d' mc ms idx b : Nat} {As : List Value} {ws' : List Cond} {ty : FieldType} (ok : sj_ok G) (K0 : sj_K G s s.heap) (hN : kNst s)
    (hd : decode (sj_cc M) pc = .ok (.invokevirtual idx, 3)) (hg : GoodIn (sj_ws M) (wsV (sj_own M) idx (sj_own M') (sj_y M') (sj_ws M'))) (hw : sj_ws M' = Cond.code (sj_y M') (sj_cc M') (sj_nL M') (sj_rt M') :: ws') (hh : sj_hd M' As.length = true) (hb : b < sj_NA) (hbk : sj_lk b ≤ 12) (hbc : (vwCl[sj_lk b]?).map (fun q => q.1) = some (sj_own M')) (hrs : (rest.map fun v => v.category).sum ≤ 8) (hdd : d' + 1 ≤ rm.frames ∧ 64 * (d' + 1) ≤ rm.locals) (hrt : sj_rt M' = some ty) (hcs : cells + mc ≤ rm.cells ∧ slots + ms ≤ rm.slots)
    (hck : ∀ N, sj_ok (gV G (sj_ad G) N) → ∃ (r : Int32) (Φ : sj_S → Prop), pC (gV G (sj_ad G) N) M' d' mc ms (.ref (sj_ad G b) :: As) σ r Φ ∧ ∀ τ, Φ τ → kj_J (sj_l G) (sj_D G) (sj_cs G) (sj_A G) M p e s m args below meth c rm Z (cells + mc) (slots + ms) (sj_wd G τ) (pc + 3) L (.int r :: rest)) : kj_J (sj_l G) (sj_D G) (sj_cs G) (sj_A G) M p e s m args below meth c rm Z cells slots (sj_wd G σ) pc L (As.reverse ++ .ref (sj_ad G b) :: rest) := by
  intro C H locs ls hP hD hS hl
  have hz0 : s.heap.size ≤ H.size := hS.1
  have hN0 : sj_N0 G ≤ H.size := Nat.le_trans K0.1 hz0
  have hAd : ∀ a, a < sj_NA → sj_A G (sj_ad G a) := ok.2.2.1
  have hAB := gV_A (ad := sj_ad G) (N := H.size) ok hN0 hAd
  have okV := gV_ok (N := H.size) ok ok.2.2.2
  have hview : va_P (sj_D G) vwCl (sj_wd (gV G (sj_ad G) H.size) σ) H := hP
  obtain ⟨r, Φ, hc', k⟩ := hck H.size okV
  unfold sj_hd at hh
  simp only [Bool.and_eq_true, decide_eq_true_eq] at hh
  obtain ⟨q, hq, hq1⟩ : ∃ q, vwCl[sj_lk b]? = some q ∧ q.1 = sj_own M' := by
    cases hvw : vwCl[sj_lk b]? with
    | none => rw [hvw] at hbc; cases hbc
    | some q => rw [hvw] at hbc; exact ⟨q, rfl, Option.some.inj hbc⟩
  have hr : vx_Run p (sj_l G) e rm s m args below meth c H locs cells slots mc ms (F0 m pc ls (As.reverse ++ .ref (sj_ad G b) :: rest)) rest (va_Qi (fun r' (τ : sj_S) => r' = r ∧ Φ τ) (fun τ t => sj_B (gV G (sj_ad G) H.size) τ t) (sj_A (gV G (sj_ad G) H.size)) (Value.ref (sj_ad G b) :: As).toArray) lj_X (sj_A (gV G (sj_ad G) H.size)) := by
    refine vx_runV (rest := rest) ⟨C.1, C.2.1, C.2.2.1, C.2.2.2.1, C.2.2.2.2.1⟩ hc' (cwV As.length C.2.2.2.2.1 hg hw rfl rfl ⟨hh.1.1.1.1, hh.1.1.1.2, hh.1.1.2, hh.1.2⟩ ⟨?_, ?_⟩) ⟨pC_blind, ?_, fun U hU hW => ⟨rfl, by unfold sj_B; rw [hU]; exact hview, gV_K ok (sj_K_moved ok hW hS hU K0) hN0 (by rw [hU]; exact Nat.le_refl _) hAd, kNst_warm hW hN⟩⟩ rfl rfl hl.1 rfl (lv_room hrs) hd hcs
    · exact hdd.1
    · show 8 + (sj_nL M' + 11) + 64 * d' ≤ rm.locals
      have := hh.2
      have := hdd.2
      omega
    · have h9 := va_recv C.2.2.2.2.2.2.2.1.1 hview hq (sj_wd_obj (G := gV G (sj_ad G) H.size) hb hbk)
      rw [hq1] at h9
      exact h9
  refine vx_calli (a := (Value.ref (sj_ad G b) :: As).toArray) hr hS (fun q _ h => hAB q h) hAB (fun q _ h => h.elim) (fun E ce q9 u t H1 locs1 ht hvm hpx hBX hz hk hS1 hce hcv hcl => hpx.elim) (fun r9 τ t H1 locs1 ht hvm hpost hB hz hk hS1 => ?_)
  obtain ⟨hr9, hΦ⟩ := hpost
  subst hr9
  exact k τ hΦ C H1 locs1 ls (by rw [← ht]; exact hB) (sj_wd_D ok τ) hS1 hl
end VP
section FND
variable {G : sj_G} {σ : sj_S} {D : zD} {r : Nat}
theorem l_isFoundT (ok : sj_ok G) (hO : sj_ad G 70 = sj_ad G 0) (v : okD D) (hC : repC D (σ 2)) (hH : kH σ) (hL : lR D σ) (h1 : 1 ≤ dN D) (h52 : σ 52 2 = nI 0) (hTc : ∀ t, t < 6 → dTch D t = 63) (hI : ∀ t d, t < 6 → d < 5 → (dIll D t).testBit d = false) (hr : r + 200 < 2 ^ 27) (hd : zRd σ r) (hex : ∃ T, zRi D (zHd D) T) :
    ∃ (D' : zD) (T' : Nat → Nat) (σ' : sj_S) (r' : Nat), sj_C G 125 me_L_isFound [.ref (sj_ad G 56)] σ (.ok (nI 1), σ') ∧ kW D' T' σ' ∧ lR D' σ' ∧ r' ≤ r + 200 ∧ zRd σ' r' ∧ kF σ σ' ∧ ∀ f, f ≠ 14 → f ≠ 2 → ∀ j, D' f j = D f j := by
  obtain ⟨b, σ1, f1, f2, f3, ⟨r', f4, f5⟩, f6, f7⟩ := k_find (σ := σ) ok v hC hH hr hd
  have hb : b = true := by
    cases hb : b
    · obtain ⟨T, hT⟩ := hex
      exact absurd hT ((f7 hb).1 T)
    · rfl
  rw [hb] at f1
  obtain ⟨T, t1, t2, t3, t4⟩ := f6 hb
  obtain ⟨D', T', σ', g1, g2, g3, g4, g5, g6⟩ := l_foundT ok hO v hC hL h1 h52 hTc hI f1 f2 f3 f5 t1 t2 t3 t4
  exact ⟨D', T', σ', r', g1, g2, g3, f4, g4, g5, g6⟩
/-- what holds behind isFound where there is no table -/
def kFN (D : zD) (σ : sj_S) (r : Nat) (τ : sj_S) : Prop := repC D (τ 2) ∧ kH τ ∧ lR D τ ∧ (∃ r', r' ≤ r + 200 ∧ zRd τ r') ∧ kF σ τ
set_option maxRecDepth 20000 in
theorem l_isFoundN (ok : sj_ok G) (hO : sj_ad G 70 = sj_ad G 0) (v : okD D) (hC : repC D (σ 2)) (hH : kH σ) (hL : lR D σ) (h1 : 1 ≤ dN D) (hT0 : dT D = 0) (hr : r + 200 < 2 ^ 27) (hd : zRd σ r) (hno : ∀ T, ¬ zRi D (zHd D) T) :
    pC G me_L_isFound 125 728 78598 [.ref (sj_ad G 56)] σ (nI 1) (kFN D σ r) := by
  have h9 := v.1
  refine pC_enter ok (by decide +kernel) rfl rfl (Nat.le_of_ble_eq_true rfl) (by simp [Value.category]) (fun p e s m args below meth c K0 hN => ?_)
  have key : ∀ (σ1 : sj_S) (r' : Nat), (∀ b, 35 < b → b ≠ 62 → σ1 b = σ b) → σ1 2 = σ 2 → kH σ1 → r' ≤ r + 200 → zRd σ1 r' → (∃ U : Nat → Bool, zPf D U (dW D) ∧ σ1 30 3 = nI (q_cnt (zHu D U) (dW D)) ∧ zPl (zHu D U) (σ1 32) (dW D)) →
      kj_J (sj_l G) (sj_D G) (sj_cs G) (sj_A G) me_L_isFound p e s m args below meth c (kj_rm 125 728 78598) (pZ G (nI 1) (kFN D σ r) below args s 728 78598) 0 0 (sj_wd G σ1) 26 [.ref (sj_ad G 56), .int (nI 0), .null] [] := by
    intro σ1 r' q1 e2 H1 hr' hd1 hp
    obtain ⟨U, hU, u1, u2⟩ := hp
    have C1 : repC D (σ1 2) := by rw [e2]; exact hC
    have L1 : lR D σ1 := lR_35 hL (fun b hb h62 => q1 b (by omega) h62)
    refine kj_iload_n dL_isFound_26 (i := 1) rfl rfl ?_
    refine kj_if_ne (tgt := 53) dL_isFound_27 (by decide) (fun q => absurd nI_0 q) (fun _ => ?_)
    refine kj_aload_n dL_isFound_30 (i := 0) rfl rfl ?_
    refine kj_getA (q0 := 56) (k9 := 1) (v := .ref (sj_ad G 0)) dL_isFound_31 (sj_wd_obj (by decide) (by decide +kernel)) rfl (by decide +kernel) (by decide +kernel) (lw_o hO) ?_
    refine vj_call0 (M' := me_X11_checksum) (d' := 3) (b := 0) (As := []) (rest := []) ok K0 dL_isFound_34 gL_isFound_X11_checksum rfl hd_X11_checksum (by decide +kernel) (by decide +kernel) rfl (Nat.le_of_ble_eq_true rfl) ⟨Nat.le_of_ble_eq_true rfl, Nat.le_of_ble_eq_true rfl⟩ rfl ⟨Nat.zero_le _, Nat.zero_le _⟩ (fun N okV => ?_)
    refine ⟨_, σ1, k_checksum0 (G := gV G (sj_ad G) N) okV C1 hT0, ?_⟩
    refine kj_if_ne (tgt := 51) dL_isFound_37 (by decide) (fun q => absurd nI_0 q) (fun _ => ?_)
    refine kj_aload_n dL_isFound_40 (i := 0) rfl rfl ?_
    refine vj_callP (M' := me_L_isProved) (d' := 124) (mc := 728) (ms := 78598) (b := 56) (As := []) (rest := []) ok K0 hN dL_isFound_41 gL_isFound_L_isProved rfl hd_L_isProved (by decide +kernel) (by decide +kernel) rfl (Nat.le_of_ble_eq_true rfl) ⟨Nat.le_of_ble_eq_true rfl, Nat.le_of_ble_eq_true rfl⟩ rfl ⟨Nat.le_of_ble_eq_true rfl, Nat.le_of_ble_eq_true rfl⟩ (fun N2 okV2 => ?_)
    refine ⟨_, _, l_isProved (G := gV G (sj_ad G) N2) okV2 hO v L1 hno hU u1 u2, fun τ hτ => ?_⟩
    subst hτ
    refine kj_if_eq (tgt := 51) dL_isFound_44 (by decide) (fun q => absurd q z_10) (fun _ => ?_)
    refine kj_iconst (v := nI 1) dL_isFound_47 (by decide +kernel) ?_
    refine kj_goto (tgt := 52) dL_isFound_48 (by decide) ?_
    exact pC_ret (σ1 := τ) ⟨C1, H1, L1, ⟨r', hr', hd1⟩, fun b hb => q1 b (by omega) (by omega)⟩ dL_isFound_52 rfl rfl (fun H h => h) (Nat.le_refl _) (Nat.le_refl _)
  refine kj_aload_n dL_isFound_0 (i := 0) rfl rfl ?_
  refine kj_getA (q0 := 56) (k9 := 1) (v := .ref (sj_ad G 0)) dL_isFound_1 (sj_wd_obj (by decide) (by decide +kernel)) rfl (by decide +kernel) (by decide +kernel) (lw_o hO) ?_
  refine vj_call0 (M' := me_X11_find) (d' := 123) (b := 0) (As := []) (rest := []) ok K0 dL_isFound_4 gL_isFound_X11_find rfl hd_X11_find (by decide +kernel) (by decide +kernel) rfl (Nat.le_of_ble_eq_true rfl) ⟨Nat.le_of_ble_eq_true rfl, Nat.le_of_ble_eq_true rfl⟩ rfl ⟨Nat.zero_le _, Nat.zero_le _⟩ (fun N okV => ?_)
  obtain ⟨b, σ1, f1, f2, f3, ⟨r', f4, f5⟩, f6, f7⟩ := k_find (G := gV G (sj_ad G) N) (σ := σ) okV v hC hH hr hd
  have hb : b = false := by
    cases hb : b
    · rfl
    · obtain ⟨T, t1, -⟩ := f6 hb
      exact absurd t1.1 (hno T)
  obtain ⟨-, e2, e3, hp⟩ := f7 hb
  rw [hb] at f1
  have L1 : lR D σ1 := lR_35 hL (fun b hb _ => f2 b (by omega))
  refine ⟨_, σ1, f1, ?_⟩
  refine kj_istore_n dL_isFound_7 (i := 1) rfl (by decide) ?_
  refine kj_aload_n dL_isFound_8 (i := 0) rfl rfl ?_
  refine kj_getA (q0 := 56) (k9 := 13) (v := .int (nI (dN D))) dL_isFound_9 (sj_wd_obj (by decide) (by decide +kernel)) rfl (by decide +kernel) (by decide +kernel) (by rw [lw_n, L1.1]) ?_
  refine kj_iconst (v := nI 4) dL_isFound_12 (by decide +kernel) ?_
  refine kj_icmp_ge (tgt := 26) dL_isFound_13 (by decide) (fun _ => ?_) (fun q => ?_)
  · exact key σ1 r' (fun b hb _ => f2 b (by omega)) e2 f3 f4 f5 hp
  · rw [nI_leI (by decide) (by omega)] at q
    refine kj_aload_n dL_isFound_16 (i := 0) rfl rfl ?_
    refine vj_call0 (M' := me_L_tries) (d' := 5) (b := 56) (As := []) (rest := []) ok K0 dL_isFound_17 gL_isFound_L_tries rfl hd_L_tries (by decide +kernel) (by decide +kernel) rfl (Nat.le_of_ble_eq_true rfl) ⟨Nat.le_of_ble_eq_true rfl, Nat.le_of_ble_eq_true rfl⟩ rfl ⟨Nat.zero_le _, Nat.zero_le _⟩ (fun N2 okV2 => ?_)
    obtain ⟨bt, σ2, t1, t2, t3, -⟩ := l_tries (G := gV G (sj_ad G) N2) (σ := σ1) okV2 v L1 h1 (by omega)
    have hbt : bt = false := by
      cases hbt : bt
      · rfl
      · obtain ⟨T, u1, -⟩ := t3 hbt
        exact absurd u1.1 (hno T)
    rw [hbt] at t1
    refine ⟨_, σ2, t1, ?_⟩
    refine kj_iload_n dL_isFound_20 (i := 1) rfl rfl ?_
    refine kj_icmp_eq (tgt := 26) dL_isFound_21 (by decide) (fun _ => ?_) (fun x => absurd rfl x)
    refine key σ2 r' (fun b hb h62 => by rw [t2 b h62, f2 b (by omega)]) (by rw [t2 2 (by decide)]; exact e2) (kH_e f3 (t2 4 (by decide))) f4 (zRd_e f5 (by rw [t2 30 (by decide)]) (t2 33 (by decide))) ?_
    rw [t2 30 (by decide), t2 32 (by decide)]
    exact hp
end FND
