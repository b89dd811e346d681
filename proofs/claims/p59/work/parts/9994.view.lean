/-! P59: A VIEW of the list of cells: the class's world at other addresses -/
def gV (G : sj_G) (ad : Nat → Nat) (N : Nat) : sj_G := (G.1, G.2.1, G.2.2.1, ad, sj_cs G, (fun q => (∃ a, a < sj_NA ∧ q = ad a) ∨ N ≤ q), N, sj_tk G, sj_tv G)
theorem gV_ok {G : sj_G} {ad : Nat → Nat} {N : Nat} (h : sj_ok G) (hi : ∀ a b, a < sj_NA → b < sj_NA → ad a = ad b → a = b) : sj_ok (gV G ad N) :=
  ⟨h.1, fun q hq => Or.inr hq, fun a ha => Or.inl ⟨a, ha, rfl⟩, hi⟩
theorem gV_A {G : sj_G} {ad : Nat → Nat} {N : Nat} (ok : sj_ok G) (hN : sj_N0 G ≤ N) (hA : ∀ a, a < sj_NA → sj_A G (ad a)) : ∀ q, sj_A (gV G ad N) q → sj_A G q := by
  intro q hq
  rcases hq with ⟨a, ha, rfl⟩ | hq
  · exact hA a ha
  · exact ok.2.1 q (Nat.le_trans hN hq)
theorem gV_K {G : sj_G} {ad : Nat → Nat} {N : Nat} {U : State} {H : Heap} (ok : sj_ok G) (h : sj_K G U H) (hN : sj_N0 G ≤ N) (hz : N ≤ H.size) (hA : ∀ a, a < sj_NA → sj_A G (ad a)) : sj_K (gV G ad N) U H := by
  have hAB := gV_A (ad := ad) (N := N) ok hN hA
  obtain ⟨-, h2, h3, h4, h5, h6, h7, h8⟩ := h
  obtain ⟨k1, k2, k3, k4⟩ := h8
  exact ⟨hz, h2, h3.narrow hAB, h4.narrow hAB, h5, h6, h7, k1.narrow hAB, k2, k3.narrow hAB, k4.narrow hAB⟩
theorem va_D_same {A : Nat → Prop} {ws ws1 : va_W} (h : ∀ k : Nat, (ws1[k]?).map (fun q => q.1) = (ws[k]?).map (fun q => q.1)) (hD : va_D A ws) : va_D A ws1 := by
  have key : ∀ (k : Nat) (q : Nat × va_E), ws1[k]? = some q → ∃ q', ws[k]? = some q' ∧ q'.1 = q.1 := by
    intro k q hk
    have h1 := h k
    rw [hk] at h1
    cases hw : ws[k]? with
    | none => rw [hw] at h1; cases h1
    | some q' =>
      rw [hw] at h1
      exact ⟨q', rfl, (Option.some.inj h1).symm⟩
  refine ⟨fun i j p q hi hj hpq => ?_, fun k q hk => ?_⟩
  · obtain ⟨p', h1, e1⟩ := key i p hi
    obtain ⟨q', h2, e2⟩ := key j q hj
    exact hD.1 i j p' q' h1 h2 (by rw [e1, e2, hpq])
  · obtain ⟨q', h1, e1⟩ := key k q hk
    rw [← e1]
    exact hD.2 k q' h1
section VIEW
variable {G : sj_G} {M : sj_M} {p : Program} {e : Env} {s : State} {m : MethodId} {args : Array Value} {below : List Frame} {meth : Method} {c : Code} {rm : Room} {Z : State → Prop} {cells slots : Nat} {ws ws1 : va_W} {pc : Nat} {L st rest : List Value} {σ σ1 : sj_S}
/-- a call of a method of a view -/
theorem vj_call {M' : sj_M} {d' idx b : Nat} {As : List Value} {ws' : List Cond} {ty : FieldType} {ad : Nat → Nat} (ok : sj_ok G) (K0 : sj_K G s s.heap)
    (hv : ∀ a, a < sj_NA → ∃ k : Nat, ws[k]? = some (ad a, sj_ent ad (sj_cs G) σ a))
    (hi : va_D (sj_A G) ws → ∀ a b, a < sj_NA → b < sj_NA → ad a = ad b → a = b)
    (hd : decode (sj_cc M) pc = .ok (.invokevirtual idx, 3)) (hg : GoodIn (sj_ws M) (wsV (sj_own M) idx (sj_own M') (sj_y M') (sj_ws M'))) (hw : sj_ws M' = Cond.code (sj_y M') (sj_cc M') (sj_nL M') (sj_rt M') :: ws') (hh : sj_hd M' As.length = true) (hb : b < sj_NA) (hbk : sj_lk b ≤ 12) (hbc : (vwCl[sj_lk b]?).map (fun q => q.1) = some (sj_own M')) (hrs : (rest.map fun v => v.category).sum ≤ 8) (hdd : d' + 1 ≤ rm.frames ∧ 64 * (d' + 1) ≤ rm.locals) (hrt : sj_rt M' = some ty) (hcl : cells ≤ rm.cells ∧ slots ≤ rm.slots)
    (hck : ∀ N, sj_ok (gV G ad N) → ∃ (v : Int32) (σ1 : sj_S) (ws1 : va_W), sj_C (gV G ad N) d' M' (.ref (ad b) :: As) σ (.ok v, σ1) ∧
      (va_D (sj_A G) ws → ∀ (k : Nat) (q : Nat × va_E), ws1[k]? = some q → (∃ a, a < sj_NA ∧ q = (ad a, sj_ent ad (sj_cs G) σ1 a)) ∨ ((∃ j : Nat, ws[j]? = some q) ∧ ∀ a, a < sj_NA → q.1 ≠ ad a)) ∧
      (∀ k : Nat, (ws1[k]?).map (fun q => q.1) = (ws[k]?).map (fun q => q.1)) ∧
      kj_J (sj_l G) (sj_D G) (sj_cs G) (sj_A G) M p e s m args below meth c rm Z cells slots ws1 (pc + 3) L (.int v :: rest)) : kj_J (sj_l G) (sj_D G) (sj_cs G) (sj_A G) M p e s m args below meth c rm Z cells slots ws pc L (As.reverse ++ .ref (ad b) :: rest) := by
  intro C H locs ls hP hD hS hl
  have hz0 : s.heap.size ≤ H.size := hS.1
  have hN0 : sj_N0 G ≤ H.size := Nat.le_trans K0.1 hz0
  have hlen : ∀ (G' : sj_G) (τ : sj_S) (k : Nat) (q : Nat × va_E), (sj_wd G' τ)[k]? = some q → k < sj_NA := by
    intro G' τ k q hk
    have := (List.getElem?_eq_some_iff.mp hk).1
    simpa [sj_wd] using this
  have hview : va_P (sj_D G) vwCl (sj_wd (gV G ad H.size) σ) H := by
    intro k q hk
    have hk9 := hlen _ _ k q hk
    rw [sj_wd_get hk9] at hk
    cases hk
    obtain ⟨j, hj⟩ := hv k hk9
    exact hP j _ hj
  have hAd : ∀ a, a < sj_NA → sj_A G (ad a) := fun a ha => by
    obtain ⟨j, hj⟩ := hv a ha
    exact hD.2 j _ hj
  have hAB := gV_A (ad := ad) (N := H.size) ok hN0 hAd
  have okV := gV_ok (N := H.size) ok (hi hD)
  obtain ⟨v, σ1, ws1, hc', hw1, hs1, k⟩ := hck H.size okV
  unfold sj_hd at hh
  simp only [Bool.and_eq_true, decide_eq_true_eq] at hh
  obtain ⟨q, hq, hq1⟩ : ∃ q, vwCl[sj_lk b]? = some q ∧ q.1 = sj_own M' := by
    cases hvw : vwCl[sj_lk b]? with
    | none => rw [hvw] at hbc; cases hbc
    | some q => rw [hvw] at hbc; exact ⟨q, rfl, Option.some.inj hbc⟩
  have hr : vx_Run p (sj_l G) e rm s m args below meth c H locs cells slots (sj_mc (.ok v, σ1)) (sj_ms (.ok v, σ1)) (F0 m pc ls (As.reverse ++ .ref (ad b) :: rest)) rest (sj_Q (gV G ad H.size) (sj_rt M') (.ok v, σ1) (Value.ref (ad b) :: As).toArray) (sj_X (gV G ad H.size) (.ok v, σ1)) (sj_A (gV G ad H.size)) := by
    refine vx_runV (rest := rest) ⟨C.1, C.2.1, C.2.2.1, C.2.2.2.1, C.2.2.2.2.1⟩ hc' (cwV As.length C.2.2.2.2.1 hg hw rfl rfl ⟨hh.1.1.1.1, hh.1.1.1.2, hh.1.1.2, hh.1.2⟩ ⟨?_, ?_⟩) ⟨sj_blind, ?_, fun U hU hW => ⟨rfl, by unfold sj_B; rw [hU]; exact hview, gV_K ok (sj_K_moved ok hW hS hU K0) hN0 (by rw [hU]; exact Nat.le_refl _) hAd⟩⟩ rfl rfl hl.1 rfl (lv_room hrs) hd ⟨?_, ?_⟩
    · exact hdd.1
    · show 8 + (sj_nL M' + 11) + 64 * d' ≤ rm.locals
      have := hh.2
      have := hdd.2
      omega
    · have h9 := va_recv C.2.2.2.2.2.2.2.1.1 hview hq (sj_wd_obj (G := gV G ad H.size) hb hbk)
      rw [hq1] at h9
      exact h9
    · show cells + 0 ≤ rm.cells
      omega
    · show slots + 0 ≤ rm.slots
      omega
  rw [hrt] at hr
  refine vx_calli (a := (Value.ref (ad b) :: As).toArray) hr hS (fun q _ h => hAB q h) hAB (fun q _ h => hAB q h) (fun E ce q9 u t H1 locs1 ht hvm hpx hBX hz hk hS1 hce hcv hcl => ?_) (fun r u t H1 locs1 ht hvm hpost hB hz hk hS1 => ?_)
  · obtain ⟨k9, h9, -⟩ := hBX
    cases h9
  · cases hpost
    have hB' : va_P (sj_D G) vwCl (sj_wd (gV G ad H.size) σ1) H1 := by rw [← ht]; exact hB
    have hP1 : va_P (sj_D G) vwCl ws1 H1 := by
      intro k q hk9
      rcases hw1 hD k q hk9 with ⟨a, ha, rfl⟩ | ⟨⟨j, hj⟩, hne⟩
      · exact hB' a _ (sj_wd_get ha)
      · have h0 : va_P (sj_D G) vwCl [q] H := fun k x hx => by
          have hz : k < 1 := (List.getElem?_eq_some_iff.mp hx).1
          rw [show k = 0 by omega] at hx
          cases hx
          exact hP j _ hj
        have hlt := (hP j q hj).lt
        have h1 : va_P (sj_D G) vwCl [q] H1 := h0.kept (fun k x hx => by
          have hz : k < 1 := (List.getElem?_eq_some_iff.mp hx).1
          rw [show k = 0 by omega] at hx
          cases hx
          refine hk _ hlt (fun h => ?_)
          rcases h with ⟨a, ha, e9⟩ | h
          · exact hne a ha e9
          · exact absurd h (Nat.not_le_of_lt hlt))
        exact h1 0 q rfl
    exact k C H1 locs1 ls hP1 (va_D_same hs1 hD) hS1 hl
end VIEW
/-! two worlds side by side: the law's, and a second Schoolhours at ad2 -/
def wsT (G : sj_G) (ad2 : Nat → Nat) (σ σ2 : sj_S) : va_W := sj_wd G σ ++ kj_sl ad2 (sj_cs G) σ2 0 56
def vAd (G : sj_G) (ad2 : Nat → Nat) : Nat → Nat := fun a => if a < 56 then ad2 a else sj_ad G a
/-- the second world's contents: its own places, the law's -/
def vS (σ σ2 : sj_S) : sj_S := fun a => if a < 56 then σ2 a else σ a
section TWO
variable {G : sj_G} {ad2 : Nat → Nat} {σ σ2 σ' σ2' : sj_S}
theorem wsT_l {a : Nat} (h : a < sj_NA) : (wsT G ad2 σ σ2)[a]? = some (sj_ad G a, sj_ent (sj_ad G) (sj_cs G) σ a) := by
  unfold wsT
  rw [List.getElem?_append_left (by simp [sj_wd]; exact h)]
  exact sj_wd_get h
theorem wsT_r {j : Nat} (h : j < 56) : (wsT G ad2 σ σ2)[sj_NA + j]? = some (ad2 j, sj_ent ad2 (sj_cs G) σ2 j) := by
  unfold wsT
  have hn : (sj_wd G σ).length = sj_NA := by simp [sj_wd]
  rw [List.getElem?_append_right (by omega), hn, Nat.add_sub_cancel_left]
  unfold kj_sl
  simp [h]
theorem wsT_c {k : Nat} {q : Nat × va_E} (h : (wsT G ad2 σ σ2)[k]? = some q) : (k < sj_NA ∧ q = (sj_ad G k, sj_ent (sj_ad G) (sj_cs G) σ k)) ∨ ∃ j, k = sj_NA + j ∧ j < 56 ∧ q = (ad2 j, sj_ent ad2 (sj_cs G) σ2 j) := by
  by_cases hk : k < sj_NA
  · rw [wsT_l hk] at h
    exact Or.inl ⟨hk, (Option.some.inj h).symm⟩
  · have hlt : k < (wsT G ad2 σ σ2).length := (List.getElem?_eq_some_iff.mp h).1
    have hlen : (wsT G ad2 σ σ2).length = sj_NA + 56 := by simp [wsT, sj_wd, kj_sl]
    obtain ⟨j, rfl⟩ : ∃ j, k = sj_NA + j := ⟨k - sj_NA, by omega⟩
    have hj : j < 56 := by omega
    rw [wsT_r hj] at h
    exact Or.inr ⟨j, rfl, hj, (Option.some.inj h).symm⟩
theorem wsT_a (k : Nat) : ((wsT G ad2 σ' σ2')[k]?).map (fun q => q.1) = ((wsT G ad2 σ σ2)[k]?).map (fun q => q.1) := by
  by_cases hk : k < sj_NA
  · rw [wsT_l hk, wsT_l hk]; rfl
  · by_cases hj : k < sj_NA + 56
    · obtain ⟨j, rfl⟩ : ∃ j, k = sj_NA + j := ⟨k - sj_NA, by omega⟩
      rw [wsT_r (by omega), wsT_r (by omega)]; rfl
    · have hlen : ∀ τ τ2, (wsT G ad2 τ τ2).length = sj_NA + 56 := fun τ τ2 => by simp [wsT, sj_wd, kj_sl]
      rw [List.getElem?_eq_none (by rw [hlen]; omega), List.getElem?_eq_none (by rw [hlen]; omega)]
theorem wsT_ne {A : Nat → Prop} (hD : va_D A (wsT G ad2 σ σ2)) {a j : Nat} (ha : a < sj_NA) (hj : j < 56) : ad2 j ≠ sj_ad G a := fun h => by
  have := hD.1 (sj_NA + j) a _ _ (wsT_r hj) (wsT_l ha) h
  omega
theorem sj_ent_s {ad : Nat → Nat} {cs : Nat → ClassId} {τ τ' : sj_S} {a : Nat} (h : τ' a = τ a) : sj_ent ad cs τ' a = sj_ent ad cs τ a := by
  have hf : sj_fs ad τ' a = sj_fs ad τ a := by
    unfold sj_fs
    apply List.map_congr_left
    intro k _
    unfold sj_fv
    rw [h]
  unfold sj_ent
  rw [hf, h]
theorem vEnt_lo {a : Nat} (h : a < 56) : sj_ent (vAd G ad2) (sj_cs G) (vS σ σ2) a = sj_ent ad2 (sj_cs G) σ2 a := by
  have e := kj_sl_congr (ad := vAd G ad2) (ad' := ad2) (cs := sj_cs G) (σ := vS σ σ2) (b := 0) (n := 56) (by decide +kernel) (fun k hk => by
    unfold vAd
    rw [if_pos (by omega)])
  have e1 := congrArg (fun l : va_W => l[a]?) e
  unfold kj_sl at e1
  simp [h] at e1
  rw [e1.2]
  exact sj_ent_s (by unfold vS; rw [if_pos h])
theorem vEnt_hi {a : Nat} (h : 56 ≤ a) (h2 : a < sj_NA) : sj_ent (vAd G ad2) (sj_cs G) (vS σ σ2) a = sj_ent (sj_ad G) (sj_cs G) σ a := by
  have h2 : a < 70 := h2
  have e := kj_sl_congr (ad := vAd G ad2) (ad' := sj_ad G) (cs := sj_cs G) (σ := vS σ σ2) (b := 56) (n := 15) (by decide +kernel) (fun k hk => by
    unfold vAd
    rw [if_neg (by omega)])
  have e1 := congrArg (fun l : va_W => l[a - 56]?) e
  unfold kj_sl at e1
  have h3 : a - 56 < 15 := by omega
  have h4 : 56 + (a - 56) = a := by omega
  simp [h3, h4] at e1
  rw [e1.2]
  exact sj_ent_s (by unfold vS; rw [if_neg (by omega)])
end TWO
section TWOC
variable {G : sj_G} {M : sj_M} {p : Program} {e : Env} {s : State} {m : MethodId} {args : Array Value} {below : List Frame} {meth : Method} {c : Code} {rm : Room} {Z : State → Prop} {cells slots : Nat} {pc : Nat} {L st rest : List Value} {σ σ1 σ2 τ : sj_S} {ad2 : Nat → Nat}
/-- a call in the law's own world, the second one standing by -/
theorem vj_call1 {M' : sj_M} {d' idx b : Nat} {As : List Value} {ws' : List Cond} {ty : FieldType} (ok : sj_ok G) (K0 : sj_K G s s.heap)
    (hd : decode (sj_cc M) pc = .ok (.invokevirtual idx, 3)) (hg : GoodIn (sj_ws M) (wsV (sj_own M) idx (sj_own M') (sj_y M') (sj_ws M'))) (hw : sj_ws M' = Cond.code (sj_y M') (sj_cc M') (sj_nL M') (sj_rt M') :: ws') (hh : sj_hd M' As.length = true) (hb : b < sj_NA) (hbk : sj_lk b ≤ 12) (hbc : (vwCl[sj_lk b]?).map (fun q => q.1) = some (sj_own M')) (hrs : (rest.map fun v => v.category).sum ≤ 8) (hdd : d' + 1 ≤ rm.frames ∧ 64 * (d' + 1) ≤ rm.locals) (hrt : sj_rt M' = some ty) (hcl : cells ≤ rm.cells ∧ slots ≤ rm.slots)
    (hck : ∀ N, sj_ok (gV G (sj_ad G) N) → ∃ (v : Int32) (σ1 : sj_S), sj_C (gV G (sj_ad G) N) d' M' (.ref (sj_ad G b) :: As) σ (.ok v, σ1) ∧ kj_J (sj_l G) (sj_D G) (sj_cs G) (sj_A G) M p e s m args below meth c rm Z cells slots (wsT G ad2 σ1 σ2) (pc + 3) L (.int v :: rest)) : kj_J (sj_l G) (sj_D G) (sj_cs G) (sj_A G) M p e s m args below meth c rm Z cells slots (wsT G ad2 σ σ2) pc L (As.reverse ++ .ref (sj_ad G b) :: rest) := by
  refine vj_call (ad := sj_ad G) (σ := σ) ok K0 (fun a ha => ⟨a, wsT_l ha⟩) (fun _ => ok.2.2.2) hd hg hw hh hb hbk hbc hrs hdd hrt hcl (fun N okV => ?_)
  obtain ⟨v, σ1, hc, k⟩ := hck N okV
  refine ⟨v, σ1, _, hc, fun hD k q hk => ?_, wsT_a, k⟩
  rcases wsT_c hk with ⟨h1, h2⟩ | ⟨j, h1, h2, h3⟩
  · exact Or.inl ⟨k, h1, h2⟩
  · rw [h3]
    exact Or.inr ⟨⟨sj_NA + j, wsT_r h2⟩, fun a ha => wsT_ne hD ha h2⟩
/-- a call in the second world -/
theorem vj_call2 {M' : sj_M} {d' idx b : Nat} {As : List Value} {ws' : List Cond} {ty : FieldType} (ok : sj_ok G) (K0 : sj_K G s s.heap)
    (hd : decode (sj_cc M) pc = .ok (.invokevirtual idx, 3)) (hg : GoodIn (sj_ws M) (wsV (sj_own M) idx (sj_own M') (sj_y M') (sj_ws M'))) (hw : sj_ws M' = Cond.code (sj_y M') (sj_cc M') (sj_nL M') (sj_rt M') :: ws') (hh : sj_hd M' As.length = true) (hb : b < sj_NA) (hbk : sj_lk b ≤ 12) (hbc : (vwCl[sj_lk b]?).map (fun q => q.1) = some (sj_own M')) (hrs : (rest.map fun v => v.category).sum ≤ 8) (hdd : d' + 1 ≤ rm.frames ∧ 64 * (d' + 1) ≤ rm.locals) (hrt : sj_rt M' = some ty) (hcl : cells ≤ rm.cells ∧ slots ≤ rm.slots)
    (hck : ∀ N, sj_ok (gV G (vAd G ad2) N) → ∃ (v : Int32) (τ : sj_S), sj_C (gV G (vAd G ad2) N) d' M' (.ref (vAd G ad2 b) :: As) (vS σ σ2) (.ok v, τ) ∧ (∀ a, 56 ≤ a → τ a = σ a) ∧ kj_J (sj_l G) (sj_D G) (sj_cs G) (sj_A G) M p e s m args below meth c rm Z cells slots (wsT G ad2 σ τ) (pc + 3) L (.int v :: rest)) : kj_J (sj_l G) (sj_D G) (sj_cs G) (sj_A G) M p e s m args below meth c rm Z cells slots (wsT G ad2 σ σ2) pc L (As.reverse ++ .ref (vAd G ad2 b) :: rest) := by
  have ha1 : ∀ a, a < 56 → vAd G ad2 a = ad2 a := fun a ha => if_pos ha
  have ha2 : ∀ a, 56 ≤ a → vAd G ad2 a = sj_ad G a := fun a ha => if_neg (by omega)
  refine vj_call (ad := vAd G ad2) (σ := vS σ σ2) ok K0 (fun a ha => ?_) (fun hD a b ha hb e9 => ?_) hd hg hw hh hb hbk hbc hrs hdd hrt hcl (fun N okV => ?_)
  · by_cases h : a < 56
    · exact ⟨sj_NA + a, by rw [wsT_r h, vEnt_lo h, ha1 a h]⟩
    · exact ⟨a, by rw [wsT_l ha, vEnt_hi (by omega) ha, ha2 a (by omega)]⟩
  · by_cases h : a < 56
    · by_cases h' : b < 56
      · rw [ha1 a h, ha1 b h'] at e9
        have := hD.1 (sj_NA + a) (sj_NA + b) _ _ (wsT_r h) (wsT_r h') e9
        omega
      · rw [ha1 a h, ha2 b (by omega)] at e9
        exact absurd e9 (wsT_ne hD hb h)
    · by_cases h' : b < 56
      · rw [ha2 a (by omega), ha1 b h'] at e9
        exact absurd e9.symm (wsT_ne hD ha h')
      · rw [ha2 a (by omega), ha2 b (by omega)] at e9
        exact ok.2.2.2 a b ha hb e9
  · obtain ⟨v, τ, hc, hτ, kk⟩ := hck N okV
    have ev : vS σ τ = τ := by
      funext a
      unfold vS
      by_cases h : a < 56
      · rw [if_pos h]
      · rw [if_neg h, hτ a (by omega)]
    refine ⟨v, τ, _, hc, fun hD k q hk => ?_, wsT_a, kk⟩
    rcases wsT_c hk with ⟨h1, h2⟩ | ⟨j, h1, h2, h3⟩
    · by_cases h : k < 56
      · rw [h2]
        refine Or.inr ⟨⟨k, wsT_l h1⟩, fun a ha e9 => ?_⟩
        by_cases h' : a < 56
        · rw [ha1 a h'] at e9
          exact wsT_ne hD h1 h' e9.symm
        · rw [ha2 a (by omega)] at e9
          have := ok.2.2.2 k a h1 ha e9
          omega
      · refine Or.inl ⟨k, h1, ?_⟩
        rw [h2, ha2 k (by omega), ← ev, vEnt_hi (by omega) h1]
    · refine Or.inl ⟨j, Nat.lt_of_lt_of_le h2 (by decide), ?_⟩
      rw [h3, ha1 j h2, ← ev, vEnt_lo h2, ev]
end TWOC
