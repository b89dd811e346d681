/-! P59: THE FIRST STATE; contracts that allot cells -/
def zD0 : zD := fun f i => if f = 12 then 63 else if f = 13 then 3 else 0
theorem zD0_ok : okD zD0 := ⟨by decide, by decide, by decide, fun l hl => absurd hl (Nat.not_lt_zero l), fun w hw => absurd hw (Nat.not_lt_zero w), fun t _ => ⟨show 63 < 64 by decide, show 0 < 32 by decide⟩, fun k _ => show 3 ≤ 3 by decide, fun e _ => ⟨show 0 < 256 by decide, fun o _ => show (0 : Nat).testBit o = (0 : Nat).testBit e by rw [Nat.zero_testBit, Nat.zero_testBit]⟩⟩
theorem zD0_C : repC zD0 (zInit 2) := by unfold repC; decide +kernel
theorem zD0_k : k0 zD0 := ⟨zD0_ok, rfl, ⟨rfl, rfl⟩, fun _ _ => rfl, fun _ _ => rfl⟩
theorem zH0 : kH zInit := ⟨0, 0, by decide, by decide, by decide +kernel, by decide +kernel⟩
theorem zR0 : zRd zInit 0 := ⟨by decide +kernel, fun i _ => ⟨0, 0, Nat.le_refl _, by decide, by show (0 : Int32) = nI 0; exact nI_0.symm⟩⟩
theorem zY0 : zYr zInit 13398 20260907 0 (fun _ => 0) (fun _ => 0) := by
  refine ⟨?_, by decide, by decide +kernel, by decide, by decide, by decide +kernel, by decide +kernel, trivial, trivial, fun k hk => absurd hk (Nat.not_lt_zero k), by decide +kernel⟩
  unfold qDt
  decide +kernel
def lj_X : String → State → State → Prop := vx_X (fun _ : Unit => False) (fun _ _ _ => False) (fun _ => False)
def kNst (U : State) : Prop := ∀ q ∈ kj_nest, va_Nw (.methodLinkNest q.1 q.2.1 q.2.2 RX11) U
theorem kNst_warm {s U : State} (hW : s.WarmedH U.vm) (h : kNst s) : kNst U := fun q hq => va_Nw.warmM hW (h q hq)
theorem kNst_calling {U : State} {g : JFrame} {mk : MethodId} {a : Array Value} (h : kNst U) : kNst (U.calling g mk a) := fun q hq => va_Nw.same (u := U) rfl rfl (h q hq)
/-- the contract of a method that allots cells: its answer is r, Φ holds of the contents behind it -/
def pC (G : sj_G) (M : sj_M) (d mc ms : Nat) (av : List Value) (σ : sj_S) (r : Int32) (Φ : sj_S → Prop) : Prop :=
  vx_Met (sj_l G) (sj_y M) (sj_ws M) (kj_rm d mc ms) (va_Pc av (fun U => sj_B G σ U ∧ sj_K G U U.heap ∧ kNst U)) (va_Qi (fun r' (τ : sj_S) => r' = r ∧ Φ τ) (fun τ t => sj_B G τ t) (sj_A G)) lj_X mc ms (sj_A G)
def pZ (G : sj_G) (r : Int32) (Φ : sj_S → Prop) (below : List Frame) (args : Array Value) (s : State) (mc ms : Nat) : State → Prop := vx_MQ below (va_Qi (fun r' (τ : sj_S) => r' = r ∧ Φ τ) (fun τ t => sj_B G τ t) (sj_A G)) lj_X args s mc ms (sj_A G)
theorem pC_blind {G : sj_G} {σ : sj_S} {av : List Value} : FrameBlind (va_Pc av (fun U => sj_B G σ U ∧ sj_K G U U.heap ∧ kNst U)) := fun a U g mk q => ⟨q.1, q.2.1, sj_K_calling q.2.2.1, kNst_calling q.2.2.2⟩
section PC
variable {G : sj_G} {M : sj_M} {σ : sj_S} {Φ : sj_S → Prop} {r : Int32} {d mc ms : Nat}
theorem pC_enter (ok : sj_ok G) {ws' : List Cond} {av : List Value} (hy : plainName (sj_y M).cls = true) (hyo : (sj_y M).cls = sj_own M) (hw : sj_ws M = Cond.code (sj_y M) (sj_cc M) (sj_nL M) (sj_rt M) :: ws') (hn : av.length ≤ sj_nL M) (hc : ∀ v ∈ av, v.category = 1)
    (k : ∀ (p : Program) (e : Env) (s : State) (m : MethodId) (args : Array Value) (below : List Frame) (meth : Method) (c : Code), sj_K G s s.heap → kNst s → kj_J (sj_l G) (sj_D G) (sj_cs G) (sj_A G) M p e s m args below meth c (kj_rm d mc ms) (pZ G r Φ below args s mc ms) 0 0 (sj_wd G σ) 0 (av ++ List.replicate (sj_nL M - av.length) .null) []) : pC G M d mc ms av σ r Φ := by
  unfold pC
  refine vx_ofW (cc := sj_cc M) (maxL := sj_nL M) (ret := sj_rt M) hy hw ?_
  intro p e s m args below meth c s₁ B hml ht hv
  obtain ⟨rfl, hP, hK, hN⟩ := hv
  have hts := atoms_spec (ws := sj_ws M) B.pre
  have hown : s.vm.findClass (sj_own M) = some m.cls := hyo ▸ findClass_of_methodNamed B.named
  have hl := sj_lh_entry av (sj_nL M) hn hc
  rw [lg_entry_eq]
  exact k p e s m _ below meth c hK hN ⟨B.exec, B.bytes, hml, hown, hts, B.notSynchronized, B.returns, ⟨hK.2.1, hK.2.2.2.2.1, hN⟩, fun q hq => ok.2.1 q (Nat.le_trans hK.1 hq)⟩ s.heap [] _ hP (sj_wd_D ok σ) va_S.rf hl
end PC
section PR
variable {G : sj_G} {M : sj_M} {p : Program} {e : Env} {s : State} {m : MethodId} {args : Array Value} {below : List Frame} {meth : Method} {c : Code} {rm : Room} {cells slots mc ms : Nat} {ws : va_W} {pc : Nat} {L st rest : List Value} {σ σ1 : sj_S} {Z : State → Prop}
theorem pC_ret {ty : FieldType} {r : Int32} {Φ : sj_S → Prop} (hΦ : Φ σ1) (hd : decode (sj_cc M) pc = .ok (.ireturn, 1)) (hr : sj_rt M = some ty) (hn : narrow ty (.int r) = .int r) (hcP : ∀ H, va_P (sj_D G) vwCl ws H → va_P (sj_D G) vwCl (sj_wd G σ1) H) (hc : cells ≤ mc) (hs : slots ≤ ms) : kj_J (sj_l G) (sj_D G) (sj_cs G) (sj_A G) M p e s m args below meth c rm (pZ G r Φ below args s mc ms) cells slots ws pc L [.int r] := by
  intro C H locs ls hP hD hS hl
  refine W.widen hc hs ?_
  refine vx_ret ?_
  refine W.zret C.1 C.2.1 (C.2.2.2.2.2.2.1.trans hr) hn (fun t ht hW => ?_) hS.2.2 hd C.2.2.2.2.2.1
  exact ⟨⟨r, σ1, rfl, ⟨rfl, hΦ⟩, by show va_P (sj_D G) vwCl (sj_wd G σ1) t.heap; rw [ht]; exact hcP H hP⟩, hS.F ht⟩
/-- a call in the one world -/
theorem vj_call0 {M' : sj_M} {d' idx b : Nat} {As : List Value} {ws' : List Cond} {ty : FieldType} (ok : sj_ok G) (K0 : sj_K G s s.heap)
    (hd : decode (sj_cc M) pc = .ok (.invokevirtual idx, 3)) (hg : GoodIn (sj_ws M) (wsV (sj_own M) idx (sj_own M') (sj_y M') (sj_ws M'))) (hw : sj_ws M' = Cond.code (sj_y M') (sj_cc M') (sj_nL M') (sj_rt M') :: ws') (hh : sj_hd M' As.length = true) (hb : b < sj_NA) (hbk : sj_lk b ≤ 12) (hbc : (vwCl[sj_lk b]?).map (fun q => q.1) = some (sj_own M')) (hrs : (rest.map fun v => v.category).sum ≤ 8) (hdd : d' + 1 ≤ rm.frames ∧ 64 * (d' + 1) ≤ rm.locals) (hrt : sj_rt M' = some ty) (hcl : cells ≤ rm.cells ∧ slots ≤ rm.slots)
    (hck : ∀ N, sj_ok (gV G (sj_ad G) N) → ∃ (v : Int32) (σ1 : sj_S), sj_C (gV G (sj_ad G) N) d' M' (.ref (sj_ad G b) :: As) σ (.ok v, σ1) ∧ kj_J (sj_l G) (sj_D G) (sj_cs G) (sj_A G) M p e s m args below meth c rm Z cells slots (sj_wd G σ1) (pc + 3) L (.int v :: rest)) : kj_J (sj_l G) (sj_D G) (sj_cs G) (sj_A G) M p e s m args below meth c rm Z cells slots (sj_wd G σ) pc L (As.reverse ++ .ref (sj_ad G b) :: rest) := by
  have hlen : ∀ (τ : sj_S) (k : Nat) (q : Nat × va_E), (sj_wd G τ)[k]? = some q → k < sj_NA := by
    intro τ k q hk
    have := (List.getElem?_eq_some_iff.mp hk).1
    simpa [sj_wd] using this
  refine vj_call (ad := sj_ad G) (σ := σ) ok K0 (fun a ha => ⟨a, sj_wd_get ha⟩) (fun _ => ok.2.2.2) hd hg hw hh hb hbk hbc hrs hdd hrt hcl (fun N okV => ?_)
  obtain ⟨v, σ1, hc, k⟩ := hck N okV
  refine ⟨v, σ1, _, hc, fun hD k q hk => ?_, fun k => ?_, k⟩
  · have h1 := hlen σ1 k q hk
    rw [sj_wd_get h1] at hk
    exact Or.inl ⟨k, h1, (Option.some.inj hk).symm⟩
  · by_cases hk : k < sj_NA
    · rw [sj_wd_get hk, sj_wd_get hk]; rfl
    · rw [List.getElem?_eq_none (by simp [sj_wd]; omega), List.getElem?_eq_none (by simp [sj_wd]; omega)]
theorem va_D_l {A : Nat → Prop} {ws E : va_W} (h : va_D A (ws ++ E)) : va_D A ws := by
  have key : ∀ (k : Nat) (q : Nat × va_E), ws[k]? = some q → (ws ++ E)[k]? = some q := fun k q hk => by
    rw [List.getElem?_append_left (List.getElem?_eq_some_iff.mp hk).1]
    exact hk
  exact ⟨fun i j p q hi hj hpq => h.1 i j p q (key i p hi) (key j q hj) hpq, fun k q hk => h.2 k q (key k q hk)⟩
end PR
section LW
variable {G : sj_G} {ad2 : Nat → Nat} {σ σ2 : sj_S}
theorem wsT_obj {a : Nat} (h : a < sj_NA) (hk : sj_lk a ≤ 12) : (wsT G ad2 σ σ2)[a]? = some (sj_ad G a, .inr (sj_lk a, sj_fs (sj_ad G) σ a)) := by
  unfold wsT
  rw [List.getElem?_append_left (by simp [sj_wd]; exact h)]
  exact sj_wd_obj h hk
theorem wsT_arr {a : Nat} (h : a < sj_NA) (hk : ¬ sj_lk a ≤ 12) : (wsT G ad2 σ σ2)[a]? = some (sj_ad G a, .inl (sj_cs G (sj_lk a), sj_ln a, .inl (σ a))) := by
  unfold wsT
  rw [List.getElem?_append_left (by simp [sj_wd]; exact h)]
  exact sj_wd_arr h hk
theorem lw_o (hO : sj_ad G 70 = sj_ad G 0) : (sj_fs (sj_ad G) σ 56)[1]? = some (.ref (sj_ad G 0)) := by
  rw [sj_fs_get (by decide +kernel)]
  show some (Value.ref (sj_ad G 70)) = _
  rw [hO]
theorem lw_63 : (sj_fs (sj_ad G) σ 56)[8]? = some (.ref (sj_ad G 63)) := by
  rw [sj_fs_get (by decide +kernel)]; rfl
theorem lw_64 : (sj_fs (sj_ad G) σ 56)[9]? = some (.ref (sj_ad G 64)) := by
  rw [sj_fs_get (by decide +kernel)]; rfl
theorem lw_65 : (sj_fs (sj_ad G) σ 56)[10]? = some (.ref (sj_ad G 65)) := by
  rw [sj_fs_get (by decide +kernel)]; rfl
theorem lw_66 : (sj_fs (sj_ad G) σ 56)[11]? = some (.ref (sj_ad G 66)) := by
  rw [sj_fs_get (by decide +kernel)]; rfl
theorem lw_n : (sj_fs (sj_ad G) σ 56)[13]? = some (.int (σ 56 13)) := by
  rw [sj_fs_get (by decide +kernel)]; rfl
end LW
