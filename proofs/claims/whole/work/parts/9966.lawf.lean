/-! THE LAW: its two arrays beside the world; its methods that catch -/
abbrev lG : Type := Nat × Nat × ClassId × ClassId
def lE (q : lG) (f : Nat → Int64) (g : Nat → UInt64) : va_W := [(q.1, .inl (q.2.2.1, 1, .inr (.inl f))), (q.2.1, .inl (q.2.2.2, 1, .inr (.inr (.inr (.inl g)))))]
def lA (G : sj_G) (q : lG) : Nat → Prop := fun x => sj_A G x ∨ x = q.1 ∨ x = q.2.1
/-- what the tables say of the two arrays' classes and of the exceptions -/
def lT (G : sj_G) (q : lG) (U : State) : Prop := va_K (sj_D G) vwCl [(q.2.2.1, .long), (q.2.2.2, .double)] U ∧ (∀ k, 0 < k → k < 4 → va_Nw (.castable (sj_ex k) (sj_ex k)) U) ∧ ∀ i j, 0 < i → i < 4 → 0 < j → j < 4 → i ≠ j → va_Nc (sj_ex i) (sj_ex j) U
theorem lT_warm {G : sj_G} {q : lG} {s U : State} (hW : s.WarmedH U.vm) (h : lT G q s) : lT G q U :=
  ⟨va_K.moved hW.alike h.1, fun k h1 h2 => va_Nw.warmC hW (h.2.1 k h1 h2), fun i j h1 h2 h3 h4 h5 => va_Nc.moved hW.alike (h.2.2 i j h1 h2 h3 h4 h5)⟩
theorem lT_calling {G : sj_G} {q : lG} {U : State} {g : JFrame} {mk : MethodId} {a : Array Value} (h : lT G q U) : lT G q (U.calling g mk a) :=
  ⟨va_K.moved (u := U) (U := U.calling g mk a) (Vm.Alike.refl U.vm) h.1, fun k h1 h2 => va_Nw.same (u := U) rfl rfl (h.2.1 k h1 h2), fun i j h1 h2 h3 h4 h5 => va_Nc.moved (u := U) (U := U.calling g mk a) (Vm.Alike.refl U.vm) (h.2.2 i j h1 h2 h3 h4 h5)⟩
def lok (G : sj_G) (q : lG) : Prop := ¬ sj_A G q.1 ∧ ¬ sj_A G q.2.1 ∧ q.1 ≠ q.2.1
theorem lok_E {G : sj_G} {q : lG} {f : Nat → Int64} {g : Nat → UInt64} (h : lok G q) : ∀ x ∈ lE q f g, ¬ sj_A G x.1 := by
  intro x hx
  unfold lE at hx
  simp only [List.mem_cons, List.not_mem_nil, or_false] at hx
  rcases hx with rfl | rfl
  · exact h.1
  · exact h.2.1
def lrm : Room := { frames := 44, cells := 1, slots := 6, locals := 64 * 44 }
def lj_Q (G : sj_G) (q : lG) (r : Int32) (σ1 : sj_S) (f1 : Nat → Int64) (g1 : Nat → UInt64) : Array Value → State → Outcome → State → Prop := va_Qi (fun r' (_ : Unit) => r' = r) (fun _ t => va_P (sj_D G) vwCl (sj_wd G σ1 ++ lE q f1 g1) t.heap) (lA G q)
def lj_X : String → State → State → Prop := vx_X (fun _ : Unit => False) (fun _ _ _ => False) (fun _ => False)
/-- the contract of a method of the law that catches: its answer is r -/
def lj_C (G : sj_G) (q : lG) (M : sj_M) (av : List Value) (σ : sj_S) (f : Nat → Int64) (g : Nat → UInt64) (r : Int32) (σ1 : sj_S) (f1 : Nat → Int64) (g1 : Nat → UInt64) : Prop :=
  vx_Met (sj_l G) (sj_y M) (sj_ws M) lrm (va_Pc av (fun U => va_P (sj_D G) vwCl (sj_wd G σ ++ lE q f g) U.heap ∧ sj_K G U U.heap ∧ lT G q U)) (lj_Q G q r σ1 f1 g1) lj_X 1 6 (lA G q)
theorem lj_blind {G : sj_G} {q : lG} {av : List Value} {ws : va_W} : FrameBlind (va_Pc av (fun U => va_P (sj_D G) vwCl ws U.heap ∧ sj_K G U U.heap ∧ lT G q U)) := fun a U g mk h => ⟨h.1, h.2.1, sj_K_calling h.2.2.1, lT_calling h.2.2.2⟩
section LJ
variable {G : sj_G} {q : lG} {M : sj_M} {σ σ1 : sj_S} {f f1 : Nat → Int64} {g g1 : Nat → UInt64} {r : Int32}
def lj_Z (G : sj_G) (q : lG) (r : Int32) (σ1 : sj_S) (f1 : Nat → Int64) (g1 : Nat → UInt64) (below : List Frame) (args : Array Value) (s : State) : State → Prop := vx_MQ below (lj_Q G q r σ1 f1 g1) lj_X args s 1 6 (lA G q)
theorem lj_enter {hh : List (Nat × Nat × Nat × Nat)} {ws' : List Cond} {av : List Value} (hok : sj_ok G) (hy : plainName (sj_y M).cls = true) (hyo : (sj_y M).cls = sj_own M) (hw : sj_ws M = Cond.codeWith (sj_y M) (sj_cc M) (sj_nL M) (sj_rt M) hh :: ws') (hn : av.length ≤ sj_nL M) (hc : ∀ v ∈ av, v.category = 1)
    (k : ∀ (p : Program) (e : Env) (s : State) (m : MethodId) (args : Array Value) (below : List Frame) (meth : Method) (c : Code), c.exceptionTable.toList = tableOf hh → lT G q s → sj_N0 G ≤ s.heap.size → tj_J G (sj_A G) M p e s m args below meth c lrm (lj_Z G q r σ1 f1 g1 below args s) 0 0 (lE q f g) 0 (av ++ List.replicate (sj_nL M - av.length) .null) σ []) : lj_C G q M av σ f g r σ1 f1 g1 := by
  unfold lj_C
  refine vx_ofWH (cc := sj_cc M) (maxL := sj_nL M) (ret := sj_rt M) (hh := hh) hy hw ?_
  intro p e s m args below meth c s₁ B hml hv
  obtain ⟨rfl, hP, hK, hT⟩ := hv
  have hts := atoms_spec (ws := sj_ws M) B.pre
  have hown : s.vm.findClass (sj_own M) = some m.cls := hyo ▸ findClass_of_methodNamed B.named
  have htab := vx_table (x := sj_y M) B (hts _ (by rw [hw]; exact List.mem_cons_self))
  have hl := sj_lh_entry av (sj_nL M) hn hc
  rw [lg_entry_eq]
  exact k p e s m _ below meth c htab hT hK.1 hok ⟨B.exec, B.bytes, hml, hown, hts, B.notSynchronized, B.returns, trivial, (tj_K.mp hK).2⟩ s.heap [] _ ⟨hP, va_S.rf, hK.1⟩ hl
end LJ
section LK
variable {G : sj_G} {q : lG} {A0 : Nat → Prop} {M : sj_M} {p : Program} {e : Env} {s : State} {m : MethodId} {args : Array Value} {below : List Frame} {meth : Method} {c : Code} {rm : Room} {Z : State → Prop} {cells slots : Nat} {E : va_W} {pc : Nat} {L st rest : List Value} {σ : sj_S}
/-- a call that may throw, from a place with handlers -/
theorem lj_call {M' : sj_M} {d' idx b : Nat} {As : List Value} {ws' : List Cond} {Rc : Except Nat Int32} {σ1 : sj_S} {ty : FieldType} (hK0 : ∀ x, x < s.heap.size → ¬ sj_A G x → ¬ A0 x) (hA : ∀ x, sj_A G x → A0 x) (hE : ∀ x ∈ E, ¬ sj_A G x.1) (hd : decode (sj_cc M) pc = .ok (.invokevirtual idx, 3)) (hg : GoodIn (sj_ws M) (wsV (sj_own M) idx (sj_own M') (sj_y M') (sj_ws M'))) (hw : sj_ws M' = Cond.code (sj_y M') (sj_cc M') (sj_nL M') (sj_rt M') :: ws') (hh : sj_hd M' As.length = true) (hb : b < sj_NA) (hbk : sj_lk b ≤ 12) (hbc : (vwCl[sj_lk b]?).map (fun q => q.1) = some (sj_own M')) (hrs : (rest.map fun v => v.category).sum ≤ 8) (hdd : d' + 1 ≤ rm.frames ∧ 64 * (d' + 1) ≤ rm.locals) (hrt : sj_rt M' = some ty) (hcs : cells + 1 ≤ rm.cells ∧ slots + 6 ≤ rm.slots) (hc : sj_C G d' M' (.ref (sj_ad G b) :: As) σ (Rc, σ1))
    (ker : ∀ k9, Rc = .error k9 → ∀ (H : Heap) (locs : List Loc) (ls : Array Slot) (ce : Cell) (q9 : Addr), sj_ok G → tj_Cx G M p s m args meth c → tj_H G A0 s σ1 E H locs → sj_lh ls (sj_nL M) L → H[q9]? = some ce → ce.vm = .none → s.vm.findClass (sj_ex k9) = some ce.cls → vx_W p (sj_l G) e rm s m args below meth c H locs (cells + 1) (slots + 6) Z (F0 m pc ls rest) q9)
    (kok : ∀ v, Rc = .ok v → tj_J G A0 M p e s m args below meth c rm Z cells slots E (pc + 3) L σ1 (.int v :: rest)) : tj_J G A0 M p e s m args below meth c rm Z cells slots E pc L σ (As.reverse ++ .ref (sj_ad G b) :: rest) := by
  intro ok C H locs ls hH hl
  have hmc : cells + sj_mc (Rc, σ1) ≤ rm.cells ∧ slots + sj_ms (Rc, σ1) ≤ rm.slots := by
    cases Rc with
    | ok v => exact ⟨by show cells + 0 ≤ _; omega, by show slots + 0 ≤ _; omega⟩
    | error k => exact hcs
  have hr := tj_runV (E := E) hK0 ok C hH hl hd hg hw hh hb hbk hbc hrs hdd hc (e := e) (below := below) hmc
  rw [hrt] at hr
  refine vx_calli (a := (Value.ref (sj_ad G b) :: As).toArray) hr hH.2.1 (fun q _ h => hA q h) hA (fun q _ h => hA q h) (fun E ce q9 u t H1 locs1 ht hvm hpx hBX hz hk hS1 hce hcv hcl => ?_) (fun r u t H1 locs1 ht hvm hpost hB hz hk hS1 => ?_)
  · obtain ⟨k9, h9, e2, e3⟩ := hBX
    dsimp only at h9
    subst h9
    subst e2
    exact ker k9 rfl H1 locs1 ls ce q9 ok C (tj_after hE hH ht e3 hz hk hS1) hl hce hcv hcl
  · dsimp only at hpost
    subst hpost
    exact kok r rfl ok C H1 locs1 ls (tj_after hE hH ht hB hz hk hS1) hl
/-- the handler that takes the exception -/
theorem lj_catch {k9 to hp i : Nat} {hh pre suf : List (Nat × Nat × Nat × Nat)} {H : Heap} {locs : List Loc} {ls : Array Slot} {ce : Cell} {q9 : Addr} (ok : sj_ok G) (C : tj_Cx G M p s m args meth c) (hT : lT G q s) (htab : c.exceptionTable.toList = tableOf hh) (hsplit : hh = pre ++ (0, to, hp, i) :: suf) (hcov : covers ⟨0, to, hp, i⟩ pc = true) (hi : i ≠ 0) (hk9 : 0 < k9 ∧ k9 < 4)
    (hpre : ∀ z ∈ pre, ∃ j, (0 < j ∧ j < 4 ∧ j ≠ k9 ∧ z.2.2.2 ≠ 0) ∧ Cond.classLink (sj_own M) z.2.2.2 (sj_ex j) ∈ sj_ws M) (hlk : Cond.classLink (sj_own M) i (sj_ex k9) ∈ sj_ws M) (hH : tj_H G A0 s σ E H locs) (hl : sj_lh ls (sj_nL M) L) (hce : H[q9]? = some ce) (hcv : ce.vm = .none) (hcl : s.vm.findClass (sj_ex k9) = some ce.cls)
    (kk : tj_J G A0 M p e s m args below meth c rm Z cells slots E hp L σ [.ref q9]) : vx_W p (sj_l G) e rm s m args below meth c H locs cells slots Z (F0 m pc ls rest) q9 := by
  refine vx_catch (own := sj_own M) (name := sj_ex k9) (E := sj_ex k9) (ce := ce) C.2.2.2.1 (tableOf pre) ⟨0, to, hp, i⟩ (tableOf suf) (by rw [htab, hsplit]; unfold tableOf; rw [List.map_append, List.map_cons]) (fun z hz => ?_) hcov hi (C.2.2.2.2.1 _ hlk) (va_Nw.use rfl (hT.2.1 k9 hk9.1 hk9.2)) hce hcv hcl (kk ok C H locs ls hH hl)
  unfold tableOf at hz
  obtain ⟨y, hy, rfl⟩ := List.mem_map.mp hz
  obtain ⟨j, ⟨h1, h2, h3, h4⟩, h5⟩ := hpre y hy
  exact Or.inr ⟨h4, sj_ex j, C.2.2.2.2.1 _ h5, hT.2.2 k9 j hk9.1 hk9.2 h1 h2 (Ne.symm h3)⟩
theorem lj_ret {σ1 : sj_S} {f1 : Nat → Int64} {g1 : Nat → UInt64} {r : Int32} (hd : decode (sj_cc M) pc = .ok (.ireturn, 1)) (hr : sj_rt M = some .int) (hc : cells ≤ 1) (hs : slots ≤ 6) : tj_J G (lA G q) M p e s m args below meth c lrm (lj_Z G q r σ1 f1 g1 below args s) cells slots (lE q f1 g1) pc L σ1 [.int r] := by
  intro ok C H locs ls hH hl
  refine W.widen hc hs ?_
  refine vx_ret ?_
  refine W.iret C.1 C.2.1 (C.2.2.2.2.2.2.1.trans hr) (fun t ht hW => ?_) hH.2.1.2.2 hd C.2.2.2.2.2.1
  exact ⟨⟨r, (), rfl, rfl, by show va_P (sj_D G) vwCl (sj_wd G σ1 ++ lE q f1 g1) t.heap; rw [ht]; exact hH.1⟩, hH.2.1.F ht⟩
/-- the law's own arrays may be written from here on -/
theorem lj_open (hAA : ∀ x, A0 x → lA G q x) (k : tj_J G (lA G q) M p e s m args below meth c rm Z cells slots E pc L σ st) : tj_J G A0 M p e s m args below meth c rm Z cells slots E pc L σ st := by
  intro ok C H locs ls hH hl
  exact k ok C H locs ls ⟨hH.1, ⟨hH.2.1.1, fun x h1 h2 => hH.2.1.2.1 x h1 (fun h => h2 (hAA x h)), fun z hz => hAA _ (hH.2.1.2.2 z hz)⟩, hH.2.2⟩ hl
theorem tj_i2l {x : Int32} (hd : decode (sj_cc M) pc = .ok (.i2l, 1)) (k : tj_J G A0 M p e s m args below meth c rm Z cells slots E (pc + 1) L σ (.long x.toInt64 :: rest)) : tj_J G A0 M p e s m args below meth c rm Z cells slots E pc L σ (.int x :: rest) := fun ok C H locs ls hH hl => lv_i2l C.1 C.2.1 hd rfl (k ok C H locs ls hH hl)
theorem tj_lconst {n : Fin 2} {v : Int64} (hd : decode (sj_cc M) pc = .ok (.lconst n, 1)) (hv : Int64.ofNat (n : Nat) = v) (k : tj_J G A0 M p e s m args below meth c rm Z cells slots E (pc + 1) L σ (.long v :: rest)) : tj_J G A0 M p e s m args below meth c rm Z cells slots E pc L σ rest := fun ok C H locs ls hH hl => lv_lconst C.1 C.2.1 hd hv (k ok C H locs ls hH hl)
theorem tj_f2d {x : UInt32} (hd : decode (sj_cc M) pc = .ok (.f2d, 1)) (hne : vf_n64 (FP.f2d x)) (k : tj_J G A0 M p e s m args below meth c rm Z cells slots E (pc + 1) L σ (.double (FP.f2d x) :: rest)) : tj_J G A0 M p e s m args below meth c rm Z cells slots E pc L σ (.float x :: rest) := fun ok C H locs ls hH hl => lv_f2d C.1 C.2.1 hd hne (k ok C H locs ls hH hl)
theorem tj_lcmp {x y : Int64} (hd : decode (sj_cc M) pc = .ok (.lcmp, 1)) (k : tj_J G A0 M p e s m args below meth c rm Z cells slots E (pc + 1) L σ (.int (lg_cmp x y) :: rest)) : tj_J G A0 M p e s m args below meth c rm Z cells slots E pc L σ (.long y :: .long x :: rest) := fun ok C H locs ls hH hl => W.lcmp C.1 C.2.1 hd (k ok C H locs ls hH hl)
theorem lE_0 {f : Nat → Int64} {g : Nat → UInt64} : (sj_wd G σ ++ lE q f g)[sj_NA]? = some (q.1, .inl (q.2.2.1, 1, .inr (.inl f))) := by
  have := tj_wd_r (G := G) (σ := σ) (E := lE q f g) 0
  rw [Nat.add_zero] at this
  rw [this]
  rfl
theorem lE_1 {f : Nat → Int64} {g : Nat → UInt64} : (sj_wd G σ ++ lE q f g)[sj_NA + 1]? = some (q.2.1, .inl (q.2.2.2, 1, .inr (.inr (.inr (.inl g))))) := by
  rw [tj_wd_r]
  rfl
theorem lE_D {f : Nat → Int64} {g : Nat → UInt64} (ok : sj_ok G) (hq : lok G q) (hA : ∀ x, sj_A G x → A0 x) (h1 : A0 q.1) (h2 : A0 q.2.1) : va_D A0 (sj_wd G σ ++ lE q f g) := by
  have hn : (sj_wd G σ).length = sj_NA := by simp [sj_wd]
  have key : ∀ (k : Nat) (x : Nat × va_E), (sj_wd G σ ++ lE q f g)[k]? = some x → (k < sj_NA ∧ (sj_wd G σ)[k]? = some x) ∨ (k = sj_NA ∧ x.1 = q.1) ∨ (k = sj_NA + 1 ∧ x.1 = q.2.1) := by
    intro k x hx
    by_cases hk : k < sj_NA
    · rw [List.getElem?_append_left (by omega)] at hx
      exact Or.inl ⟨hk, hx⟩
    · rw [List.getElem?_append_right (by omega)] at hx
      have hl : k - (sj_wd G σ).length < 2 := (List.getElem?_eq_some_iff.mp hx).1
      rcases (by omega : k = sj_NA ∨ k = sj_NA + 1) with h | h
      · subst h
        rw [hn, Nat.sub_self] at hx
        cases hx
        exact Or.inr (Or.inl ⟨rfl, rfl⟩)
      · subst h
        rw [hn, Nat.add_sub_cancel_left] at hx
        cases hx
        exact Or.inr (Or.inr ⟨rfl, rfl⟩)
  have hD := sj_wd_D ok σ
  refine ⟨fun i j x y hi hj hxy => ?_, fun k x hx => ?_⟩
  · rcases key i x hi with ⟨a1, a2⟩ | ⟨a1, a2⟩ | ⟨a1, a2⟩ <;> rcases key j y hj with ⟨b1, b2⟩ | ⟨b1, b2⟩ | ⟨b1, b2⟩
    · exact hD.1 i j x y a2 b2 hxy
    · exact absurd (by rw [← b2, ← hxy]; exact hD.2 i x a2) hq.1
    · exact absurd (by rw [← b2, ← hxy]; exact hD.2 i x a2) hq.2.1
    · exact absurd (by rw [← a2, hxy]; exact hD.2 j y b2) hq.1
    · omega
    · exact absurd (by rw [← a2, hxy]; exact b2) hq.2.2
    · exact absurd (by rw [← a2, hxy]; exact hD.2 j y b2) hq.2.1
    · exact absurd (show q.2.1 = q.1 by rw [← a2, hxy]; exact b2) (fun h => hq.2.2 h.symm)
    · omega
  · rcases key k x hx with ⟨a1, a2⟩ | ⟨a1, a2⟩ | ⟨a1, a2⟩
    · exact hA _ (hD.2 k x a2)
    · rw [a2]; exact h1
    · rw [a2]; exact h2
theorem lE_set0 {f f' : Nat → Int64} {g : Nat → UInt64} : (sj_wd G σ ++ lE q f g).set sj_NA (q.1, .inl (q.2.2.1, 1, .inr (.inl f'))) = sj_wd G σ ++ lE q f' g := by
  rw [List.set_append, if_neg (by simp [sj_wd])]
  have : sj_NA - (sj_wd G σ).length = 0 := by simp [sj_wd]
  rw [this]
  rfl
theorem lE_set1 {f : Nat → Int64} {g g' : Nat → UInt64} : (sj_wd G σ ++ lE q f g).set (sj_NA + 1) (q.2.1, .inl (q.2.2.2, 1, .inr (.inr (.inr (.inl g'))))) = sj_wd G σ ++ lE q f g' := by
  rw [List.set_append, if_neg (by simp [sj_wd])]
  have : sj_NA + 1 - (sj_wd G σ).length = 1 := by simp [sj_wd]
  rw [this]
  rfl
/-- out[0] = x -/
theorem lj_last {f : Nat → Int64} {g : Nat → UInt64} {x : Int64} (hq : lok G q) (hT : lT G q s) (hN : sj_N0 G ≤ s.heap.size) (hd : decode (sj_cc M) pc = .ok (.lastore, 1)) (k : tj_J G (lA G q) M p e s m args below meth c rm Z cells slots (lE q (vp_updL f 0 x) g) (pc + 1) L σ rest) : tj_J G (lA G q) M p e s m args below meth c rm Z cells slots (lE q f g) pc L σ (.long x :: .int (nI 0) :: .ref q.1 :: rest) := by
  intro ok C H locs ls hH hl
  refine va_last C.1 C.2.1 hT.1 hH.1 (lE_D (A0 := lA G q) ok hq (fun _ h => Or.inl h) (Or.inr (Or.inl rfl)) (Or.inr (Or.inr rfl))) hH.2.1 sj_NA 0 lE_0 rfl (z_in (by decide) (by decide)) hd (fun H1 locs1 hP1 hD1 hS1 => ?_)
  rw [show (nI 0).toNatClampNeg = 0 by decide, lE_set0] at hP1
  exact k ok C H1 locs1 ls ⟨hP1, hS1, Nat.le_trans hN hS1.1⟩ hl
theorem lj_dast {f : Nat → Int64} {g : Nat → UInt64} {x : UInt64} (hq : lok G q) (hT : lT G q s) (hN : sj_N0 G ≤ s.heap.size) (hd : decode (sj_cc M) pc = .ok (.dastore, 1)) (k : tj_J G (lA G q) M p e s m args below meth c rm Z cells slots (lE q f (vf_upd g 0 x)) (pc + 1) L σ rest) : tj_J G (lA G q) M p e s m args below meth c rm Z cells slots (lE q f g) pc L σ (.double x :: .int (nI 0) :: .ref q.2.1 :: rest) := by
  intro ok C H locs ls hH hl
  refine va_dast C.1 C.2.1 hT.1 hH.1 (lE_D (A0 := lA G q) ok hq (fun _ h => Or.inl h) (Or.inr (Or.inl rfl)) (Or.inr (Or.inr rfl))) hH.2.1 (sj_NA + 1) 1 lE_1 rfl (z_in (by decide) (by decide)) hd (fun H1 locs1 hP1 hD1 hS1 => ?_)
  rw [show (nI 0).toNatClampNeg = 0 by decide, lE_set1] at hP1
  exact k ok C H1 locs1 ls ⟨hP1, hS1, Nat.le_trans hN hS1.1⟩ hl
theorem lj_lald {f : Nat → Int64} {g : Nat → UInt64} (hT : lT G q s) (hd : decode (sj_cc M) pc = .ok (.laload, 1)) (k : tj_J G A0 M p e s m args below meth c rm Z cells slots (lE q f g) (pc + 1) L σ (.long (f 0) :: rest)) : tj_J G A0 M p e s m args below meth c rm Z cells slots (lE q f g) pc L σ (.int (nI 0) :: .ref q.1 :: rest) := by
  intro ok C H locs ls hH hl
  refine va_lald C.1 C.2.1 hT.1 hH.1 sj_NA 0 lE_0 rfl (z_in (by decide) (by decide)) hd ?_
  rw [show (nI 0).toNatClampNeg = 0 by decide]
  exact k ok C H locs ls hH hl
theorem lj_dald {f : Nat → Int64} {g : Nat → UInt64} (hT : lT G q s) (hd : decode (sj_cc M) pc = .ok (.daload, 1)) (k : tj_J G A0 M p e s m args below meth c rm Z cells slots (lE q f g) (pc + 1) L σ (.double (g 0) :: rest)) : tj_J G A0 M p e s m args below meth c rm Z cells slots (lE q f g) pc L σ (.int (nI 0) :: .ref q.2.1 :: rest) := by
  intro ok C H locs ls hH hl
  refine va_dald C.1 C.2.1 hT.1 hH.1 (sj_NA + 1) 1 lE_1 rfl (z_in (by decide) (by decide)) hd ?_
  rw [show (nI 0).toNatClampNeg = 0 by decide]
  exact k ok C H locs ls hH hl
end LK
/-- what the law's method answers -/
def lr (cd : Nat → Nat) (Rc : Except Nat Int32) : Int32 := match Rc with
  | .ok _ => nI 0
  | .error k => nI (cd k)
def lf (Rc : Except Nat Int32) (f : Nat → Int64) : Nat → Int64 := match Rc with
  | .ok v => vp_updL f 0 v.toInt64
  | .error _ => f
section LL
variable {G : sj_G} {q : lG} {A0 : Nat → Prop} {M : sj_M} {p : Program} {e : Env} {s : State} {m : MethodId} {args : Array Value} {below : List Frame} {meth : Method} {c : Code} {rm : Room} {Z : State → Prop} {cells slots : Nat} {E : va_W} {pc : Nat} {L st rest : List Value} {σ : sj_S}
theorem tj_Km {H : Heap} {locs : List Loc} (hK0 : ∀ x, x < s.heap.size → ¬ sj_A G x → ¬ A0 x) (C : tj_Cx G M p s m args meth c) (hH : tj_H G A0 s σ E H locs) : ∀ U : State, U.heap = H → s.WarmedH U.vm → sj_K G U U.heap := by
  have hR := C.2.2.2.2.2.2.2.2
  have hS' : va_S (sj_A G) s.heap H [] := ⟨hH.2.1.1, fun q h1 h2 => hH.2.1.2.1 q h1 (hK0 q h1 h2), fun _ h => by cases h⟩
  intro U hU hW
  obtain ⟨h2, h3, h4, h5, h6, h7, h8⟩ := hR
  rw [hU]
  refine ⟨hH.2.2, va_K.moved hW.alike h2, vx_Zq.moved hW.alike (h3.kept hS'.2.1), vx_Zq.moved hW.alike (h4.kept hS'.2.1), fun w hw => ?_, fun w hw => ?_, fun q hq => ?_, vk_S.moved hW.alike (h8.1.kept hS'.2.1), vk_R.warm hW h8.2.1, va_Z.moved hW.alike (h8.2.2.1.kept hS'.2.1), va_Zq.moved hW.alike (h8.2.2.2.kept hS'.2.1)⟩
  · have g := List.all_eq_true.mp sj_clw_good w hw
    simp only [Bool.and_eq_true] at g
    exact sj_Nw_good g.1 g.2 hW (h5 w hw)
  · have g := List.all_eq_true.mp sj_bw_ok w hw
    simp only [Bool.and_eq_true] at g
    exact sj_Nw_face g.2 g.1 hW (h6 w hw)
  · obtain ⟨sa, e⟩ := h7 q hq
    exact ⟨sa, vk_R.warm hW e⟩
/-- a call of a method of the world by any contract over it -/
theorem tj_runG {M' : sj_M} {d' idx b mc ms : Nat} {As : List Value} {ws' : List Cond} {Qc : Array Value → State → Outcome → State → Prop} {XC : String → State → State → Prop} {H : Heap} {locs : List Loc} {ls : Array Slot} (hK0 : ∀ q, q < s.heap.size → ¬ sj_A G q → ¬ A0 q) (C : tj_Cx G M p s m args meth c) (hH : tj_H G A0 s σ E H locs) (hls : ls.size = sj_nL M)
    (hd : decode (sj_cc M) pc = .ok (.invokevirtual idx, 3)) (hg : GoodIn (sj_ws M) (wsV (sj_own M) idx (sj_own M') (sj_y M') (sj_ws M'))) (hw : sj_ws M' = Cond.code (sj_y M') (sj_cc M') (sj_nL M') (sj_rt M') :: ws') (hh : sj_hd M' As.length = true) (hb : b < sj_NA) (hbk : sj_lk b ≤ 12) (hbc : (vwCl[sj_lk b]?).map (fun q => q.1) = some (sj_own M')) (hrs : (rest.map fun v => v.category).sum ≤ 8) (hdd : d' + 1 ≤ rm.frames ∧ 64 * (d' + 1) ≤ rm.locals)
    (hc : vx_Met (sj_l G) (sj_y M') (sj_ws M') { frames := d', cells := mc, slots := ms, locals := 64 * d' } (va_Pc (.ref (sj_ad G b) :: As) (fun U => sj_B G σ U ∧ sj_K G U U.heap)) Qc XC mc ms (sj_A G)) (hmc : cells + mc ≤ rm.cells ∧ slots + ms ≤ rm.slots) : vx_Run p (sj_l G) e rm s m args below meth c H locs cells slots mc ms (F0 m pc ls (As.reverse ++ .ref (sj_ad G b) :: rest)) rest (Qc (Value.ref (sj_ad G b) :: As).toArray) XC (sj_A G) := by
  unfold sj_hd at hh
  simp only [Bool.and_eq_true, decide_eq_true_eq] at hh
  have hP := tj_P_l hH.1
  obtain ⟨q, hq, hq1⟩ : ∃ q, vwCl[sj_lk b]? = some q ∧ q.1 = sj_own M' := by
    cases hv : vwCl[sj_lk b]? with
    | none => rw [hv] at hbc; cases hbc
    | some q => rw [hv] at hbc; exact ⟨q, rfl, Option.some.inj hbc⟩
  have hKm := tj_Km hK0 C hH
  refine vx_runV (rest := rest) ⟨C.1, C.2.1, C.2.2.1, C.2.2.2.1, C.2.2.2.2.1⟩ hc (cwV As.length C.2.2.2.2.1 hg hw rfl rfl ⟨hh.1.1.1.1, hh.1.1.1.2, hh.1.1.2, hh.1.2⟩ ⟨?_, ?_⟩) ⟨sj_blind, ?_, fun U hU hW => ⟨rfl, by unfold sj_B; rw [hU]; exact hP, hKm U hU hW⟩⟩ rfl rfl hls rfl (lv_room hrs) hd hmc
  · exact hdd.1
  · show 8 + (sj_nL M' + 11) + 64 * d' ≤ rm.locals
    have := hh.2
    have := hdd.2
    omega
  · have h9 := va_recv C.2.2.2.2.2.2.2.2.1 hP hq (sj_wd_obj hb hbk)
    rw [hq1] at h9
    exact h9
/-- a call of one of the law's methods that catch -/
theorem lj_callS {M' : sj_M} {idx : Nat} {As : List Value} {hh : List (Nat × Nat × Nat × Nat)} {ws' : List Cond} {f f1 : Nat → Int64} {g g1 : Nat → UInt64} {r : Int32} {σ1 : sj_S} (hK0 : ∀ x, x < s.heap.size → ¬ sj_A G x → ¬ A0 x) (hA : ∀ x, lA G q x → A0 x) (hT : lT G q s) (hd : decode (sj_cc M) pc = .ok (.invokestatic idx, 3)) (hg : GoodIn (sj_ws M) (va_wsS (sj_own M) idx (sj_y M') (sj_ws M'))) (hw : sj_ws M' = Cond.codeWith (sj_y M') (sj_cc M') (sj_nL M') (sj_rt M') hh :: ws') (hh9 : sj_hd M' As.length = true) (hrs : (rest.map fun v => v.category).sum ≤ 8) (hdd : 45 ≤ rm.frames ∧ 64 * 45 ≤ rm.locals) (hcs : cells + 1 ≤ rm.cells ∧ slots + 6 ≤ rm.slots) (hc : lj_C G q M' As σ f g r σ1 f1 g1)
    (k : tj_J G A0 M p e s m args below meth c rm Z (cells + 1) (slots + 6) (lE q f1 g1) (pc + 3) L σ1 (.int r :: rest)) : tj_J G A0 M p e s m args below meth c rm Z cells slots (lE q f g) pc L σ (As.reverse ++ rest) := by
  intro ok C H locs ls hH hl
  unfold sj_hd at hh9
  simp only [Bool.and_eq_true, decide_eq_true_eq] at hh9
  have hKm := tj_Km hK0 C hH
  have hr := vx_runSX (rest := rest) (As := As) (e := e) (below := below) (locs := locs) (meth := meth) ⟨C.1, C.2.1, C.2.2.1, C.2.2.2.1, C.2.2.2.2.1⟩ hc (vx_cwSW As.length C.2.2.2.2.1 hg hw rfl rfl ⟨hh9.1.1.1.2, hh9.1.1.2, hh9.1.2⟩ ⟨hdd.1, by
    show 8 + (sj_nL M' + 11) + 64 * 44 ≤ rm.locals
    have := hh9.2
    have := hdd.2
    omega⟩) ⟨lj_blind, fun U hU hW => ⟨rfl, by rw [hU]; exact hH.1, hKm U hU hW, lT_warm hW hT⟩⟩ (g := F0 m pc ls (As.reverse ++ rest)) rfl rfl hl.1 rfl (lv_room hrs) hd hcs
  refine vx_calli (a := As.toArray) hr hH.2.1 (fun x _ h => hA x h) hA (fun x _ h => h.elim) (fun E ce q9 u t H1 locs1 ht hvm hpx hBX hz hk hS1 hce hcv hcl => hpx.elim) (fun r9 u t H1 locs1 ht hvm hpost hB hz hk hS1 => ?_)
  subst hpost
  exact k ok C H1 locs1 ls ⟨by rw [← ht]; exact hB, hS1, Nat.le_trans hH.2.2 hz⟩ hl
/-- x != 0 as a boolean -/
theorem tj_bool {x : Int32} {o1 o2 : Int} (d0 : decode (sj_cc M) pc = .ok (.ifCond .eq o1, 3)) (d1 : decode (sj_cc M) (pc + 3) = .ok (.iconst 1, 1)) (d2 : decode (sj_cc M) (pc + 4) = .ok (.goto o2, 3)) (d3 : decode (sj_cc M) (pc + 7) = .ok (.iconst 0, 1)) (h1 : (pc : Int) + o1 = ((pc + 7 : Nat) : Int)) (h2 : ((pc + 4 : Nat) : Int) + o2 = ((pc + 8 : Nat) : Int))
    (k : tj_J G A0 M p e s m args below meth c rm Z cells slots E (pc + 8) L σ (.int (if decide (¬ x = 0) then nI 1 else nI 0) :: rest)) : tj_J G A0 M p e s m args below meth c rm Z cells slots E pc L σ (.int x :: rest) := by
  refine tj_if_eq (tgt := pc + 7) d0 h1 (fun hx => ?_) (fun hx => ?_)
  · refine tj_iconst (v := nI 0) d3 (by decide +kernel) ?_
    rw [if_neg (by simp [hx])] at k
    exact k
  · refine tj_iconst (v := nI 1) d1 (by decide +kernel) ?_
    refine tj_goto (tgt := pc + 8) d2 h2 ?_
    rw [if_pos (by simp [hx])] at k
    exact k
/-- script[i + k] -/
theorem tj_scr {b Ls i k : Nat} {n : Int} {xs : Nat → Int32} (hX : va_X b Ls xs s s.heap) (hb : b < s.heap.size) (hbA : ¬ A0 b) (hLs : Ls ≤ 3072) (hL0 : L[0]? = some (.ref b)) (hL5 : L[5]? = some (.int (nI i))) (hik : i + k < Ls) (d0 : decode (sj_cc M) pc = .ok (.aload_n 0, 1)) (d1 : decode (sj_cc M) (pc + 1) = .ok (.iload 5, 2)) (d2 : decode (sj_cc M) (pc + 3) = .ok (.iconst n, 1)) (hn : Int32.ofInt n = nI k) (d3 : decode (sj_cc M) (pc + 4) = .ok (.iadd, 1)) (d4 : decode (sj_cc M) (pc + 5) = .ok (.iaload, 1))
    (kk : tj_J G A0 M p e s m args below meth c rm Z cells slots E (pc + 6) L σ (.int (xs (i + k)) :: rest)) : tj_J G A0 M p e s m args below meth c rm Z cells slots E pc L σ rest := by
  refine tj_aload_n d0 (i := 0) rfl hL0 ?_
  refine tj_iload d1 hL5 ?_
  refine tj_iconst (v := nI k) d2 hn ?_
  refine tj_iadd d3 ?_
  rw [nI_add]
  intro ok C H locs ls hH hl
  refine va_sld C.1 C.2.1 hX hb hbA hH.2.1 (z_in hik (by omega)) d4 ?_
  rw [nI_clamp (by omega)]
  exact kk ok C H locs ls hH hl
theorem tj_sub {L' : List Value} (h : ∀ (i : Nat) (v : Value), L'[i]? = some v → v ≠ .null → L[i]? = some v) (hc : ∀ v ∈ L', v.category = 1) (k : tj_J G A0 M p e s m args below meth c rm Z cells slots E pc L' σ st) : tj_J G A0 M p e s m args below meth c rm Z cells slots E pc L σ st :=
  fun ok C H locs ls hH hl => k ok C H locs ls hH ⟨hl.1, hl.2.1, fun i v hi hv => hl.2.2.1 i v (h i v hi hv) hv, hc⟩
theorem tj_widen {k n : Nat} (h1 : cells ≤ k) (h2 : slots ≤ n) (kk : tj_J G A0 M p e s m args below meth c rm Z k n E pc L σ st) : tj_J G A0 M p e s m args below meth c rm Z cells slots E pc L σ st := fun ok C H locs ls hH hl => W.widen h1 h2 (kk ok C H locs ls hH hl)
end LL
theorem z_err {a b c : Nat} {Rc : Except Nat Int32} {th rm : Int32} (h : zSame (zcd a b c) Rc th rm) : ∀ k, Rc = .error k → 0 < k ∧ (k = a ∨ k = b ∨ k = c) := by
  intro k hk
  subst hk
  obtain ⟨⟨h1, h2⟩, -⟩ := h
  refine ⟨h1, ?_⟩
  unfold zcd at h2
  by_cases ha : k = a
  · exact Or.inl ha
  · rw [if_neg ha] at h2
    by_cases hb : k = b
    · exact Or.inr (Or.inl hb)
    · rw [if_neg hb] at h2
      by_cases hc : k = c
      · exact Or.inr (Or.inr hc)
      · rw [if_neg hc] at h2
        omega
theorem zcd_lt {a b c k : Nat} : zcd a b c k < 4 := by
  unfold zcd
  repeat' split
  all_goals omega
/-- as a boolean's answer is written -/
def lfb (Rc : Except Nat Int32) (f : Nat → Int64) : Nat → Int64 := match Rc with
  | .ok v => vp_updL f 0 (if v = 0 then 0 else 1)
  | .error _ => f
