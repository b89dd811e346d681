/-! METHODS THAT ANSWER A double OR A float -/
abbrev dj_Rt : Type := Except Nat UInt64 × sj_S
def dj_mc (R : dj_Rt) : Nat := match R.1 with
  | .ok _ => 0
  | .error _ => 1
def dj_ms (R : dj_Rt) : Nat := match R.1 with
  | .ok _ => 0
  | .error _ => 6
def dj_rm (d : Nat) (R : dj_Rt) : Room := { frames := d, cells := dj_mc R, slots := dj_ms R, locals := 64 * d }
def dj_Q (G : sj_G) (R : dj_Rt) : Array Value → State → Outcome → State → Prop := va_Qd (fun r (_ : Unit) => R.1 = .ok r) (fun _ t => sj_B G R.2 t) (sj_A G)
def dj_X (G : sj_G) (R : dj_Rt) : String → State → State → Prop := vx_X (fun _ : Unit => True) (fun E _ t => ∃ k, R.1 = .error k ∧ E = sj_ex k ∧ sj_B G R.2 t) (sj_A G)
/-- the contract of a method that answers a double -/
def dj_C (G : sj_G) (d : Nat) (M : sj_M) (av : List Value) (σ : sj_S) (R : dj_Rt) : Prop :=
  vx_Met (sj_l G) (sj_y M) (sj_ws M) (dj_rm d R) (va_Pc av (fun U => sj_B G σ U ∧ sj_K G U U.heap)) (dj_Q G R) (dj_X G R) (dj_mc R) (dj_ms R) (sj_A G)
/-- its walk -/
def dj_J (G : sj_G) (d : Nat) (M : sj_M) (R : dj_Rt) (p : Program) (e : Env) (s : State) (m : MethodId) (args : Array Value) (below : List Frame) (meth : Method) (c : Code) (pc : Nat) (L : List Value) (σ : sj_S) (st : List Value) : Prop :=
  tj_J G (sj_A G) M p e s m args below meth c (dj_rm d R) (vx_MQ below (dj_Q G R) (dj_X G R) args s (dj_mc R) (dj_ms R) (sj_A G)) 0 0 [] pc L σ st
theorem dj_enter {G : sj_G} (hok : sj_ok G) {d : Nat} {M : sj_M} {ws' : List Cond} {av : List Value} {σ : sj_S} {R : dj_Rt} (hy : plainName (sj_y M).cls = true) (hyo : (sj_y M).cls = sj_own M) (hw : sj_ws M = Cond.code (sj_y M) (sj_cc M) (sj_nL M) (sj_rt M) :: ws')
    (hn : av.length ≤ sj_nL M) (hc : ∀ v ∈ av, v.category = 1) (k : ∀ (p : Program) (e : Env) (s : State) (m : MethodId) (args : Array Value) (below : List Frame) (meth : Method) (c : Code), (∀ x ∈ c.exceptionTable.toList, False) → sj_N0 G ≤ s.heap.size → dj_J G d M R p e s m args below meth c 0 (av ++ List.replicate (sj_nL M - av.length) .null) σ []) : dj_C G d M av σ R := by
  unfold dj_C
  refine vx_ofW (cc := sj_cc M) (maxL := sj_nL M) (ret := sj_rt M) hy hw ?_
  intro p e s m args below meth c s₁ B hml ht hv
  obtain ⟨rfl, hP, hK⟩ := hv
  have hx := B.exec
  have hb := B.bytes
  have hr := B.returns
  have hts := atoms_spec (ws := sj_ws M) B.pre
  have hown : s.vm.findClass (sj_own M) = some m.cls := hyo ▸ findClass_of_methodNamed B.named
  have hlocks := B.notSynchronized
  have hl := sj_lh_entry av (sj_nL M) hn hc
  rw [lg_entry_eq]
  exact k p e s m av.toArray below meth c ht hK.1 hok ⟨hx, hb, hml, hown, hts, hlocks, hr, trivial, (tj_K.mp hK).2⟩ s.heap [] _ ⟨by rw [List.append_nil]; exact hP, va_S.rf, hK.1⟩ hl
section DJW
variable {G : sj_G} {d : Nat} {M : sj_M} {R : dj_Rt} {p : Program} {e : Env} {s : State} {m : MethodId} {args : Array Value} {below : List Frame} {meth : Method} {c : Code} {pc : Nat} {L rest : List Value} {σ : sj_S}
theorem dj_ret {x : UInt64} (hd : decode (sj_cc M) pc = .ok (.dreturn, 1)) (hr : sj_rt M = some .double) : dj_J G d M (.ok x, σ) p e s m args below meth c pc L σ [.double x] := by
  intro ok C H locs ls hH hl
  refine vx_ret ?_
  refine W.dret C.1 C.2.1 (C.2.2.2.2.2.2.1.trans hr) (fun t ht hW => ?_) hH.2.1.2.2 hd C.2.2.2.2.2.1
  exact ⟨⟨x, (), rfl, rfl, by show va_P (sj_D G) vwCl (sj_wd G σ) t.heap; rw [ht]; exact tj_P_l hH.1⟩, hH.2.1.F ht⟩
theorem dj_callVx {M' : sj_M} {d' idx b : Nat} {As : List Value} {ws' : List Cond} {k9 : Nat} {σ1 : sj_S} (ht : ∀ x ∈ c.exceptionTable.toList, False) (hd : decode (sj_cc M) pc = .ok (.invokevirtual idx, 3)) (hg : GoodIn (sj_ws M) (wsV (sj_own M) idx (sj_own M') (sj_y M') (sj_ws M'))) (hw : sj_ws M' = Cond.code (sj_y M') (sj_cc M') (sj_nL M') (sj_rt M') :: ws') (hh : sj_hd M' As.length = true) (hb : b < sj_NA) (hbk : sj_lk b ≤ 12) (hbc : (vwCl[sj_lk b]?).map (fun q => q.1) = some (sj_own M')) (hrs : (rest.map fun v => v.category).sum ≤ 8) (hdd : d' + 1 ≤ d) (hrt : sj_rt M' = none) (hc : sj_C G d' M' (.ref (sj_ad G b) :: As) σ (.error k9, σ1)) : dj_J G d M (.error k9, σ1) p e s m args below meth c pc L σ (As.reverse ++ .ref (sj_ad G b) :: rest) := by
  intro ok C H locs ls hH hl
  have hr := tj_runV (E := []) (fun q _ h => h) ok C hH hl hd hg hw hh hb hbk hbc hrs (rm := dj_rm d (.error k9, σ1)) (cells := 0) (slots := 0) ⟨hdd, by show 64 * (d' + 1) ≤ 64 * d; omega⟩ hc (e := e) (below := below) ⟨Nat.le_refl _, Nat.le_refl _⟩
  rw [hrt] at hr
  refine vx_callv (a := (Value.ref (sj_ad G b) :: As).toArray) hr hH.2.1 (fun q _ h => h) (fun q h => h) (fun q _ h => h) (fun E ce q9 u t H1 locs1 ht1 hvm hpx hBX hz hk hS1 hce hcv hcl => ?_) (fun u t H1 locs1 ht1 hvm hpost hB hz hk hS1 => ?_)
  · refine vx_out (fun x hx => (ht x hx).elim) C.2.2.2.2.2.1 hce hcv hcl (fun t1 ht2 hvm1 => ?_) hS1.2.2 (by rw [Nat.zero_add]; exact Nat.le_refl _) (by rw [Nat.zero_add]; exact Nat.le_refl _)
    obtain ⟨k, e1, e2, e3⟩ := hBX
    cases e1
    exact ⟨(), trivial, ⟨k9, rfl, e2, by unfold sj_B at e3 ⊢; rw [ht2, ← ht1]; exact e3⟩, hS1.F ht2⟩
  · cases hpost
end DJW
abbrev fj_Rt : Type := Except Nat UInt32 × sj_S
def fj_mc (R : fj_Rt) : Nat := match R.1 with
  | .ok _ => 0
  | .error _ => 1
def fj_ms (R : fj_Rt) : Nat := match R.1 with
  | .ok _ => 0
  | .error _ => 6
def fj_rm (d : Nat) (R : fj_Rt) : Room := { frames := d, cells := fj_mc R, slots := fj_ms R, locals := 64 * d }
def fj_Q (G : sj_G) (R : fj_Rt) : Array Value → State → Outcome → State → Prop := va_Qf (fun r (_ : Unit) => R.1 = .ok r) (fun _ t => sj_B G R.2 t) (sj_A G)
def fj_X (G : sj_G) (R : fj_Rt) : String → State → State → Prop := vx_X (fun _ : Unit => True) (fun E _ t => ∃ k, R.1 = .error k ∧ E = sj_ex k ∧ sj_B G R.2 t) (sj_A G)
/-- the contract of a method that answers a float -/
def fj_C (G : sj_G) (d : Nat) (M : sj_M) (av : List Value) (σ : sj_S) (R : fj_Rt) : Prop :=
  vx_Met (sj_l G) (sj_y M) (sj_ws M) (fj_rm d R) (va_Pc av (fun U => sj_B G σ U ∧ sj_K G U U.heap)) (fj_Q G R) (fj_X G R) (fj_mc R) (fj_ms R) (sj_A G)
/-- its walk -/
def fj_J (G : sj_G) (d : Nat) (M : sj_M) (R : fj_Rt) (p : Program) (e : Env) (s : State) (m : MethodId) (args : Array Value) (below : List Frame) (meth : Method) (c : Code) (pc : Nat) (L : List Value) (σ : sj_S) (st : List Value) : Prop :=
  tj_J G (sj_A G) M p e s m args below meth c (fj_rm d R) (vx_MQ below (fj_Q G R) (fj_X G R) args s (fj_mc R) (fj_ms R) (sj_A G)) 0 0 [] pc L σ st
theorem fj_enter {G : sj_G} (hok : sj_ok G) {d : Nat} {M : sj_M} {ws' : List Cond} {av : List Value} {σ : sj_S} {R : fj_Rt} (hy : plainName (sj_y M).cls = true) (hyo : (sj_y M).cls = sj_own M) (hw : sj_ws M = Cond.code (sj_y M) (sj_cc M) (sj_nL M) (sj_rt M) :: ws')
    (hn : av.length ≤ sj_nL M) (hc : ∀ v ∈ av, v.category = 1) (k : ∀ (p : Program) (e : Env) (s : State) (m : MethodId) (args : Array Value) (below : List Frame) (meth : Method) (c : Code), (∀ x ∈ c.exceptionTable.toList, False) → sj_N0 G ≤ s.heap.size → fj_J G d M R p e s m args below meth c 0 (av ++ List.replicate (sj_nL M - av.length) .null) σ []) : fj_C G d M av σ R := by
  unfold fj_C
  refine vx_ofW (cc := sj_cc M) (maxL := sj_nL M) (ret := sj_rt M) hy hw ?_
  intro p e s m args below meth c s₁ B hml ht hv
  obtain ⟨rfl, hP, hK⟩ := hv
  have hx := B.exec
  have hb := B.bytes
  have hr := B.returns
  have hts := atoms_spec (ws := sj_ws M) B.pre
  have hown : s.vm.findClass (sj_own M) = some m.cls := hyo ▸ findClass_of_methodNamed B.named
  have hlocks := B.notSynchronized
  have hl := sj_lh_entry av (sj_nL M) hn hc
  rw [lg_entry_eq]
  exact k p e s m av.toArray below meth c ht hK.1 hok ⟨hx, hb, hml, hown, hts, hlocks, hr, trivial, (tj_K.mp hK).2⟩ s.heap [] _ ⟨by rw [List.append_nil]; exact hP, va_S.rf, hK.1⟩ hl
section FJW
variable {G : sj_G} {d : Nat} {M : sj_M} {R : fj_Rt} {p : Program} {e : Env} {s : State} {m : MethodId} {args : Array Value} {below : List Frame} {meth : Method} {c : Code} {pc : Nat} {L rest : List Value} {σ : sj_S}
theorem fj_ret {x : UInt32} (hd : decode (sj_cc M) pc = .ok (.freturn, 1)) (hr : sj_rt M = some .float) : fj_J G d M (.ok x, σ) p e s m args below meth c pc L σ [.float x] := by
  intro ok C H locs ls hH hl
  refine vx_ret ?_
  refine W.fret C.1 C.2.1 (C.2.2.2.2.2.2.1.trans hr) (fun t ht hW => ?_) hH.2.1.2.2 hd C.2.2.2.2.2.1
  exact ⟨⟨x, (), rfl, rfl, by show va_P (sj_D G) vwCl (sj_wd G σ) t.heap; rw [ht]; exact tj_P_l hH.1⟩, hH.2.1.F ht⟩
theorem fj_callVx {M' : sj_M} {d' idx b : Nat} {As : List Value} {ws' : List Cond} {k9 : Nat} {σ1 : sj_S} (ht : ∀ x ∈ c.exceptionTable.toList, False) (hd : decode (sj_cc M) pc = .ok (.invokevirtual idx, 3)) (hg : GoodIn (sj_ws M) (wsV (sj_own M) idx (sj_own M') (sj_y M') (sj_ws M'))) (hw : sj_ws M' = Cond.code (sj_y M') (sj_cc M') (sj_nL M') (sj_rt M') :: ws') (hh : sj_hd M' As.length = true) (hb : b < sj_NA) (hbk : sj_lk b ≤ 12) (hbc : (vwCl[sj_lk b]?).map (fun q => q.1) = some (sj_own M')) (hrs : (rest.map fun v => v.category).sum ≤ 8) (hdd : d' + 1 ≤ d) (hrt : sj_rt M' = none) (hc : sj_C G d' M' (.ref (sj_ad G b) :: As) σ (.error k9, σ1)) : fj_J G d M (.error k9, σ1) p e s m args below meth c pc L σ (As.reverse ++ .ref (sj_ad G b) :: rest) := by
  intro ok C H locs ls hH hl
  have hr := tj_runV (E := []) (fun q _ h => h) ok C hH hl hd hg hw hh hb hbk hbc hrs (rm := fj_rm d (.error k9, σ1)) (cells := 0) (slots := 0) ⟨hdd, by show 64 * (d' + 1) ≤ 64 * d; omega⟩ hc (e := e) (below := below) ⟨Nat.le_refl _, Nat.le_refl _⟩
  rw [hrt] at hr
  refine vx_callv (a := (Value.ref (sj_ad G b) :: As).toArray) hr hH.2.1 (fun q _ h => h) (fun q h => h) (fun q _ h => h) (fun E ce q9 u t H1 locs1 ht1 hvm hpx hBX hz hk hS1 hce hcv hcl => ?_) (fun u t H1 locs1 ht1 hvm hpost hB hz hk hS1 => ?_)
  · refine vx_out (fun x hx => (ht x hx).elim) C.2.2.2.2.2.1 hce hcv hcl (fun t1 ht2 hvm1 => ?_) hS1.2.2 (by rw [Nat.zero_add]; exact Nat.le_refl _) (by rw [Nat.zero_add]; exact Nat.le_refl _)
    obtain ⟨k, e1, e2, e3⟩ := hBX
    cases e1
    exact ⟨(), trivial, ⟨k9, rfl, e2, by unfold sj_B at e3 ⊢; rw [ht2, ← ht1]; exact e3⟩, hS1.F ht2⟩
  · cases hpost
end FJW
section DJR
variable {G : sj_G} {A0 : Nat → Prop} {M : sj_M} {p : Program} {e : Env} {s : State} {m : MethodId} {args : Array Value} {below : List Frame} {meth : Method} {c : Code} {rm : Room} {Z : State → Prop} {cells slots : Nat} {E : va_W} {pc : Nat} {L st rest : List Value} {σ : sj_S}
theorem tj_i2d {x : Int32} (hd : decode (sj_cc M) pc = .ok (.i2d, 1)) (k : tj_J G A0 M p e s m args below meth c rm Z cells slots E (pc + 1) L σ (.double (FP.i2d x) :: rest)) : tj_J G A0 M p e s m args below meth c rm Z cells slots E pc L σ (.int x :: rest) := fun ok C H locs ls hH hl => lv_i2d C.1 C.2.1 hd (k ok C H locs ls hH hl)
theorem tj_i2f {x : Int32} (hd : decode (sj_cc M) pc = .ok (.i2f, 1)) (k : tj_J G A0 M p e s m args below meth c rm Z cells slots E (pc + 1) L σ (.float (FP.i2f x) :: rest)) : tj_J G A0 M p e s m args below meth c rm Z cells slots E pc L σ (.int x :: rest) := fun ok C H locs ls hH hl => lv_i2f C.1 C.2.1 hd (k ok C H locs ls hH hl)
theorem tj_ddiv {x y : UInt64} (hd : decode (sj_cc M) pc = .ok (.ddiv, 1)) (hne : vf_n64 (FP.ddiv x y)) (k : tj_J G A0 M p e s m args below meth c rm Z cells slots E (pc + 1) L σ (.double (FP.ddiv x y) :: rest)) : tj_J G A0 M p e s m args below meth c rm Z cells slots E pc L σ (.double y :: .double x :: rest) := fun ok C H locs ls hH hl => lv_ddiv C.1 C.2.1 hd hne (k ok C H locs ls hH hl)
theorem tj_fdiv {x y : UInt32} (hd : decode (sj_cc M) pc = .ok (.fdiv, 1)) (hne : vf_n32 (FP.fdiv x y)) (k : tj_J G A0 M p e s m args below meth c rm Z cells slots E (pc + 1) L σ (.float (FP.fdiv x y) :: rest)) : tj_J G A0 M p e s m args below meth c rm Z cells slots E pc L σ (.float y :: .float x :: rest) := fun ok C H locs ls hH hl => lv_fdiv C.1 C.2.1 hd hne (k ok C H locs ls hH hl)
theorem tj_dconst0 (hd : decode (sj_cc M) pc = .ok (.dconst 0, 1)) (k : tj_J G A0 M p e s m args below meth c rm Z cells slots E (pc + 1) L σ (.double FP.dconst0 :: rest)) : tj_J G A0 M p e s m args below meth c rm Z cells slots E pc L σ rest := fun ok C H locs ls hH hl => lv_dconst0 C.1 C.2.1 hd (k ok C H locs ls hH hl)
theorem tj_fconst0 (hd : decode (sj_cc M) pc = .ok (.fconst 0, 1)) (k : tj_J G A0 M p e s m args below meth c rm Z cells slots E (pc + 1) L σ (.float FP.fconst0 :: rest)) : tj_J G A0 M p e s m args below meth c rm Z cells slots E pc L σ rest := fun ok C H locs ls hH hl => lv_fconst0 C.1 C.2.1 hd (k ok C H locs ls hH hl)
theorem tj_ldcwf {idx : Nat} {v : UInt32} (hd : decode (sj_cc M) pc = .ok (.ldc_w idx, 3)) (hw : Cond.constantFloat (sj_own M) idx v ∈ sj_ws M) (k : tj_J G A0 M p e s m args below meth c rm Z cells slots E (pc + 3) L σ (.float v :: rest)) : tj_J G A0 M p e s m args below meth c rm Z cells slots E pc L σ rest := by
  intro ok C H locs ls hH hl T hT X
  obtain ⟨t, a, b⟩ := k ok C H locs ls hH hl T hT X
  refine ⟨t, ?_, b⟩
  have hx := C.1
  have hb := C.2.1
  obtain ⟨k0, cf, hk, hcf, hcp⟩ := Cond.constantFloat_spec C.2.2.2.1 (C.2.2.2.2.1 _ hw)
  obtain ⟨k', hk', he⟩ := X.warmed.alike.2.2 _ _ hk
  jvm_step X.here [hx, hb, hd, ldc_w.wp_float (s := T) (f := F0 m pc ls rest) X.here.top hk' (by rw [he]; exact hcf) hcp]
  exact a
end DJR
