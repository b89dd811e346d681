/-! CONSTRUCTORS: walks over a list of cells that grows -/
theorem tj_P_l {D : va_G} {ws E : va_W} {H : Heap} (h : va_P D vwCl (ws ++ E) H) : va_P D vwCl ws H := fun k q hk => h k q (by rw [List.getElem?_append_left (List.getElem?_eq_some_iff.mp hk).1]; exact hk)
theorem tj_P_r {D : va_G} {ws E : va_W} {H : Heap} (h : va_P D vwCl (ws ++ E) H) : va_P D vwCl E H := fun k q hk => h (ws.length + k) q (by rw [List.getElem?_append_right (Nat.le_add_right _ _), Nat.add_sub_cancel_left]; exact hk)
theorem tj_P_a {D : va_G} {ws E : va_W} {H : Heap} (h1 : va_P D vwCl ws H) (h2 : va_P D vwCl E H) : va_P D vwCl (ws ++ E) H := fun k q hk => by
  by_cases hl : k < ws.length
  · rw [List.getElem?_append_left hl] at hk
    exact h1 k q hk
  · rw [List.getElem?_append_right (by omega)] at hk
    exact h2 _ q hk
def kj_A (h0 sz : Nat) : Nat → Prop := fun q => q = h0 ∨ sz ≤ q
def kj_nest : List (String × Nat × MethodName) := [(RX11, 18, yX5_init), (RX11, 25, yX7_init), (RX11, 32, yX4_init), (RX11, 39, yX6_init), (RX11, 46, yX1_init), (RX11, 53, yX2_init), (RX11, 60, yX3_init), (RX11, 74, yX10_init), (RX11, 81, yX9_init), (RX4, 11, yX7_init)]
def kj_K (D : va_G) (cs : Nat → ClassId) (U : State) : Prop := va_K D vwCl (sj_tys cs) U ∧ (∀ w ∈ sj_clw, va_Nw w U) ∧ ∀ q ∈ kj_nest, va_Nw (.methodLinkNest q.1 q.2.1 q.2.2 RX11) U
theorem kj_K_warm {D : va_G} {cs : Nat → ClassId} {s U : State} (hW : s.WarmedH U.vm) (h : kj_K D cs s) : kj_K D cs U :=
  ⟨va_K.moved hW.alike h.1, fun w hw => by
    have g := List.all_eq_true.mp sj_clw_good w hw
    simp only [Bool.and_eq_true] at g
    exact sj_Nw_good g.1 g.2 hW (h.2.1 w hw), fun q hq => va_Nw.warmM hW (h.2.2 q hq)⟩
theorem kj_K_calling {D : va_G} {cs : Nat → ClassId} {U : State} {g : JFrame} {mk : MethodId} {a : Array Value} (h : kj_K D cs U) : kj_K D cs (U.calling g mk a) :=
  ⟨va_K.moved (u := U) (U := U.calling g mk a) (Vm.Alike.refl U.vm) h.1, fun w hw => by
    have g := List.all_eq_true.mp sj_clw_good w hw
    simp only [Bool.and_eq_true] at g
    exact va_Nw.same (u := U) g.2 rfl (h.2.1 w hw), fun q hq => va_Nw.same (u := U) rfl rfl (h.2.2 q hq)⟩
/-- places b to b + n of the layout, as cells -/
def kj_sl (ad : Nat → Nat) (cs : Nat → ClassId) (σ : sj_S) (b n : Nat) : va_W := (List.range n).map fun k => (ad (b + k), sj_ent ad cs σ (b + k))
def kj_ad (b : Nat) (l : List Nat) : Nat → Nat := fun p => l.getD (p - b) 0
/-- what a new object's fields hold -/
def kj_df (r : Nat) : List Value := (List.range (sj_ln r)).map fun k => if sj_rf r k = 0 then .int 0 else .null
def kj_rm (d mc ms : Nat) : Room := { frames := d, cells := mc, slots := ms, locals := 64 * d }
def kj_Q (D : va_G) (cs : Nat → ClassId) (h0 sz b n r : Nat) (σ0 : sj_S) : Array Value → State → Outcome → State → Prop := va_Qv (fun ad : Nat → Nat => ad r = h0) (fun ad t => va_P D vwCl (kj_sl ad cs σ0 b n) t.heap ∧ va_D (kj_A h0 sz) (kj_sl ad cs σ0 b n)) (kj_A h0 sz)
/-- a constructor's contract: of the new object h0 it makes the places b to b + n, h0 the place r, the contents those of σ0 -/
def kj_C (l : Launch) (D : va_G) (cs : Nat → ClassId) (M : sj_M) (d mc ms b n r : Nat) (σ0 : sj_S) : Prop :=
  ∀ h0 sz : Nat, Met l (sj_y M) (sj_ws M) (kj_rm d mc ms) (va_Pc [.ref h0] (fun U => U.heap.size = sz ∧ va_P D vwCl [(h0, .inr (sj_lk r, kj_df r))] U.heap ∧ kj_K D cs U)) (kj_Q D cs h0 sz b n r σ0) mc ms (kj_A h0 sz)
theorem kj_blind {D : va_G} {cs : Nat → ClassId} {av : List Value} {sz : Nat} {ws : va_W} : FrameBlind (va_Pc av (fun U => U.heap.size = sz ∧ va_P D vwCl ws U.heap ∧ kj_K D cs U)) := fun a U g mk q => ⟨q.1, q.2.1, q.2.2.1, kj_K_calling q.2.2.2⟩
def kj_Cx (D : va_G) (cs : Nat → ClassId) (A : Nat → Prop) (M : sj_M) (p : Program) (s : State) (m : MethodId) (args : Array Value) (meth : Method) (c : Code) : Prop :=
  p.tables.exec = Jvm.exec ∧ c.code = sj_cc M ∧ c.maxLocals = sj_nL M ∧ s.vm.findClass (sj_own M) = some m.cls ∧ (∀ w ∈ sj_ws M, w.before args s = true) ∧ meth.locks = false ∧ meth.sig.returnType = sj_rt M ∧ kj_K D cs s ∧ ∀ q : Nat, s.heap.size ≤ q → A q
def kj_J (l : Launch) (D : va_G) (cs : Nat → ClassId) (A : Nat → Prop) (M : sj_M) (p : Program) (e : Env) (s : State) (m : MethodId) (args : Array Value) (below : List Frame) (meth : Method) (c : Code) (rm : Room) (Z : State → Prop) (cells slots : Nat) (ws : va_W) (pc : Nat) (L : List Value) (st : List Value) : Prop :=
  kj_Cx D cs A M p s m args meth c → ∀ (H : Heap) (locs : List Loc) (ls : Array Slot), va_P D vwCl ws H → va_D A ws → va_S A s.heap H locs → sj_lh ls (sj_nL M) L → W p l e rm s m args below meth c H locs cells slots Z (F0 m pc ls st)
theorem kj_D1 {A : Nat → Prop} {a : Nat} {e : va_E} (h : A a) : va_D A [(a, e)] := by
  refine ⟨fun i j p q hi hj _ => ?_, fun k q hk => ?_⟩
  · have h1 : i < 1 := (List.getElem?_eq_some_iff.mp hi).1
    have h2 : j < 1 := (List.getElem?_eq_some_iff.mp hj).1
    omega
  · have h1 : k < 1 := (List.getElem?_eq_some_iff.mp hk).1
    rw [show k = 0 by omega] at hk
    cases hk
    exact h
/-- behind a constructor: its new cells in the place of the bare object -/
theorem kj_join {D : va_G} {A : Nat → Prop} {ws sl : va_W} {q : Nat} {e : va_E} {H H1 : Heap} (hP : va_P D vwCl (ws ++ [(q, e)]) H) (hD : va_D A (ws ++ [(q, e)])) (hk : ∀ x : Nat, x < H.size → ¬ kj_A q H.size x → H1[x]? = H[x]?) (hP1 : va_P D vwCl sl H1) (hD1 : va_D (kj_A q H.size) sl) (hA : ∀ x, kj_A q H.size x → A x) : va_P D vwCl (ws ++ sl) H1 ∧ va_D A (ws ++ sl) := by
  have h1 : ∀ (k : Nat) (x : Nat × va_E), ws[k]? = some x → x.1 < H.size ∧ ¬ kj_A q H.size x.1 := by
    intro k x hx
    have hlt : k < ws.length := (List.getElem?_eq_some_iff.mp hx).1
    have hx' : (ws ++ [(q, e)])[k]? = some x := by rw [List.getElem?_append_left hlt]; exact hx
    have hl := (hP k x hx').lt
    refine ⟨hl, fun h => ?_⟩
    rcases h with h | h
    · have hq : (ws ++ [(q, e)])[ws.length]? = some (q, e) := by simp
      have := hD.1 k ws.length x (q, e) hx' hq h
      omega
    · omega
  have hw : va_P D vwCl ws H1 := (tj_P_l hP).kept (fun k x hx => hk x.1 (h1 k x hx).1 (h1 k x hx).2)
  refine ⟨tj_P_a hw hP1, ⟨fun i j x y hi hj hxy => ?_, fun k x hx => ?_⟩⟩
  · by_cases hil : i < ws.length
    · rw [List.getElem?_append_left hil] at hi
      by_cases hjl : j < ws.length
      · rw [List.getElem?_append_left hjl] at hj
        exact hD.1 i j x y (by rw [List.getElem?_append_left hil]; exact hi) (by rw [List.getElem?_append_left hjl]; exact hj) hxy
      · rw [List.getElem?_append_right (by omega)] at hj
        exact absurd (hxy ▸ hD1.2 _ y hj) (h1 i x hi).2
    · rw [List.getElem?_append_right (by omega)] at hi
      by_cases hjl : j < ws.length
      · rw [List.getElem?_append_left hjl] at hj
        exact absurd (hxy.symm ▸ hD1.2 _ x hi) (h1 j y hj).2
      · rw [List.getElem?_append_right (by omega)] at hj
        have := hD1.1 _ _ x y hi hj hxy
        omega
  · by_cases hil : k < ws.length
    · rw [List.getElem?_append_left hil] at hx
      exact hD.2 k x (by rw [List.getElem?_append_left hil]; exact hx)
    · rw [List.getElem?_append_right (by omega)] at hx
      exact hA _ (hD1.2 _ x hx)
section KJ
variable {l : Launch} {D : va_G} {cs : Nat → ClassId} {A : Nat → Prop} {M : sj_M} {p : Program} {e : Env} {s : State} {m : MethodId} {args : Array Value} {below : List Frame} {meth : Method} {c : Code} {rm : Room} {Z : State → Prop} {cells slots : Nat} {ws : va_W} {pc : Nat} {L st rest : List Value}

theorem kj_iadd {x y : Int32} (hd : decode (sj_cc M) pc = .ok (.iadd, 1)) (k : kj_J l D cs A M p e s m args below meth c rm Z cells slots ws (pc + 1) L (.int (x + y) :: rest)) : kj_J l D cs A M p e s m args below meth c rm Z cells slots ws pc L (.int y :: .int x :: rest) :=
  fun C H locs ls hP hD hS hl => lv_iadd C.1 C.2.1 hd  (k C H locs ls hP hD hS hl)
theorem kj_iconst {n : Int} {v : Int32} (hd : decode (sj_cc M) pc = .ok (.iconst n, 1)) (hv : Int32.ofInt n = v) (k : kj_J l D cs A M p e s m args below meth c rm Z cells slots ws (pc + 1) L (.int v :: rest)) : kj_J l D cs A M p e s m args below meth c rm Z cells slots ws pc L (rest) :=
  fun C H locs ls hP hD hS hl => lv_iconst C.1 C.2.1 hd hv (k C H locs ls hP hD hS hl)
theorem kj_bipush {n : Int} {v : Int32} (hd : decode (sj_cc M) pc = .ok (.bipush n, 2)) (hv : (Int8.ofInt n).toInt32 = v) (k : kj_J l D cs A M p e s m args below meth c rm Z cells slots ws (pc + 2) L (.int v :: rest)) : kj_J l D cs A M p e s m args below meth c rm Z cells slots ws pc L (rest) :=
  fun C H locs ls hP hD hS hl => lv_bipush C.1 C.2.1 hd hv (k C H locs ls hP hD hS hl)
theorem kj_sipush {n : Int} {v : Int32} (hd : decode (sj_cc M) pc = .ok (.sipush n, 3)) (hv : (Int16.ofInt n).toInt32 = v) (k : kj_J l D cs A M p e s m args below meth c rm Z cells slots ws (pc + 3) L (.int v :: rest)) : kj_J l D cs A M p e s m args below meth c rm Z cells slots ws pc L (rest) :=
  fun C H locs ls hP hD hS hl => lv_sipush C.1 C.2.1 hd hv (k C H locs ls hP hD hS hl)
theorem kj_dup {va : Value} (hd : decode (sj_cc M) pc = .ok (.dup, 1)) (hc : va.category = 1) (k : kj_J l D cs A M p e s m args below meth c rm Z cells slots ws (pc + 1) L (va :: va :: rest)) : kj_J l D cs A M p e s m args below meth c rm Z cells slots ws pc L (va :: rest) :=
  fun C H locs ls hP hD hS hl => lv_dup C.1 C.2.1 hd hc (k C H locs ls hP hD hS hl)
theorem kj_iload_n {k9 : Fin 4} {i : Nat} {x : Int32} (hd : decode (sj_cc M) pc = .ok (.iload_n k9, 1)) (hi : (k9 : Nat) = i) (hL : L[i]? = some (.int x)) (k : kj_J l D cs A M p e s m args below meth c rm Z cells slots ws (pc + 1) L (.int x :: rest)) : kj_J l D cs A M p e s m args below meth c rm Z cells slots ws pc L rest :=
  fun C H locs ls hP hD hS hl => lv_iload_n C.1 C.2.1 hd hi (hl.2.2.1 i _ hL (fun h => nomatch h)) (k C H locs ls hP hD hS hl)
theorem kj_aload_n {k9 : Fin 4} {i : Nat} {x : Nat} (hd : decode (sj_cc M) pc = .ok (.aload_n k9, 1)) (hi : (k9 : Nat) = i) (hL : L[i]? = some (.ref x)) (k : kj_J l D cs A M p e s m args below meth c rm Z cells slots ws (pc + 1) L (.ref x :: rest)) : kj_J l D cs A M p e s m args below meth c rm Z cells slots ws pc L rest :=
  fun C H locs ls hP hD hS hl => lv_aload_n C.1 C.2.1 hd hi (hl.2.2.1 i _ hL (fun h => nomatch h)) (k C H locs ls hP hD hS hl)
theorem kj_istore_n {k9 : Fin 4} {i : Nat} {x : Int32} (hd : decode (sj_cc M) pc = .ok (.istore_n k9, 1)) (hi : (k9 : Nat) = i) (hn : i < sj_nL M) (k : kj_J l D cs A M p e s m args below meth c rm Z cells slots ws (pc + 1) (L.set i (.int x)) rest) : kj_J l D cs A M p e s m args below meth c rm Z cells slots ws pc L (.int x :: rest) := by
  subst hi
  intro C H locs ls hP hD hS hl
  obtain ⟨ls', e', h'⟩ := sj_lh_set (v := .int x) hl hn rfl
  have hx := C.1
  have hb := C.2.1
  intro T hT X
  obtain ⟨t, a, b⟩ := k C H locs ls' hP hD hS h' T hT X
  refine ⟨t, ?_, b⟩
  jvm_step X.here [X.here.top, ↓top_set X.here.top, hx, hb, hd, e']
  exact a
theorem kj_iinc {i : Nat} {n : Int} {x v : Int32} (hd : decode (sj_cc M) pc = .ok (.iinc i n, 3)) (hn : i < sj_nL M) (hL : L[i]? = some (.int x)) (hv : x + Int32.ofInt n = v) (k : kj_J l D cs A M p e s m args below meth c rm Z cells slots ws (pc + 3) (L.set i (.int v)) rest) : kj_J l D cs A M p e s m args below meth c rm Z cells slots ws pc L rest := by
  subst hv
  intro C H locs ls hP hD hS hl
  obtain ⟨ls', e', h'⟩ := sj_lh_set (v := .int (x + Int32.ofInt n)) hl hn rfl
  have hg := hl.2.2.1 i _ hL (fun h => nomatch h)
  have hx := C.1
  have hb := C.2.1
  intro T hT X
  obtain ⟨t, a, b⟩ := k C H locs ls' hP hD hS h' T hT X
  refine ⟨t, ?_, b⟩
  jvm_step X.here [X.here.top, ↓top_set X.here.top, hx, hb, hd, hg, e']
  exact a
theorem kj_goto {off : Int} {tgt : Nat} (hd : decode (sj_cc M) pc = .ok (.goto off, 3)) (ht : (pc : Int) + off = (tgt : Int)) (k : kj_J l D cs A M p e s m args below meth c rm Z cells slots ws tgt L rest) : kj_J l D cs A M p e s m args below meth c rm Z cells slots ws pc L rest :=
  fun C H locs ls hP hD hS hl => lv_goto C.1 C.2.1 hd ht (k C H locs ls hP hD hS hl)
theorem kj_icmp_ge {x y : Int32} {off : Int} {tgt : Nat} (hd : decode (sj_cc M) pc = .ok (.if_icmp .ge off, 3)) (ht : (pc : Int) + off = (tgt : Int)) (kt : y ≤ x → kj_J l D cs A M p e s m args below meth c rm Z cells slots ws tgt L rest) (kf : ¬ (y ≤ x) → kj_J l D cs A M p e s m args below meth c rm Z cells slots ws (pc + 3) L rest) : kj_J l D cs A M p e s m args below meth c rm Z cells slots ws pc L (.int y :: .int x :: rest) :=
  fun C H locs ls hP hD hS hl => lv_icmp_ge C.1 C.2.1 hd ht (fun h => kt h C H locs ls hP hD hS hl) (fun h => kf h C H locs ls hP hD hS hl)
theorem kj_ldc {idx : Nat} {v : Int32} (hd : decode (sj_cc M) pc = .ok (.ldc idx, 2)) (hw : Cond.constant (sj_own M) idx v ∈ sj_ws M) (k : kj_J l D cs A M p e s m args below meth c rm Z cells slots ws (pc + 2) L (.int v :: rest)) : kj_J l D cs A M p e s m args below meth c rm Z cells slots ws pc L rest :=
  fun C H locs ls hP hD hS hl => lv_ldc C.1 C.2.1 C.2.2.2.1 (C.2.2.2.2.1 _ hw) hd (k C H locs ls hP hD hS hl)
theorem kj_objInit {idx a : Nat} (hd : decode (sj_cc M) pc = .ok (.invokespecial idx, 3)) (hlink : Cond.methodLink (sj_own M) idx objectInit ∈ sj_ws M) (hinst : Cond.instanceMethod objectInit ∈ sj_ws M) (hcode : Cond.code objectInit ⟨#[0xb1]⟩ 1 none ∈ sj_ws M) (hr : 1 ≤ rm.frames ∧ 12 ≤ rm.locals) (k : kj_J l D cs A M p e s m args below meth c rm Z cells slots ws (pc + 3) L []) : kj_J l D cs A M p e s m args below meth c rm Z cells slots ws pc L [.ref a] := by
  intro C H locs ls hP hD hS hl
  refine W.objInit (rest := []) C.1 C.2.1 C.2.2.2.1 (C.2.2.2.2.1 _ hlink) (C.2.2.2.2.1 _ hinst) (C.2.2.2.2.1 _ hcode) rfl (by rw [C.2.2.1]; exact hl.1) rfl hd hr.1 hr.2 ?_
  refine W.eq (g2 := F0 m (pc + 3) ls []) rfl ?_
  exact k C H locs ls hP hD hS hl
theorem kj_newa {atype : ArrayType} {t0 kk N : Nat} {n : Int32} (hd : decode (sj_cc M) pc = .ok (.newarray atype, 2)) (harr : Cond.arrayClass (newarray.typeOf atype) ∈ sj_ws M) (ht : (sj_tys cs)[t0]? = some (cs kk, newarray.typeOf atype)) (hdv : defaultValue (newarray.typeOf atype) = .int 0) (hn : ¬ n < 0) (hN : n.toNatClampNeg = N) (hbytes : N * componentBytes (newarray.typeOf atype) ≤ 536870912) (hc : cells + 1 ≤ rm.cells) (hs : slots + N ≤ rm.slots)
    (k : ∀ q : Nat, kj_J l D cs A M p e s m args below meth c rm Z (cells + 1) (slots + N) (ws ++ [(q, .inl (cs kk, N, .inl (fun _ => 0)))]) (pc + 2) L (.ref q :: rest)) : kj_J l D cs A M p e s m args below meth c rm Z cells slots ws pc L (.int n :: rest) := by
  intro C H locs ls hP hD hS hl
  refine va_newaK C.1 C.2.1 (C.2.2.2.2.1 _ harr) rfl hd rfl hn hN hbytes hc hs rfl (fun H1 cA e1 z1 o1 hAr hNm => ?_)
  have hcA : cA = cs kk := by
    have h := (C.2.2.2.2.2.2.2.1.1.2 t0 _ ht).2
    have h' : s.vm.findClass ("[" ++ (newarray.typeOf atype).toString) = some (cs kk) := by cases atype <;> exact h
    exact Option.some.inj (hNm.symm.trans h')
  subst hcA
  have hk : ∀ (k : Nat) (x : Nat × va_E), ws[k]? = some x → H1[x.1]? = H[x.1]? := fun k x hx => o1 x.1 ((hP k x hx).lt)
  refine k H.size C H1 locs ls ((hP.kept hk).app (fun k x hx => ?_)) (hD.push hP rfl (C.2.2.2.2.2.2.2.2 _ hS.1)) ⟨Nat.le_trans hS.1 (by omega), fun x h1 h2 => (o1 x (Nat.lt_of_lt_of_le h1 hS.1)).trans (hS.2.1 x h1 h2), hS.2.2⟩ hl
  have hz : k < 1 := (List.getElem?_eq_some_iff.mp hx).1
  rw [show k = 0 by omega] at hx
  cases hx
  show H1[H.size]? = some (vp_cell _ _)
  rw [vp_cell_i, e1, hdv]
theorem kj_new {ci idx N : Nat} {Cn : String} {T : u_T} {fs : List Value} (hd : decode (sj_cc M) pc = .ok (.new idx, 3)) (hq : vwCl[ci]? = some (Cn, T, N)) (hcl : Cond.classLink (sj_own M) idx Cn ∈ sj_ws M) (hinst : Cond.instantiable Cn N ∈ sj_ws M) (hini : Cond.initialized Cn ∈ sj_ws M) (hfs : ∀ j, j < N → defaultValue (sj_ty ci j) = vp_V fs j) (hc : cells + 1 ≤ rm.cells) (hs : slots + N ≤ rm.slots)
    (k : ∀ q : Nat, kj_J l D cs A M p e s m args below meth c rm Z (cells + 1) (slots + N) (ws ++ [(q, .inr (ci, fs))]) (pc + 3) L (.ref q :: rest)) : kj_J l D cs A M p e s m args below meth c rm Z cells slots ws pc L rest := by
  intro C H locs ls hP hD hS hl
  have hcw : ∀ w ∈ sj_clw, w.before args s = true := fun w hw => by
    have g := List.all_eq_true.mp sj_clw_good w hw
    simp only [Bool.and_eq_true] at g
    exact va_Nw.use g.2 (C.2.2.2.2.2.2.2.1.2.1 w hw)
  exact va_new (ci := ci) (fs := fs) (C := Cn) (T := T) (N := N) C.1 C.2.1 hcw (sj_cls_in hq) (sj_ty ci) (sj_cls_ty hq) C.2.2.2.1 (C.2.2.2.2.1 _ hcl) (C.2.2.2.2.1 _ hinst) (C.2.2.2.2.1 _ hini) C.2.2.2.2.2.2.2.1.1 hP hD hS C.2.2.2.2.2.2.2.2 hq hfs hc hs hd (fun q H1 hP1 hD1 hS1 => k q C H1 locs ls hP1 hD1 hS1 hl)
theorem kj_putF {ci k9 idx N h0 : Nat} {Cn : String} {T : u_T} {fs fs' : List Value} {v : Value} {ty : FieldType} {S : va_W} (hin2 : meth.name = "<init>") (hd : decode (sj_cc M) pc = .ok (.putfield idx, 3)) (hq : vwCl[ci]? = some (Cn, T, N)) (hk : k9 < N) (hlink : Cond.fieldLink (sj_own M) idx (T k9).1 (T k9).2.1 (T k9).2.2.1 ∈ sj_ws M) (hfin : (T k9).2.2.2 = true) (hdecl : (T k9).1 = sj_own M) (hpd : parseFieldDescriptor (T k9).2.2.1 = some ty) (hn : narrow ty v = v) (hfit : fits ty v = true) (hlen : k9 < fs.length) (hfs : fs.set k9 v = fs')
    (k : kj_J l D cs A M p e s m args below meth c rm Z cells slots ((h0, .inr (ci, fs')) :: S) (pc + 3) L rest) : kj_J l D cs A M p e s m args below meth c rm Z cells slots ((h0, .inr (ci, fs)) :: S) pc L (v :: .ref h0 :: rest) := by
  subst hfs
  intro C H locs ls hP hD hS hl
  have hcw : ∀ w ∈ sj_clw, w.before args s = true := fun w hw => by
    have g := List.all_eq_true.mp sj_clw_good w hw
    simp only [Bool.and_eq_true] at g
    exact va_Nw.use g.2 (C.2.2.2.2.2.2.2.1.2.1 w hw)
  exact va_putF C.1 C.2.1 (own := sj_own M) (ref := (T k9).1) (C := Cn) (T := T) (N := N) hcw (sj_cls_in hq) (sj_ty ci) (sj_cls_ty hq) (sj_cls_nm hq) C.2.2.2.1 C.2.2.2.2.2.2.2.1.1 hP hD hS 0 (by rfl) hq k9 hk (C.2.2.2.2.1 _ hlink) (fun x hx => hx) hfin hin2 hdecl hpd hn hfit hlen hd (fun H1 locs1 hP1 hD1 hS1 => k C H1 locs1 ls hP1 hD1 hS1 hl)
theorem kj_put {ci k9 idx N h0 : Nat} {Cn : String} {T : u_T} {fs fs' : List Value} {v : Value} {ty : FieldType} {S : va_W} (hd : decode (sj_cc M) pc = .ok (.putfield idx, 3)) (hq : vwCl[ci]? = some (Cn, T, N)) (hk : k9 < N) (hlink : Cond.fieldLink (sj_own M) idx (T k9).1 (T k9).2.1 (T k9).2.2.1 ∈ sj_ws M) (hfin : (T k9).2.2.2 = false) (hpd : parseFieldDescriptor (T k9).2.2.1 = some ty) (hn : narrow ty v = v) (hfit : fits ty v = true) (hlen : k9 < fs.length) (hfs : fs.set k9 v = fs')
    (k : kj_J l D cs A M p e s m args below meth c rm Z cells slots ((h0, .inr (ci, fs')) :: S) (pc + 3) L rest) : kj_J l D cs A M p e s m args below meth c rm Z cells slots ((h0, .inr (ci, fs)) :: S) pc L (v :: .ref h0 :: rest) := by
  subst hfs
  intro C H locs ls hP hD hS hl
  have hcw : ∀ w ∈ sj_clw, w.before args s = true := fun w hw => by
    have g := List.all_eq_true.mp sj_clw_good w hw
    simp only [Bool.and_eq_true] at g
    exact va_Nw.use g.2 (C.2.2.2.2.2.2.2.1.2.1 w hw)
  exact va_put C.1 C.2.1 (own := sj_own M) (ref := (T k9).1) (C := Cn) (T := T) (N := N) hcw (sj_cls_in hq) (sj_ty ci) (sj_cls_ty hq) (sj_cls_nm hq) C.2.2.2.1 C.2.2.2.2.2.2.2.1.1 hP hD hS 0 (by rfl) hq k9 hk (C.2.2.2.2.1 _ hlink) (fun x hx => hx) hfin hpd hn hfit hlen hd (fun H1 locs1 hP1 hD1 hS1 => k C H1 locs1 ls hP1 hD1 hS1 hl)
theorem kj_get {ci k9 idx N h0 : Nat} {Cn : String} {T : u_T} {fs : List Value} {v : Value} {S : va_W} (hd : decode (sj_cc M) pc = .ok (.getfield idx, 3)) (hq : vwCl[ci]? = some (Cn, T, N)) (hk : k9 < N) (hlink : Cond.fieldLink (sj_own M) idx (T k9).1 (T k9).2.1 (T k9).2.2.1 ∈ sj_ws M) (hv : fs[k9]? = some v)
    (k : kj_J l D cs A M p e s m args below meth c rm Z cells slots ((h0, .inr (ci, fs)) :: S) (pc + 3) L (v :: rest)) : kj_J l D cs A M p e s m args below meth c rm Z cells slots ((h0, .inr (ci, fs)) :: S) pc L (.ref h0 :: rest) := by
  intro C H locs ls hP hD hS hl
  have hcw : ∀ w ∈ sj_clw, w.before args s = true := fun w hw => by
    have g := List.all_eq_true.mp sj_clw_good w hw
    simp only [Bool.and_eq_true] at g
    exact va_Nw.use g.2 (C.2.2.2.2.2.2.2.1.2.1 w hw)
  exact va_get C.1 C.2.1 (own := sj_own M) (ref := (T k9).1) (C := Cn) (T := T) (N := N) hcw (sj_cls_in hq) C.2.2.2.1 C.2.2.2.2.2.2.2.1.1 hP 0 (by rfl) hq k9 hk (C.2.2.2.2.1 _ hlink) (fun x hx => hx) (v := v) hv hd (k C H locs ls hP hD hS hl)
theorem kj_iast {q0 a n j : Nat} {i x : Int32} {f : Nat → Int32} {ws' : va_W} (hd : decode (sj_cc M) pc = .ok (.iastore, 1)) (ha : ws[q0]? = some (a, .inl (cs 13, n, .inl f))) (hin : vp_in i n) (hj : i.toNatClampNeg = j) (hws : ws.set q0 (a, .inl (cs 13, n, .inl (upd f j x))) = ws')
    (k : kj_J l D cs A M p e s m args below meth c rm Z cells slots ws' (pc + 1) L rest) : kj_J l D cs A M p e s m args below meth c rm Z cells slots ws pc L (.int x :: .int i :: .ref a :: rest) := by
  subst hws
  subst hj
  exact fun C H locs ls hP hD hS hl => va_iast C.1 C.2.1 C.2.2.2.2.2.2.2.1.1 hP hD hS q0 0 ha rfl hin hd (fun H1 locs1 hP1 hD1 hS1 => k C H1 locs1 ls hP1 hD1 hS1 hl)
/-- a constructor of a class that is linked plainly -/
theorem kj_initI {M' : sj_M} {d' mc ms b n r q idx : Nat} {σ0 : sj_S} {ws' : List Cond} (hd : decode (sj_cc M) pc = .ok (.invokespecial idx, 3)) (hG : GoodIn (sj_ws M) (sj_ws M')) (hw : sj_ws M' = Cond.code (sj_y M') (sj_cc M') (sj_nL M') none :: ws') (hlk : Cond.methodLink (sj_own M) idx (sj_y M') ∈ sj_ws M) (hini : Cond.initialized (sj_y M').cls ∈ sj_ws M) (hin : Cond.instanceMethod (sj_y M') ∈ sj_ws M) (hy1 : (sj_y M').name = "<init>") (hdd : (sj_y M').cls ≠ "java/lang/invoke/MethodHandle" ∧ (sj_y M').cls ≠ "java/lang/invoke/VarHandle" ∧ (parseMethodDescriptor (sj_y M').desc).map (fun d => d.parameters.length) = some 0) (hR : d' + 1 ≤ rm.frames ∧ 8 + (sj_nL M' + 11) + 64 * d' ≤ rm.locals) (hcs : cells + mc ≤ rm.cells ∧ slots + ms ≤ rm.slots) (hrs : (rest.map fun v => v.category).sum ≤ 8) (hc : kj_C l D cs M' d' mc ms b n r σ0)
    (k : ∀ ad : Nat → Nat, ad r = q → kj_J l D cs A M p e s m args below meth c rm Z (cells + mc) (slots + ms) (ws ++ kj_sl ad cs σ0 b n) (pc + 3) L rest) : kj_J l D cs A M p e s m args below meth c rm Z cells slots (ws ++ [(q, .inr (sj_lk r, kj_df r))]) pc L (.ref q :: rest) := by
  intro C H locs ls hP hD hS hl
  have hA : ∀ x : Nat, kj_A q H.size x → A x := by
    intro x h
    rcases h with h | h
    · subst h
      exact hD.2 ws.length (x, .inr (sj_lk r, kj_df r)) (by simp)
    · exact C.2.2.2.2.2.2.2.2 x (Nat.le_trans hS.1 h)
  have hP1 := tj_P_r hP
  refine va_callv (a := #[Value.ref q]) (va_runI (As := []) (rest := rest) (b := q) ⟨C.1, C.2.1, C.2.2.1, C.2.2.2.1, C.2.2.2.2.1⟩ (hc q H.size) (cwI 0 C.2.2.2.2.1 hG hw rfl rfl (C.2.2.2.2.1 _ hini) (C.2.2.2.2.1 _ hlk) (C.2.2.2.2.1 _ hin) hy1 hdd hR) ⟨kj_blind, fun U hU hW => ⟨rfl, by rw [hU], by rw [hU]; exact hP1, kj_K_warm hW C.2.2.2.2.2.2.2.1⟩⟩ rfl rfl hl.1 rfl (lv_room hrs) hd hcs) hS (fun x _ h => hA x h) hA (fun ad t H1 locs1 ht hvm hw1 hB hz1 hk1 hS1 => ?_)
  obtain ⟨hP2, hD2⟩ := hB
  rw [ht] at hP2
  obtain ⟨hP3, hD3⟩ := kj_join hP hD hk1 hP2 hD2 hA
  exact k ad hw1 C H1 locs1 ls hP3 hD3 hS1 hl
/-- a private constructor of a nest mate -/
theorem kj_initN {M' : sj_M} {d' mc ms b n r q idx : Nat} {σ0 : sj_S} {ws' : List Cond} (hd : decode (sj_cc M) pc = .ok (.invokespecial idx, 3)) (hG : GoodIn (sj_ws M) (sj_ws M')) (hw : sj_ws M' = Cond.code (sj_y M') (sj_cc M') (sj_nL M') none :: ws') (hlk : (sj_own M, idx, sj_y M') ∈ kj_nest) (hini : Cond.initialized (sj_y M').cls ∈ sj_ws M) (hin : Cond.instanceMethod (sj_y M') ∈ sj_ws M) (hy1 : (sj_y M').name = "<init>") (hdd : (sj_y M').cls ≠ "java/lang/invoke/MethodHandle" ∧ (sj_y M').cls ≠ "java/lang/invoke/VarHandle" ∧ (parseMethodDescriptor (sj_y M').desc).map (fun d => d.parameters.length) = some 0) (hR : d' + 1 ≤ rm.frames ∧ 8 + (sj_nL M' + 11) + 64 * d' ≤ rm.locals) (hcs : cells + mc ≤ rm.cells ∧ slots + ms ≤ rm.slots) (hrs : (rest.map fun v => v.category).sum ≤ 8) (hc : kj_C l D cs M' d' mc ms b n r σ0)
    (k : ∀ ad : Nat → Nat, ad r = q → kj_J l D cs A M p e s m args below meth c rm Z (cells + mc) (slots + ms) (ws ++ kj_sl ad cs σ0 b n) (pc + 3) L rest) : kj_J l D cs A M p e s m args below meth c rm Z cells slots (ws ++ [(q, .inr (sj_lk r, kj_df r))]) pc L (.ref q :: rest) := by
  intro C H locs ls hP hD hS hl
  have hA : ∀ x : Nat, kj_A q H.size x → A x := by
    intro x h
    rcases h with h | h
    · subst h
      exact hD.2 ws.length (x, .inr (sj_lk r, kj_df r)) (by simp)
    · exact C.2.2.2.2.2.2.2.2 x (Nat.le_trans hS.1 h)
  have hP1 := tj_P_r hP
  refine va_callv (a := #[Value.ref q]) (va_runIN (As := []) (rest := rest) (b := q) ⟨C.1, C.2.1, C.2.2.1, C.2.2.2.1, C.2.2.2.2.1⟩ (hc q H.size) ⟨va_cnB 0 C.2.2.2.2.1 hG hw rfl rfl (C.2.2.2.2.2.2.2.1.2.2 _ hlk) (C.2.2.2.2.1 _ hini) hdd hR, hy1, C.2.2.2.2.1 _ hin⟩ ⟨kj_blind, fun U hU hW => ⟨rfl, by rw [hU], by rw [hU]; exact hP1, kj_K_warm hW C.2.2.2.2.2.2.2.1⟩⟩ rfl rfl hl.1 rfl (lv_room hrs) hd hcs) hS (fun x _ h => hA x h) hA (fun ad t H1 locs1 ht hvm hw1 hB hz1 hk1 hS1 => ?_)
  obtain ⟨hP2, hD2⟩ := hB
  rw [ht] at hP2
  obtain ⟨hP3, hD3⟩ := kj_join hP hD hk1 hP2 hD2 hA
  exact k ad hw1 C H1 locs1 ls hP3 hD3 hS1 hl
theorem kj_ret {mc ms h0 b n r : Nat} {σ0 : sj_S} {ad : Nat → Nat} (hd : decode (sj_cc M) pc = .ok (.return_, 1)) (hr : sj_rt M = none) (hA : kj_A h0 s.heap.size = A) (had : ad r = h0) (hcP : ∀ H, va_P D vwCl ws H → va_P D vwCl (kj_sl ad cs σ0 b n) H) (hcD : va_D A ws → va_D A (kj_sl ad cs σ0 b n)) (hc : cells ≤ mc) (hs : slots ≤ ms) : kj_J l D cs A M p e s m args below meth c rm (MQ below (kj_Q D cs h0 s.heap.size b n r σ0) args s mc ms A) cells slots ws pc L [] := by
  intro C H locs ls hP hD hS hl
  subst hA
  refine W.widen hc hs ?_
  refine W.vret C.1 C.2.1 (C.2.2.2.2.2.2.1.trans hr) (fun t ht hW => ?_) hS.2.2 hd C.2.2.2.2.2.1
  exact ⟨⟨ad, rfl, had, by rw [ht]; exact hcP _ hP, hcD hD⟩, hS.F ht⟩
theorem kj_enter {d mc ms b n r : Nat} {σ0 : sj_S} {ws' : List Cond} (hy : plainName (sj_y M).cls = true) (hyo : (sj_y M).cls = sj_own M) (hyn : (sj_y M).name = "<init>") (hw : sj_ws M = Cond.code (sj_y M) (sj_cc M) (sj_nL M) none :: ws') (hrt : sj_rt M = none) (hn : 1 ≤ sj_nL M)
    (k : ∀ (h0 : Nat) (p : Program) (e : Env) (s : State) (m : MethodId) (args : Array Value) (below : List Frame) (meth : Method) (c : Code), meth.name = "<init>" → kj_J l D cs (kj_A h0 s.heap.size) M p e s m args below meth c (kj_rm d mc ms) (MQ below (kj_Q D cs h0 s.heap.size b n r σ0) args s mc ms (kj_A h0 s.heap.size)) 0 0 [(h0, .inr (sj_lk r, kj_df r))] 0 ([Value.ref h0] ++ List.replicate (sj_nL M - 1) .null) []) : kj_C l D cs M d mc ms b n r σ0 := by
  intro h0 sz
  refine Met.ofW (cc := sj_cc M) (maxL := sj_nL M) (ret := none) hy hw ?_
  intro p e s m args below meth c s₁ B hml hv
  obtain ⟨rfl, hsz, hP, hK⟩ := hv
  subst hsz
  have hts := atoms_spec (ws := sj_ws M) B.pre
  have hown : s.vm.findClass (sj_own M) = some m.cls := hyo ▸ findClass_of_methodNamed B.named
  have hin : meth.name = "<init>" := (name_of_methodNamed B.named B.method).1.trans hyn
  have hl := sj_lh_entry [.ref h0] (sj_nL M) hn (by simp [Value.category])
  rw [lg_entry_eq]
  exact k h0 p e s m _ below meth c hin ⟨B.exec, B.bytes, hml, hown, hts, B.notSynchronized, B.returns.trans hrt.symm, hK, fun q hq => Or.inr hq⟩ s.heap [] _ hP (kj_D1 (Or.inl rfl)) va_S.rf hl
end KJ
def kj_fill (a : Nat) (v : Int32) (i : Nat) (f : Nat → Int32) : Nat → Int32 := fun j => if a ≤ j ∧ j < a + i then v else f j
theorem kj_fill0 {a : Nat} {v : Int32} {f : Nat → Int32} : kj_fill a v 0 f = f := by
  funext j
  unfold kj_fill
  rw [if_neg (by omega)]
theorem kj_fillS {a i j : Nat} {v : Int32} {f : Nat → Int32} (h : j = a + i) : upd (kj_fill a v i f) j v = kj_fill a v (i + 1) f := by
  subst h
  funext j
  unfold kj_fill upd
  by_cases h : j = a + i
  · rw [if_pos h, if_pos (by omega)]
  · rw [if_neg h]
    show (if a ≤ j ∧ j < a + i then v else f j) = _
    by_cases h2 : a ≤ j ∧ j < a + i
    · rw [if_pos h2, if_pos (by omega)]
    · rw [if_neg h2, if_neg (by omega)]
/-- the cells' contents when both constructors are through -/
def kj_z : Nat → Int32 := fun _ => 0
def zInit : sj_S := fun a =>
  if a = 2 then kj_fill 102 (nI 3) 3 (kj_fill 96 (nI 63) 6 (fun _ => 0)) else
  if a = 30 then (fun k => if k = 3 then -1 else 0) else
  if a = 47 then kj_fill 0 (nI 480) 5 (fun _ => 0) else
  if a = 48 then kj_fill 0 (nI 45) 5 (fun _ => 0) else
  if a = 49 then kj_fill 0 (nI 10) 5 (fun _ => 0) else
  if a = 50 then (fun k => if k = 1 then nI 20703 else 0) else
  if a = 52 then (fun k => if k = 3 then -1 else 0) else
  fun _ => 0
