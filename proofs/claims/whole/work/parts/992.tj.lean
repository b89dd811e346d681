/-! WALKS TO ANY END: as sj_J, the end being Z, cells E standing beside the world -/
def tj_R (G : sj_G) (U : State) (H : Heap) : Prop := va_K (sj_D G) vwCl (sj_tys (sj_cs G)) U ∧ vx_Zq Bundle.tN "UNASSIGNED_STACK" Bundle.steD (sj_A G) U H ∧ vx_Zq Bundle.tN "SUPPRESSED_SENTINEL" Bundle.listD (sj_A G) U H ∧
  (∀ w ∈ sj_clw, va_Nw w U) ∧ (∀ w ∈ sj_bw, va_Nw w U) ∧ (∀ q ∈ sj_strs, ∃ sa : Nat, vk_R RX11 q.1 q.2 sa U) ∧ sj_Kt G U H
theorem tj_K {G : sj_G} {U : State} {H : Heap} : sj_K G U H ↔ sj_N0 G ≤ H.size ∧ tj_R G U H := Iff.rfl
def tj_Cx (G : sj_G) (M : sj_M) (p : Program) (s : State) (m : MethodId) (args : Array Value) (meth : Method) (c : Code) : Prop :=
  p.tables.exec = Jvm.exec ∧ c.code = sj_cc M ∧ c.maxLocals = sj_nL M ∧ s.vm.findClass (sj_own M) = some m.cls ∧ (∀ w ∈ sj_ws M, w.before args s = true) ∧ meth.locks = false ∧ meth.sig.returnType = sj_rt M ∧ True ∧ tj_R G s s.heap
def tj_H (G : sj_G) (A0 : Nat → Prop) (s : State) (σ : sj_S) (E : va_W) (H : Heap) (locs : List Loc) : Prop := va_P (sj_D G) vwCl (sj_wd G σ ++ E) H ∧ va_S A0 s.heap H locs ∧ sj_N0 G ≤ H.size
def tj_J (G : sj_G) (A0 : Nat → Prop) (M : sj_M) (p : Program) (e : Env) (s : State) (m : MethodId) (args : Array Value) (below : List Frame) (meth : Method) (c : Code) (rm : Room) (Z : State → Prop) (cells slots : Nat) (E : va_W) (pc : Nat) (L : List Value) (σ : sj_S) (st : List Value) : Prop :=
  sj_ok G → tj_Cx G M p s m args meth c → ∀ (H : Heap) (locs : List Loc) (ls : Array Slot), tj_H G A0 s σ E H locs → sj_lh ls (sj_nL M) L → W p (sj_l G) e rm s m args below meth c H locs cells slots Z (F0 m pc ls st)
theorem tj_wd_l {G : sj_G} {σ : sj_S} {E : va_W} {a : Nat} (h : a < sj_NA) : (sj_wd G σ ++ E)[a]? = (sj_wd G σ)[a]? := List.getElem?_append_left (by simp [sj_wd]; exact h)
theorem tj_wd_r {G : sj_G} {σ : sj_S} {E : va_W} (k : Nat) : (sj_wd G σ ++ E)[sj_NA + k]? = E[k]? := by
  rw [List.getElem?_append_right (by simp [sj_wd])]
  congr 1
  simp [sj_wd]
theorem tj_P_l {D : va_G} {ws E : va_W} {H : Heap} (h : va_P D vwCl (ws ++ E) H) : va_P D vwCl ws H := fun k q hk => h k q (by rw [List.getElem?_append_left (List.getElem?_eq_some_iff.mp hk).1]; exact hk)
theorem tj_P_r {D : va_G} {ws E : va_W} {H : Heap} (h : va_P D vwCl (ws ++ E) H) : va_P D vwCl E H := fun k q hk => h (ws.length + k) q (by rw [List.getElem?_append_right (Nat.le_add_right _ _), Nat.add_sub_cancel_left]; exact hk)
theorem tj_P_a {D : va_G} {ws E : va_W} {H : Heap} (h1 : va_P D vwCl ws H) (h2 : va_P D vwCl E H) : va_P D vwCl (ws ++ E) H := fun k q hk => by
  by_cases hl : k < ws.length
  · rw [List.getElem?_append_left hl] at hk
    exact h1 k q hk
  · rw [List.getElem?_append_right (by omega)] at hk
    exact h2 _ q hk
section TJ
variable {G : sj_G} {A0 : Nat → Prop} {M : sj_M} {p : Program} {e : Env} {s : State} {m : MethodId} {args : Array Value} {below : List Frame} {meth : Method} {c : Code} {rm : Room} {Z : State → Prop} {cells slots : Nat} {E : va_W} {pc : Nat} {L st rest : List Value} {σ : sj_S}

theorem tj_iadd {x y : Int32} (hd : decode (sj_cc M) pc = .ok (.iadd, 1)) (k : tj_J G A0 M p e s m args below meth c rm Z cells slots E (pc + 1) L σ (.int (x + y) :: rest)) : tj_J G A0 M p e s m args below meth c rm Z cells slots E pc L σ (.int y :: .int x :: rest) :=
  fun ok C H locs ls hH hl => lv_iadd C.1 C.2.1 hd  (k ok C H locs ls hH hl)
theorem tj_isub {x y : Int32} (hd : decode (sj_cc M) pc = .ok (.isub, 1)) (k : tj_J G A0 M p e s m args below meth c rm Z cells slots E (pc + 1) L σ (.int (x - y) :: rest)) : tj_J G A0 M p e s m args below meth c rm Z cells slots E pc L σ (.int y :: .int x :: rest) :=
  fun ok C H locs ls hH hl => lv_isub C.1 C.2.1 hd  (k ok C H locs ls hH hl)
theorem tj_imul {x y : Int32} (hd : decode (sj_cc M) pc = .ok (.imul, 1)) (k : tj_J G A0 M p e s m args below meth c rm Z cells slots E (pc + 1) L σ (.int (x * y) :: rest)) : tj_J G A0 M p e s m args below meth c rm Z cells slots E pc L σ (.int y :: .int x :: rest) :=
  fun ok C H locs ls hH hl => lv_imul C.1 C.2.1 hd  (k ok C H locs ls hH hl)
theorem tj_iand {x y : Int32} (hd : decode (sj_cc M) pc = .ok (.iand, 1)) (k : tj_J G A0 M p e s m args below meth c rm Z cells slots E (pc + 1) L σ (.int (x &&& y) :: rest)) : tj_J G A0 M p e s m args below meth c rm Z cells slots E pc L σ (.int y :: .int x :: rest) :=
  fun ok C H locs ls hH hl => lv_iand C.1 C.2.1 hd  (k ok C H locs ls hH hl)
theorem tj_ior {x y : Int32} (hd : decode (sj_cc M) pc = .ok (.ior, 1)) (k : tj_J G A0 M p e s m args below meth c rm Z cells slots E (pc + 1) L σ (.int (x ||| y) :: rest)) : tj_J G A0 M p e s m args below meth c rm Z cells slots E pc L σ (.int y :: .int x :: rest) :=
  fun ok C H locs ls hH hl => lv_ior C.1 C.2.1 hd  (k ok C H locs ls hH hl)
theorem tj_ixor {x y : Int32} (hd : decode (sj_cc M) pc = .ok (.ixor, 1)) (k : tj_J G A0 M p e s m args below meth c rm Z cells slots E (pc + 1) L σ (.int (x ^^^ y) :: rest)) : tj_J G A0 M p e s m args below meth c rm Z cells slots E pc L σ (.int y :: .int x :: rest) :=
  fun ok C H locs ls hH hl => lv_ixor C.1 C.2.1 hd  (k ok C H locs ls hH hl)
theorem tj_ishl {x y : Int32} (hd : decode (sj_cc M) pc = .ok (.ishl, 1)) (k : tj_J G A0 M p e s m args below meth c rm Z cells slots E (pc + 1) L σ (.int (x <<< (y &&& 31)) :: rest)) : tj_J G A0 M p e s m args below meth c rm Z cells slots E pc L σ (.int y :: .int x :: rest) :=
  fun ok C H locs ls hH hl => lv_ishl C.1 C.2.1 hd  (k ok C H locs ls hH hl)
theorem tj_ishr {x y : Int32} (hd : decode (sj_cc M) pc = .ok (.ishr, 1)) (k : tj_J G A0 M p e s m args below meth c rm Z cells slots E (pc + 1) L σ (.int (x >>> (y &&& 31)) :: rest)) : tj_J G A0 M p e s m args below meth c rm Z cells slots E pc L σ (.int y :: .int x :: rest) :=
  fun ok C H locs ls hH hl => lv_ishr C.1 C.2.1 hd  (k ok C H locs ls hH hl)
theorem tj_iushr {x y : Int32} (hd : decode (sj_cc M) pc = .ok (.iushr, 1)) (k : tj_J G A0 M p e s m args below meth c rm Z cells slots E (pc + 1) L σ (.int (x.toUInt32 >>> (y.toUInt32 &&& Int32.toUInt32 31)).toInt32 :: rest)) : tj_J G A0 M p e s m args below meth c rm Z cells slots E pc L σ (.int y :: .int x :: rest) :=
  fun ok C H locs ls hH hl => lv_iushr C.1 C.2.1 hd rfl (k ok C H locs ls hH hl)
theorem tj_idiv {x y : Int32} (hd : decode (sj_cc M) pc = .ok (.idiv, 1)) (hne : ¬ y = 0) (k : tj_J G A0 M p e s m args below meth c rm Z cells slots E (pc + 1) L σ (.int (x / y) :: rest)) : tj_J G A0 M p e s m args below meth c rm Z cells slots E pc L σ (.int y :: .int x :: rest) :=
  fun ok C H locs ls hH hl => lv_idiv C.1 C.2.1 hd hne (k ok C H locs ls hH hl)
theorem tj_irem {x y : Int32} (hd : decode (sj_cc M) pc = .ok (.irem, 1)) (hne : ¬ y = 0) (k : tj_J G A0 M p e s m args below meth c rm Z cells slots E (pc + 1) L σ (.int (x - x / y * y) :: rest)) : tj_J G A0 M p e s m args below meth c rm Z cells slots E pc L σ (.int y :: .int x :: rest) :=
  fun ok C H locs ls hH hl => lv_irem C.1 C.2.1 hd hne (k ok C H locs ls hH hl)
theorem tj_iconst {n : Int} {v : Int32} (hd : decode (sj_cc M) pc = .ok (.iconst n, 1)) (hv : Int32.ofInt n = v) (k : tj_J G A0 M p e s m args below meth c rm Z cells slots E (pc + 1) L σ (.int v :: rest)) : tj_J G A0 M p e s m args below meth c rm Z cells slots E pc L σ (rest) :=
  fun ok C H locs ls hH hl => lv_iconst C.1 C.2.1 hd hv (k ok C H locs ls hH hl)
theorem tj_bipush {n : Int} {v : Int32} (hd : decode (sj_cc M) pc = .ok (.bipush n, 2)) (hv : (Int8.ofInt n).toInt32 = v) (k : tj_J G A0 M p e s m args below meth c rm Z cells slots E (pc + 2) L σ (.int v :: rest)) : tj_J G A0 M p e s m args below meth c rm Z cells slots E pc L σ (rest) :=
  fun ok C H locs ls hH hl => lv_bipush C.1 C.2.1 hd hv (k ok C H locs ls hH hl)
theorem tj_sipush {n : Int} {v : Int32} (hd : decode (sj_cc M) pc = .ok (.sipush n, 3)) (hv : (Int16.ofInt n).toInt32 = v) (k : tj_J G A0 M p e s m args below meth c rm Z cells slots E (pc + 3) L σ (.int v :: rest)) : tj_J G A0 M p e s m args below meth c rm Z cells slots E pc L σ (rest) :=
  fun ok C H locs ls hH hl => lv_sipush C.1 C.2.1 hd hv (k ok C H locs ls hH hl)
theorem tj_dup {va : Value} (hd : decode (sj_cc M) pc = .ok (.dup, 1)) (hc : va.category = 1) (k : tj_J G A0 M p e s m args below meth c rm Z cells slots E (pc + 1) L σ (va :: va :: rest)) : tj_J G A0 M p e s m args below meth c rm Z cells slots E pc L σ (va :: rest) :=
  fun ok C H locs ls hH hl => lv_dup C.1 C.2.1 hd hc (k ok C H locs ls hH hl)
theorem tj_pop {va : Value} (hd : decode (sj_cc M) pc = .ok (.pop, 1)) (hc : va.category = 1) (k : tj_J G A0 M p e s m args below meth c rm Z cells slots E (pc + 1) L σ (rest)) : tj_J G A0 M p e s m args below meth c rm Z cells slots E pc L σ (va :: rest) :=
  fun ok C H locs ls hH hl => lv_pop C.1 C.2.1 hd hc (k ok C H locs ls hH hl)
theorem tj_i2c {x : Int32} (hd : decode (sj_cc M) pc = .ok (.i2c, 1)) (k : tj_J G A0 M p e s m args below meth c rm Z cells slots E (pc + 1) L σ (.int (x.toUInt32 % 65536).toInt32 :: rest)) : tj_J G A0 M p e s m args below meth c rm Z cells slots E pc L σ (.int x :: rest) :=
  fun ok C H locs ls hH hl => lv_i2c C.1 C.2.1 hd rfl (k ok C H locs ls hH hl)
theorem tj_dup2 {va vb : Value} (hd : decode (sj_cc M) pc = .ok (.dup2, 1)) (ha : va.category = 1) (hb : vb.category = 1) (k : tj_J G A0 M p e s m args below meth c rm Z cells slots E (pc + 1) L σ (va :: vb :: va :: vb :: rest)) : tj_J G A0 M p e s m args below meth c rm Z cells slots E pc L σ (va :: vb :: rest) :=
  fun ok C H locs ls hH hl => lv_dup2_11 C.1 C.2.1 hd ha hb (k ok C H locs ls hH hl)
theorem tj_iload_n {k9 : Fin 4} {i : Nat} {x : Int32} (hd : decode (sj_cc M) pc = .ok (.iload_n k9, 1)) (hi : (k9 : Nat) = i) (hL : L[i]? = some (.int x)) (k : tj_J G A0 M p e s m args below meth c rm Z cells slots E (pc + 1) L σ (.int x :: rest)) : tj_J G A0 M p e s m args below meth c rm Z cells slots E pc L σ rest :=
  fun ok C H locs ls hH hl => lv_iload_n C.1 C.2.1 hd hi (hl.2.2.1 i _ hL (fun h => nomatch h)) (k ok C H locs ls hH hl)
theorem tj_iload {i : Nat} {x : Int32} (hd : decode (sj_cc M) pc = .ok (.iload i, 2)) (hL : L[i]? = some (.int x)) (k : tj_J G A0 M p e s m args below meth c rm Z cells slots E (pc + 2) L σ (.int x :: rest)) : tj_J G A0 M p e s m args below meth c rm Z cells slots E pc L σ rest :=
  fun ok C H locs ls hH hl => lv_iload C.1 C.2.1 hd (hl.2.2.1 i _ hL (fun h => nomatch h)) (k ok C H locs ls hH hl)
theorem tj_aload_n {k9 : Fin 4} {i : Nat} {x : Nat} (hd : decode (sj_cc M) pc = .ok (.aload_n k9, 1)) (hi : (k9 : Nat) = i) (hL : L[i]? = some (.ref x)) (k : tj_J G A0 M p e s m args below meth c rm Z cells slots E (pc + 1) L σ (.ref x :: rest)) : tj_J G A0 M p e s m args below meth c rm Z cells slots E pc L σ rest :=
  fun ok C H locs ls hH hl => lv_aload_n C.1 C.2.1 hd hi (hl.2.2.1 i _ hL (fun h => nomatch h)) (k ok C H locs ls hH hl)
theorem tj_aload {i : Nat} {x : Nat} (hd : decode (sj_cc M) pc = .ok (.aload i, 2)) (hL : L[i]? = some (.ref x)) (k : tj_J G A0 M p e s m args below meth c rm Z cells slots E (pc + 2) L σ (.ref x :: rest)) : tj_J G A0 M p e s m args below meth c rm Z cells slots E pc L σ rest :=
  fun ok C H locs ls hH hl => lv_aload C.1 C.2.1 hd (hl.2.2.1 i _ hL (fun h => nomatch h)) (k ok C H locs ls hH hl)

theorem tj_istore_n {k9 : Fin 4} {i : Nat} {x : Int32} (hd : decode (sj_cc M) pc = .ok (.istore_n k9, 1)) (hi : (k9 : Nat) = i) (hn : i < sj_nL M) (k : tj_J G A0 M p e s m args below meth c rm Z cells slots E (pc + 1) (L.set i (.int x)) σ rest) : tj_J G A0 M p e s m args below meth c rm Z cells slots E pc L σ (.int x :: rest) := by
  subst hi
  intro ok C H locs ls hH hl
  obtain ⟨ls', e', h'⟩ := sj_lh_set (v := .int x) hl hn rfl
  have hx := C.1
  have hb := C.2.1
  intro T hT X
  obtain ⟨t, a, b⟩ := k ok C H locs ls' hH h' T hT X
  refine ⟨t, ?_, b⟩
  jvm_step X.here [X.here.top, ↓top_set X.here.top, hx, hb, hd, e']
  exact a
theorem tj_istore {i : Nat} {x : Int32} (hd : decode (sj_cc M) pc = .ok (.istore i, 2)) (hn : i < sj_nL M) (k : tj_J G A0 M p e s m args below meth c rm Z cells slots E (pc + 2) (L.set i (.int x)) σ rest) : tj_J G A0 M p e s m args below meth c rm Z cells slots E pc L σ (.int x :: rest) := by
  intro ok C H locs ls hH hl
  obtain ⟨ls', e', h'⟩ := sj_lh_set (v := .int x) hl hn rfl
  have hx := C.1
  have hb := C.2.1
  intro T hT X
  obtain ⟨t, a, b⟩ := k ok C H locs ls' hH h' T hT X
  refine ⟨t, ?_, b⟩
  jvm_step X.here [X.here.top, ↓top_set X.here.top, hx, hb, hd, e']
  exact a
theorem tj_astore_n {k9 : Fin 4} {i : Nat} {x : Nat} (hd : decode (sj_cc M) pc = .ok (.astore_n k9, 1)) (hi : (k9 : Nat) = i) (hn : i < sj_nL M) (k : tj_J G A0 M p e s m args below meth c rm Z cells slots E (pc + 1) (L.set i (.ref x)) σ rest) : tj_J G A0 M p e s m args below meth c rm Z cells slots E pc L σ (.ref x :: rest) := by
  subst hi
  intro ok C H locs ls hH hl
  obtain ⟨ls', e', h'⟩ := sj_lh_set (v := .ref x) hl hn rfl
  have hx := C.1
  have hb := C.2.1
  intro T hT X
  obtain ⟨t, a, b⟩ := k ok C H locs ls' hH h' T hT X
  refine ⟨t, ?_, b⟩
  jvm_step X.here [X.here.top, ↓top_set X.here.top, hx, hb, hd, e', Value.isRef]
  exact a
theorem tj_astore {i : Nat} {x : Nat} (hd : decode (sj_cc M) pc = .ok (.astore i, 2)) (hn : i < sj_nL M) (k : tj_J G A0 M p e s m args below meth c rm Z cells slots E (pc + 2) (L.set i (.ref x)) σ rest) : tj_J G A0 M p e s m args below meth c rm Z cells slots E pc L σ (.ref x :: rest) := by
  intro ok C H locs ls hH hl
  obtain ⟨ls', e', h'⟩ := sj_lh_set (v := .ref x) hl hn rfl
  have hx := C.1
  have hb := C.2.1
  intro T hT X
  obtain ⟨t, a, b⟩ := k ok C H locs ls' hH h' T hT X
  refine ⟨t, ?_, b⟩
  jvm_step X.here [X.here.top, ↓top_set X.here.top, hx, hb, hd, e', Value.isRef]
  exact a
theorem tj_iinc {i : Nat} {n : Int} {x v : Int32} (hd : decode (sj_cc M) pc = .ok (.iinc i n, 3)) (hn : i < sj_nL M) (hL : L[i]? = some (.int x)) (hv : x + Int32.ofInt n = v) (k : tj_J G A0 M p e s m args below meth c rm Z cells slots E (pc + 3) (L.set i (.int v)) σ rest) : tj_J G A0 M p e s m args below meth c rm Z cells slots E pc L σ rest := by
  subst hv
  intro ok C H locs ls hH hl
  obtain ⟨ls', e', h'⟩ := sj_lh_set (v := .int (x + Int32.ofInt n)) hl hn rfl
  have hg := hl.2.2.1 i _ hL (fun h => nomatch h)
  have hx := C.1
  have hb := C.2.1
  intro T hT X
  obtain ⟨t, a, b⟩ := k ok C H locs ls' hH h' T hT X
  refine ⟨t, ?_, b⟩
  jvm_step X.here [X.here.top, ↓top_set X.here.top, hx, hb, hd, hg, e']
  exact a
theorem tj_goto {off : Int} {tgt : Nat} (hd : decode (sj_cc M) pc = .ok (.goto off, 3)) (ht : (pc : Int) + off = (tgt : Int)) (k : tj_J G A0 M p e s m args below meth c rm Z cells slots E tgt L σ rest) : tj_J G A0 M p e s m args below meth c rm Z cells slots E pc L σ rest :=
  fun ok C H locs ls hH hl => lv_goto C.1 C.2.1 hd ht (k ok C H locs ls hH hl)

theorem tj_icmp_eq {x y : Int32} {off : Int} {tgt : Nat} (hd : decode (sj_cc M) pc = .ok (.if_icmp .eq off, 3)) (ht : (pc : Int) + off = (tgt : Int)) (kt : x = y → tj_J G A0 M p e s m args below meth c rm Z cells slots E tgt L σ rest) (kf : ¬ (x = y) → tj_J G A0 M p e s m args below meth c rm Z cells slots E (pc + 3) L σ rest) : tj_J G A0 M p e s m args below meth c rm Z cells slots E pc L σ (.int y :: .int x :: rest) :=
  fun ok C H locs ls hH hl => lv_icmp_eq C.1 C.2.1 hd ht (fun h => kt h ok C H locs ls hH hl) (fun h => kf h ok C H locs ls hH hl)
theorem tj_if_eq {x : Int32} {off : Int} {tgt : Nat} (hd : decode (sj_cc M) pc = .ok (.ifCond .eq off, 3)) (ht : (pc : Int) + off = (tgt : Int)) (kt : x = 0 → tj_J G A0 M p e s m args below meth c rm Z cells slots E tgt L σ rest) (kf : ¬ (x = 0) → tj_J G A0 M p e s m args below meth c rm Z cells slots E (pc + 3) L σ rest) : tj_J G A0 M p e s m args below meth c rm Z cells slots E pc L σ (.int x :: rest) :=
  fun ok C H locs ls hH hl => lv_if_eq C.1 C.2.1 hd ht (fun h => kt h ok C H locs ls hH hl) (fun h => kf h ok C H locs ls hH hl)
theorem tj_icmp_ne {x y : Int32} {off : Int} {tgt : Nat} (hd : decode (sj_cc M) pc = .ok (.if_icmp .ne off, 3)) (ht : (pc : Int) + off = (tgt : Int)) (kt : ¬ x = y → tj_J G A0 M p e s m args below meth c rm Z cells slots E tgt L σ rest) (kf : x = y → tj_J G A0 M p e s m args below meth c rm Z cells slots E (pc + 3) L σ rest) : tj_J G A0 M p e s m args below meth c rm Z cells slots E pc L σ (.int y :: .int x :: rest) :=
  fun ok C H locs ls hH hl => lv_icmp_ne C.1 C.2.1 hd ht (fun h => kt h ok C H locs ls hH hl) (fun h => kf h ok C H locs ls hH hl)
theorem tj_if_ne {x : Int32} {off : Int} {tgt : Nat} (hd : decode (sj_cc M) pc = .ok (.ifCond .ne off, 3)) (ht : (pc : Int) + off = (tgt : Int)) (kt : ¬ x = 0 → tj_J G A0 M p e s m args below meth c rm Z cells slots E tgt L σ rest) (kf : x = 0 → tj_J G A0 M p e s m args below meth c rm Z cells slots E (pc + 3) L σ rest) : tj_J G A0 M p e s m args below meth c rm Z cells slots E pc L σ (.int x :: rest) :=
  fun ok C H locs ls hH hl => lv_if_ne C.1 C.2.1 hd ht (fun h => kt h ok C H locs ls hH hl) (fun h => kf h ok C H locs ls hH hl)
theorem tj_icmp_lt {x y : Int32} {off : Int} {tgt : Nat} (hd : decode (sj_cc M) pc = .ok (.if_icmp .lt off, 3)) (ht : (pc : Int) + off = (tgt : Int)) (kt : x < y → tj_J G A0 M p e s m args below meth c rm Z cells slots E tgt L σ rest) (kf : ¬ (x < y) → tj_J G A0 M p e s m args below meth c rm Z cells slots E (pc + 3) L σ rest) : tj_J G A0 M p e s m args below meth c rm Z cells slots E pc L σ (.int y :: .int x :: rest) :=
  fun ok C H locs ls hH hl => lv_icmp_lt C.1 C.2.1 hd ht (fun h => kt h ok C H locs ls hH hl) (fun h => kf h ok C H locs ls hH hl)
theorem tj_if_lt {x : Int32} {off : Int} {tgt : Nat} (hd : decode (sj_cc M) pc = .ok (.ifCond .lt off, 3)) (ht : (pc : Int) + off = (tgt : Int)) (kt : x < 0 → tj_J G A0 M p e s m args below meth c rm Z cells slots E tgt L σ rest) (kf : ¬ (x < 0) → tj_J G A0 M p e s m args below meth c rm Z cells slots E (pc + 3) L σ rest) : tj_J G A0 M p e s m args below meth c rm Z cells slots E pc L σ (.int x :: rest) :=
  fun ok C H locs ls hH hl => lv_if_lt C.1 C.2.1 hd ht (fun h => kt h ok C H locs ls hH hl) (fun h => kf h ok C H locs ls hH hl)
theorem tj_icmp_ge {x y : Int32} {off : Int} {tgt : Nat} (hd : decode (sj_cc M) pc = .ok (.if_icmp .ge off, 3)) (ht : (pc : Int) + off = (tgt : Int)) (kt : y ≤ x → tj_J G A0 M p e s m args below meth c rm Z cells slots E tgt L σ rest) (kf : ¬ (y ≤ x) → tj_J G A0 M p e s m args below meth c rm Z cells slots E (pc + 3) L σ rest) : tj_J G A0 M p e s m args below meth c rm Z cells slots E pc L σ (.int y :: .int x :: rest) :=
  fun ok C H locs ls hH hl => lv_icmp_ge C.1 C.2.1 hd ht (fun h => kt h ok C H locs ls hH hl) (fun h => kf h ok C H locs ls hH hl)
theorem tj_if_ge {x : Int32} {off : Int} {tgt : Nat} (hd : decode (sj_cc M) pc = .ok (.ifCond .ge off, 3)) (ht : (pc : Int) + off = (tgt : Int)) (kt : 0 ≤ x → tj_J G A0 M p e s m args below meth c rm Z cells slots E tgt L σ rest) (kf : ¬ (0 ≤ x) → tj_J G A0 M p e s m args below meth c rm Z cells slots E (pc + 3) L σ rest) : tj_J G A0 M p e s m args below meth c rm Z cells slots E pc L σ (.int x :: rest) :=
  fun ok C H locs ls hH hl => lv_if_ge C.1 C.2.1 hd ht (fun h => kt h ok C H locs ls hH hl) (fun h => kf h ok C H locs ls hH hl)
theorem tj_icmp_gt {x y : Int32} {off : Int} {tgt : Nat} (hd : decode (sj_cc M) pc = .ok (.if_icmp .gt off, 3)) (ht : (pc : Int) + off = (tgt : Int)) (kt : y < x → tj_J G A0 M p e s m args below meth c rm Z cells slots E tgt L σ rest) (kf : ¬ (y < x) → tj_J G A0 M p e s m args below meth c rm Z cells slots E (pc + 3) L σ rest) : tj_J G A0 M p e s m args below meth c rm Z cells slots E pc L σ (.int y :: .int x :: rest) :=
  fun ok C H locs ls hH hl => lv_icmp_gt C.1 C.2.1 hd ht (fun h => kt h ok C H locs ls hH hl) (fun h => kf h ok C H locs ls hH hl)
theorem tj_if_gt {x : Int32} {off : Int} {tgt : Nat} (hd : decode (sj_cc M) pc = .ok (.ifCond .gt off, 3)) (ht : (pc : Int) + off = (tgt : Int)) (kt : 0 < x → tj_J G A0 M p e s m args below meth c rm Z cells slots E tgt L σ rest) (kf : ¬ (0 < x) → tj_J G A0 M p e s m args below meth c rm Z cells slots E (pc + 3) L σ rest) : tj_J G A0 M p e s m args below meth c rm Z cells slots E pc L σ (.int x :: rest) :=
  fun ok C H locs ls hH hl => lv_if_gt C.1 C.2.1 hd ht (fun h => kt h ok C H locs ls hH hl) (fun h => kf h ok C H locs ls hH hl)
theorem tj_icmp_le {x y : Int32} {off : Int} {tgt : Nat} (hd : decode (sj_cc M) pc = .ok (.if_icmp .le off, 3)) (ht : (pc : Int) + off = (tgt : Int)) (kt : x ≤ y → tj_J G A0 M p e s m args below meth c rm Z cells slots E tgt L σ rest) (kf : ¬ (x ≤ y) → tj_J G A0 M p e s m args below meth c rm Z cells slots E (pc + 3) L σ rest) : tj_J G A0 M p e s m args below meth c rm Z cells slots E pc L σ (.int y :: .int x :: rest) :=
  fun ok C H locs ls hH hl => lv_icmp_le C.1 C.2.1 hd ht (fun h => kt h ok C H locs ls hH hl) (fun h => kf h ok C H locs ls hH hl)
theorem tj_if_le {x : Int32} {off : Int} {tgt : Nat} (hd : decode (sj_cc M) pc = .ok (.ifCond .le off, 3)) (ht : (pc : Int) + off = (tgt : Int)) (kt : x ≤ 0 → tj_J G A0 M p e s m args below meth c rm Z cells slots E tgt L σ rest) (kf : ¬ (x ≤ 0) → tj_J G A0 M p e s m args below meth c rm Z cells slots E (pc + 3) L σ rest) : tj_J G A0 M p e s m args below meth c rm Z cells slots E pc L σ (.int x :: rest) :=
  fun ok C H locs ls hH hl => lv_if_le C.1 C.2.1 hd ht (fun h => kt h ok C H locs ls hH hl) (fun h => kf h ok C H locs ls hH hl)
theorem tj_get {a k9 idx : Nat} {v : Value} (hd : decode (sj_cc M) pc = .ok (.getfield idx, 3)) (hf : sj_fok M a k9 idx = true) (hv : sj_fv (sj_ad G) σ a k9 = v) (k : tj_J G A0 M p e s m args below meth c rm Z cells slots E (pc + 3) L σ (v :: rest)) : tj_J G A0 M p e s m args below meth c rm Z cells slots E pc L σ (.ref (sj_ad G a) :: rest) := by
  intro ok C H locs ls hH hl
  unfold sj_fok at hf
  simp only [Bool.and_eq_true, decide_eq_true_eq] at hf
  obtain ⟨⟨h1, h2⟩, h3⟩ := hf
  split at h3
  · rename_i q hq
    simp only [Bool.and_eq_true, decide_eq_true_eq] at h3
    obtain ⟨⟨h4, h5⟩, h6⟩ := h3
    have hcl : ∀ w ∈ sj_clw, w.before args s = true := fun w hw => by
      have g := List.all_eq_true.mp sj_clw_good w hw
      simp only [Bool.and_eq_true] at g
      exact va_Nw.use g.2 (C.2.2.2.2.2.2.2.2.2.2.2.1 w hw)
    exact va_get C.1 C.2.1 (own := sj_own M) (ref := (q.2.1 k9).1) (C := q.1) (T := q.2.1) (N := q.2.2) hcl (sj_cls_in hq) C.2.2.2.1 C.2.2.2.2.2.2.2.2.1 hH.1 a (by rw [tj_wd_l h1]; exact sj_wd_obj h1 h2) hq k9 h4 (C.2.2.2.2.1 _ h6) (fun x hx => hx) (v := v) (by rw [sj_fs_get (by rw [← h5]; exact h4), hv]) hd (k ok C H locs ls hH hl)
  · cases h3
theorem tj_iald {a j : Nat} {i x : Int32} (hd : decode (sj_cc M) pc = .ok (.iaload, 1)) (hk : sj_lk a = 13) (ha : a < sj_NA) (hin : vp_in i (sj_ln a)) (hj : i.toNatClampNeg = j) (hx : σ a j = x) (k : tj_J G A0 M p e s m args below meth c rm Z cells slots E (pc + 1) L σ (.int x :: rest)) : tj_J G A0 M p e s m args below meth c rm Z cells slots E pc L σ (.int i :: .ref (sj_ad G a) :: rest) :=
  fun ok C H locs ls hH hl => va_iald C.1 C.2.1 C.2.2.2.2.2.2.2.2.1 hH.1 a 0 (by rw [tj_wd_l ha]; exact sj_wd_arr ha (by omega)) (by rw [hk]; rfl) hin hd (by rw [hj, hx]; exact k ok C H locs ls hH hl)
theorem tj_put {a k9 idx : Nat} {x : Int32} (hN : sj_N0 G ≤ s.heap.size) (hE : E = []) (hA : ∀ q, sj_A G q → A0 q) (hd : decode (sj_cc M) pc = .ok (.putfield idx, 3)) (hf : sj_fok M a k9 idx = true) (hi : (match vwCl[sj_lk a]? with
    | some q => decide ((q.2.1 k9).2.2.1 = "I") && !(q.2.1 k9).2.2.2
    | none => false) = true) (hr : sj_rf a k9 = 0) (k : tj_J G A0 M p e s m args below meth c rm Z cells slots E (pc + 3) L (sj_st σ a k9 x) rest) : tj_J G A0 M p e s m args below meth c rm Z cells slots E pc L σ (.int x :: .ref (sj_ad G a) :: rest) := by
  subst hE
  intro ok C H locs ls hH hl
  unfold sj_fok at hf
  simp only [Bool.and_eq_true, decide_eq_true_eq] at hf
  obtain ⟨⟨h1, h2⟩, h3⟩ := hf
  split at h3
  · rename_i q hq
    rw [hq] at hi
    simp only [Bool.and_eq_true, decide_eq_true_eq, Bool.not_eq_true'] at h3 hi
    obtain ⟨⟨h4, h5⟩, h6⟩ := h3
    have hcl : ∀ w ∈ sj_clw, w.before args s = true := fun w hw => by
      have g := List.all_eq_true.mp sj_clw_good w hw
      simp only [Bool.and_eq_true] at g
      exact va_Nw.use g.2 (C.2.2.2.2.2.2.2.2.2.2.2.1 w hw)
    have hD : va_D A0 (sj_wd G σ) := ⟨(sj_wd_D ok σ).1, fun k q hk => hA _ ((sj_wd_D ok σ).2 k q hk)⟩
    have hP : va_P (sj_D G) vwCl (sj_wd G σ) H := tj_P_l hH.1
    refine va_put C.1 C.2.1 (own := sj_own M) (ref := (q.2.1 k9).1) (C := q.1) (T := q.2.1) (N := q.2.2) hcl (sj_cls_in hq) (sj_ty (sj_lk a)) (sj_cls_ty hq) (sj_cls_nm hq) C.2.2.2.1 C.2.2.2.2.2.2.2.2.1 hP hD hH.2.1 a (sj_wd_obj h1 h2) hq k9 h4 (C.2.2.2.2.1 _ h6) (fun x hx => hx) hi.2 (ty := .int) (v := .int x) (by rw [hi.1]; rfl) rfl rfl (by rw [show (sj_fs (sj_ad G) σ a).length = sj_ln a by simp [sj_fs], ← h5]; exact h4) hd (fun H1 locs1 hP1 hD1 hS1 => ?_)
    rw [sj_wd_ost h1 h2 hr] at hP1
    exact k ok C H1 locs1 ls ⟨by rw [List.append_nil]; exact hP1, hS1, Nat.le_trans hN hS1.1⟩ hl
  · cases h3
/-- a call of a method of the world from here -/
theorem tj_runV {M' : sj_M} {d' idx b : Nat} {As : List Value} {R1 : sj_R} {ws' : List Cond} {H : Heap} {locs : List Loc} {ls : Array Slot} (hK0 : ∀ q, q < s.heap.size → ¬ sj_A G q → ¬ A0 q) (ok : sj_ok G) (C : tj_Cx G M p s m args meth c) (hH : tj_H G A0 s σ E H locs) (hl : sj_lh ls (sj_nL M) L)
    (hd : decode (sj_cc M) pc = .ok (.invokevirtual idx, 3)) (hg : GoodIn (sj_ws M) (wsV (sj_own M) idx (sj_own M') (sj_y M') (sj_ws M'))) (hw : sj_ws M' = Cond.code (sj_y M') (sj_cc M') (sj_nL M') (sj_rt M') :: ws') (hh : sj_hd M' As.length = true) (hb : b < sj_NA) (hbk : sj_lk b ≤ 12) (hbc : (vwCl[sj_lk b]?).map (fun q => q.1) = some (sj_own M')) (hrs : (rest.map fun v => v.category).sum ≤ 8) (hdd : d' + 1 ≤ rm.frames ∧ 64 * (d' + 1) ≤ rm.locals)
    (hc : sj_C G d' M' (.ref (sj_ad G b) :: As) σ R1) (hmc : cells + sj_mc R1 ≤ rm.cells ∧ slots + sj_ms R1 ≤ rm.slots) : vx_Run p (sj_l G) e rm s m args below meth c H locs cells slots (sj_mc R1) (sj_ms R1) (F0 m pc ls (As.reverse ++ .ref (sj_ad G b) :: rest)) rest (sj_Q G (sj_rt M') R1 (Value.ref (sj_ad G b) :: As).toArray) (sj_X G R1) (sj_A G) := by
  unfold sj_hd at hh
  simp only [Bool.and_eq_true, decide_eq_true_eq] at hh
  have hP := tj_P_l hH.1
  obtain ⟨q, hq, hq1⟩ : ∃ q, vwCl[sj_lk b]? = some q ∧ q.1 = sj_own M' := by
    cases hv : vwCl[sj_lk b]? with
    | none => rw [hv] at hbc; cases hbc
    | some q => rw [hv] at hbc; exact ⟨q, rfl, Option.some.inj hbc⟩
  have hR := C.2.2.2.2.2.2.2.2
  have hS' : va_S (sj_A G) s.heap H [] := ⟨hH.2.1.1, fun q h1 h2 => hH.2.1.2.1 q h1 (hK0 q h1 h2), fun _ h => by cases h⟩
  have hKm : ∀ U : State, U.heap = H → s.WarmedH U.vm → sj_K G U U.heap := fun U hU hW => by
    obtain ⟨h2, h3, h4, h5, h6, h7, h8⟩ := hR
    rw [hU]
    refine ⟨hH.2.2, va_K.moved hW.alike h2, vx_Zq.moved hW.alike (h3.kept hS'.2.1), vx_Zq.moved hW.alike (h4.kept hS'.2.1), fun w hw => ?_, fun w hw => ?_, fun q hq => ?_, vk_S.moved hW.alike (h8.1.kept hS'.2.1), vk_R.warm hW h8.2.1, va_Z.moved hW.alike (h8.2.2.1.kept hS'.2.1), va_Zq.moved hW.alike (h8.2.2.2.kept hS'.2.1)⟩
    · have g := List.all_eq_true.mp sj_clw_good w hw
      simp only [Bool.and_eq_true] at g
      exact sj_Nw_good g.1 g.2 hW (h5 w hw)
    · have g := List.all_eq_true.mp sj_bw_ok w hw
      simp only [Bool.and_eq_true] at g
      exact sj_Nw_face g.2 g.1 hW (h6 w hw)
    · obtain ⟨sa, e⟩ := h7 q hq
      exact ⟨sa, vk_R.warm hW e⟩
  refine vx_runV (rest := rest) ⟨C.1, C.2.1, C.2.2.1, C.2.2.2.1, C.2.2.2.2.1⟩ hc (cwV As.length C.2.2.2.2.1 hg hw rfl rfl ⟨hh.1.1.1.1, hh.1.1.1.2, hh.1.1.2, hh.1.2⟩ ⟨?_, ?_⟩) ⟨sj_blind, ?_, fun U hU hW => ⟨rfl, by unfold sj_B; rw [hU]; exact hP, hKm U hU hW⟩⟩ rfl rfl hl.1 rfl (lv_room hrs) hd hmc
  · exact hdd.1
  · show 8 + (sj_nL M' + 11) + 64 * d' ≤ rm.locals
    have := hh.2
    have := hdd.2
    omega
  · have h9 := va_recv hR.1 hP hq (sj_wd_obj hb hbk)
    rw [hq1] at h9
    exact h9
/-- what stands beside the world stands behind a call -/
theorem tj_after {σ1 : sj_S} {t : State} {H H1 : Heap} {locs locs1 : List Loc} (hE : ∀ q ∈ E, ¬ sj_A G q.1) (hH : tj_H G A0 s σ E H locs) (ht : t.heap = H1) (hB : sj_B G σ1 t) (hz : H.size ≤ H1.size) (hk : ∀ q : Nat, q < H.size → ¬ sj_A G q → H1[q]? = H[q]?) (hS1 : va_S A0 s.heap H1 locs1) : tj_H G A0 s σ1 E H1 locs1 := by
  unfold sj_B at hB
  rw [ht] at hB
  refine ⟨tj_P_a hB ((tj_P_r hH.1).kept (fun k q hq => ?_)), hS1, Nat.le_trans hH.2.2 hz⟩
  exact hk q.1 ((tj_P_r hH.1) k q hq).lt (hE q (List.mem_of_getElem? hq))
theorem tj_callVi {M' : sj_M} {d' idx b : Nat} {As : List Value} {ws' : List Cond} {v : Int32} {σ1 : sj_S} {ty : FieldType} (hK0 : ∀ q, q < s.heap.size → ¬ sj_A G q → ¬ A0 q) (hA : ∀ q, sj_A G q → A0 q) (hE : ∀ q ∈ E, ¬ sj_A G q.1) (hd : decode (sj_cc M) pc = .ok (.invokevirtual idx, 3)) (hg : GoodIn (sj_ws M) (wsV (sj_own M) idx (sj_own M') (sj_y M') (sj_ws M'))) (hw : sj_ws M' = Cond.code (sj_y M') (sj_cc M') (sj_nL M') (sj_rt M') :: ws') (hh : sj_hd M' As.length = true) (hb : b < sj_NA) (hbk : sj_lk b ≤ 12) (hbc : (vwCl[sj_lk b]?).map (fun q => q.1) = some (sj_own M')) (hrs : (rest.map fun v => v.category).sum ≤ 8) (hdd : d' + 1 ≤ rm.frames ∧ 64 * (d' + 1) ≤ rm.locals) (hrt : sj_rt M' = some ty) (hcs : cells ≤ rm.cells ∧ slots ≤ rm.slots) (hc : sj_C G d' M' (.ref (sj_ad G b) :: As) σ (.ok v, σ1)) (k : tj_J G A0 M p e s m args below meth c rm Z cells slots E (pc + 3) L σ1 (.int v :: rest)) : tj_J G A0 M p e s m args below meth c rm Z cells slots E pc L σ (As.reverse ++ .ref (sj_ad G b) :: rest) := by
  intro ok C H locs ls hH hl
  have hr := tj_runV (E := E) hK0 ok C hH hl hd hg hw hh hb hbk hbc hrs hdd hc (e := e) (below := below) hcs
  rw [hrt] at hr
  refine vx_calli (a := (Value.ref (sj_ad G b) :: As).toArray) hr hH.2.1 (fun q _ h => hA q h) hA (fun q _ h => hA q h) (fun E ce q9 u t H1 locs1 ht hvm hpx hBX hz hk hS1 hce hcv hcl => ?_) (fun r u t H1 locs1 ht hvm hpost hB hz hk hS1 => ?_)
  · obtain ⟨k9, h9, -⟩ := hBX
    cases h9
  · cases hpost
    exact k ok C H1 locs1 ls (tj_after hE hH ht hB hz hk hS1) hl
theorem tj_callVv {M' : sj_M} {d' idx b : Nat} {As : List Value} {ws' : List Cond} {σ1 : sj_S} (hK0 : ∀ q, q < s.heap.size → ¬ sj_A G q → ¬ A0 q) (hA : ∀ q, sj_A G q → A0 q) (hE : ∀ q ∈ E, ¬ sj_A G q.1) (hd : decode (sj_cc M) pc = .ok (.invokevirtual idx, 3)) (hg : GoodIn (sj_ws M) (wsV (sj_own M) idx (sj_own M') (sj_y M') (sj_ws M'))) (hw : sj_ws M' = Cond.code (sj_y M') (sj_cc M') (sj_nL M') (sj_rt M') :: ws') (hh : sj_hd M' As.length = true) (hb : b < sj_NA) (hbk : sj_lk b ≤ 12) (hbc : (vwCl[sj_lk b]?).map (fun q => q.1) = some (sj_own M')) (hrs : (rest.map fun v => v.category).sum ≤ 8) (hdd : d' + 1 ≤ rm.frames ∧ 64 * (d' + 1) ≤ rm.locals) (hrt : sj_rt M' = none) (hcs : cells ≤ rm.cells ∧ slots ≤ rm.slots) (hc : sj_C G d' M' (.ref (sj_ad G b) :: As) σ (.ok 0, σ1)) (k : tj_J G A0 M p e s m args below meth c rm Z cells slots E (pc + 3) L σ1 rest) : tj_J G A0 M p e s m args below meth c rm Z cells slots E pc L σ (As.reverse ++ .ref (sj_ad G b) :: rest) := by
  intro ok C H locs ls hH hl
  have hr := tj_runV (E := E) hK0 ok C hH hl hd hg hw hh hb hbk hbc hrs hdd hc (e := e) (below := below) hcs
  rw [hrt] at hr
  refine vx_callv (a := (Value.ref (sj_ad G b) :: As).toArray) hr hH.2.1 (fun q _ h => hA q h) hA (fun q _ h => hA q h) (fun E ce q9 u t H1 locs1 ht hvm hpx hBX hz hk hS1 hce hcv hcl => ?_) (fun u t H1 locs1 ht hvm hpost hB hz hk hS1 => ?_)
  · obtain ⟨k9, h9, -⟩ := hBX
    cases h9
  · exact k ok C H1 locs1 ls (tj_after hE hH ht hB hz hk hS1) hl
end TJ
