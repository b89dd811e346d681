/-! P59: more rows of walks over lists of cells -/
section KR
variable {l : Launch} {D : va_G} {cs : Nat → ClassId} {A : Nat → Prop} {M : sj_M} {p : Program} {e : Env} {s : State} {m : MethodId} {args : Array Value} {below : List Frame} {meth : Method} {c : Code} {rm : Room} {Z : State → Prop} {cells slots : Nat} {ws : va_W} {pc : Nat} {L st rest : List Value}
theorem kj_iload {i : Nat} {x : Int32} (hd : decode (sj_cc M) pc = .ok (.iload i, 2)) (hL : L[i]? = some (.int x)) (k : kj_J l D cs A M p e s m args below meth c rm Z cells slots ws (pc + 2) L (.int x :: rest)) : kj_J l D cs A M p e s m args below meth c rm Z cells slots ws pc L rest :=
  fun C H locs ls hP hD hS hl => lv_iload C.1 C.2.1 hd (hl.2.2.1 i _ hL (fun h => nomatch h)) (k C H locs ls hP hD hS hl)
theorem kj_istore {i : Nat} {x : Int32} (hd : decode (sj_cc M) pc = .ok (.istore i, 2)) (hn : i < sj_nL M) (k : kj_J l D cs A M p e s m args below meth c rm Z cells slots ws (pc + 2) (L.set i (.int x)) rest) : kj_J l D cs A M p e s m args below meth c rm Z cells slots ws pc L (.int x :: rest) := by
  intro C H locs ls hP hD hS hl
  obtain ⟨ls', e', h'⟩ := sj_lh_set (v := .int x) hl hn rfl
  have hx := C.1
  have hb := C.2.1
  intro T hT X
  obtain ⟨t, a, b⟩ := k C H locs ls' hP hD hS h' T hT X
  refine ⟨t, ?_, b⟩
  jvm_step X.here [X.here.top, ↓top_set X.here.top, hx, hb, hd, e']
  exact a
theorem kj_astore_n {k9 : Fin 4} {i : Nat} {x : Nat} (hd : decode (sj_cc M) pc = .ok (.astore_n k9, 1)) (hi : (k9 : Nat) = i) (hn : i < sj_nL M) (k : kj_J l D cs A M p e s m args below meth c rm Z cells slots ws (pc + 1) (L.set i (.ref x)) rest) : kj_J l D cs A M p e s m args below meth c rm Z cells slots ws pc L (.ref x :: rest) := by
  subst hi
  intro C H locs ls hP hD hS hl
  obtain ⟨ls', e', h'⟩ := sj_lh_set (v := .ref x) hl hn rfl
  have hx := C.1
  have hb := C.2.1
  intro T hT X
  obtain ⟨t, a, b⟩ := k C H locs ls' hP hD hS h' T hT X
  refine ⟨t, ?_, b⟩
  jvm_step X.here [X.here.top, ↓top_set X.here.top, hx, hb, hd, e', Value.isRef]
  exact a
theorem kj_if_eq {x : Int32} {off : Int} {tgt : Nat} (hd : decode (sj_cc M) pc = .ok (.ifCond .eq off, 3)) (ht : (pc : Int) + off = (tgt : Int)) (kt : x = 0 → kj_J l D cs A M p e s m args below meth c rm Z cells slots ws tgt L rest) (kf : ¬ (x = 0) → kj_J l D cs A M p e s m args below meth c rm Z cells slots ws (pc + 3) L rest) : kj_J l D cs A M p e s m args below meth c rm Z cells slots ws pc L (.int x :: rest) :=
  fun C H locs ls hP hD hS hl => lv_if_eq C.1 C.2.1 hd ht (fun h => kt h C H locs ls hP hD hS hl) (fun h => kf h C H locs ls hP hD hS hl)
theorem kj_if_ne {x : Int32} {off : Int} {tgt : Nat} (hd : decode (sj_cc M) pc = .ok (.ifCond .ne off, 3)) (ht : (pc : Int) + off = (tgt : Int)) (kt : ¬ x = 0 → kj_J l D cs A M p e s m args below meth c rm Z cells slots ws tgt L rest) (kf : x = 0 → kj_J l D cs A M p e s m args below meth c rm Z cells slots ws (pc + 3) L rest) : kj_J l D cs A M p e s m args below meth c rm Z cells slots ws pc L (.int x :: rest) :=
  fun C H locs ls hP hD hS hl => lv_if_ne C.1 C.2.1 hd ht (fun h => kt h C H locs ls hP hD hS hl) (fun h => kf h C H locs ls hP hD hS hl)
theorem kj_if_lt {x : Int32} {off : Int} {tgt : Nat} (hd : decode (sj_cc M) pc = .ok (.ifCond .lt off, 3)) (ht : (pc : Int) + off = (tgt : Int)) (kt : x < 0 → kj_J l D cs A M p e s m args below meth c rm Z cells slots ws tgt L rest) (kf : ¬ (x < 0) → kj_J l D cs A M p e s m args below meth c rm Z cells slots ws (pc + 3) L rest) : kj_J l D cs A M p e s m args below meth c rm Z cells slots ws pc L (.int x :: rest) :=
  fun C H locs ls hP hD hS hl => lv_if_lt C.1 C.2.1 hd ht (fun h => kt h C H locs ls hP hD hS hl) (fun h => kf h C H locs ls hP hD hS hl)
theorem kj_if_ge {x : Int32} {off : Int} {tgt : Nat} (hd : decode (sj_cc M) pc = .ok (.ifCond .ge off, 3)) (ht : (pc : Int) + off = (tgt : Int)) (kt : 0 ≤ x → kj_J l D cs A M p e s m args below meth c rm Z cells slots ws tgt L rest) (kf : ¬ (0 ≤ x) → kj_J l D cs A M p e s m args below meth c rm Z cells slots ws (pc + 3) L rest) : kj_J l D cs A M p e s m args below meth c rm Z cells slots ws pc L (.int x :: rest) :=
  fun C H locs ls hP hD hS hl => lv_if_ge C.1 C.2.1 hd ht (fun h => kt h C H locs ls hP hD hS hl) (fun h => kf h C H locs ls hP hD hS hl)
theorem kj_icmp_eq {x y : Int32} {off : Int} {tgt : Nat} (hd : decode (sj_cc M) pc = .ok (.if_icmp .eq off, 3)) (ht : (pc : Int) + off = (tgt : Int)) (kt : x = y → kj_J l D cs A M p e s m args below meth c rm Z cells slots ws tgt L rest) (kf : ¬ (x = y) → kj_J l D cs A M p e s m args below meth c rm Z cells slots ws (pc + 3) L rest) : kj_J l D cs A M p e s m args below meth c rm Z cells slots ws pc L (.int y :: .int x :: rest) :=
  fun C H locs ls hP hD hS hl => lv_icmp_eq C.1 C.2.1 hd ht (fun h => kt h C H locs ls hP hD hS hl) (fun h => kf h C H locs ls hP hD hS hl)
theorem kj_icmp_le {x y : Int32} {off : Int} {tgt : Nat} (hd : decode (sj_cc M) pc = .ok (.if_icmp .le off, 3)) (ht : (pc : Int) + off = (tgt : Int)) (kt : x ≤ y → kj_J l D cs A M p e s m args below meth c rm Z cells slots ws tgt L rest) (kf : ¬ (x ≤ y) → kj_J l D cs A M p e s m args below meth c rm Z cells slots ws (pc + 3) L rest) : kj_J l D cs A M p e s m args below meth c rm Z cells slots ws pc L (.int y :: .int x :: rest) :=
  fun C H locs ls hP hD hS hl => lv_icmp_le C.1 C.2.1 hd ht (fun h => kt h C H locs ls hP hD hS hl) (fun h => kf h C H locs ls hP hD hS hl)
theorem kj_ixor {x y : Int32} (hd : decode (sj_cc M) pc = .ok (.ixor, 1)) (k : kj_J l D cs A M p e s m args below meth c rm Z cells slots ws (pc + 1) L (.int (x ^^^ y) :: rest)) : kj_J l D cs A M p e s m args below meth c rm Z cells slots ws pc L (.int y :: .int x :: rest) :=
  fun C H locs ls hP hD hS hl => lv_ixor C.1 C.2.1 hd  (k C H locs ls hP hD hS hl)
theorem kj_iushr {x y : Int32} (hd : decode (sj_cc M) pc = .ok (.iushr, 1)) (k : kj_J l D cs A M p e s m args below meth c rm Z cells slots ws (pc + 1) L (.int (x.toUInt32 >>> (y.toUInt32 &&& Int32.toUInt32 31)).toInt32 :: rest)) : kj_J l D cs A M p e s m args below meth c rm Z cells slots ws pc L (.int y :: .int x :: rest) :=
  fun C H locs ls hP hD hS hl => lv_iushr C.1 C.2.1 hd rfl (k C H locs ls hP hD hS hl)
theorem kj_imul {x y : Int32} (hd : decode (sj_cc M) pc = .ok (.imul, 1)) (k : kj_J l D cs A M p e s m args below meth c rm Z cells slots ws (pc + 1) L (.int (x * y) :: rest)) : kj_J l D cs A M p e s m args below meth c rm Z cells slots ws pc L (.int y :: .int x :: rest) :=
  fun C H locs ls hP hD hS hl => lv_imul C.1 C.2.1 hd  (k C H locs ls hP hD hS hl)
theorem kj_fg (is : List Nat) (k : kj_J l D cs A M p e s m args below meth c rm Z cells slots ws pc (is.foldl (fun l i => l.set i .null) L) st) : kj_J l D cs A M p e s m args below meth c rm Z cells slots ws pc L st := by
  have key : ∀ (is : List Nat) (L : List Value) (i : Nat) (v : Value), (is.foldl (fun l i => l.set i Value.null) L)[i]? = some v → v ≠ .null → L[i]? = some v := by
    intro is
    induction is with
    | nil => intro L i v h _; exact h
    | cons j js ih =>
      intro L i v h hv
      have h1 := ih (L.set j .null) i v h hv
      by_cases hji : j = i
      · subst hji
        by_cases hl : j < L.length
        · rw [List.getElem?_set_self hl] at h1
          exact absurd (Option.some.inj h1).symm hv
        · rw [List.getElem?_eq_none (by simpa using hl)] at h1
          cases h1
      · rw [List.getElem?_set_ne hji] at h1
        exact h1
  have key2 : ∀ (is : List Nat) (L : List Value), (∀ v ∈ L, v.category = 1) → ∀ v ∈ is.foldl (fun l i => l.set i Value.null) L, v.category = 1 := by
    intro is
    induction is with
    | nil => intro L h; exact h
    | cons j js ih =>
      intro L h
      refine ih (L.set j .null) (fun v hv => ?_)
      rcases List.mem_or_eq_of_mem_set hv with h1 | h1
      · exact h v h1
      · rw [h1]; rfl
  intro C H locs ls hP hD hS hl
  exact k C H locs ls hP hD hS ⟨hl.1, hl.2.1, fun i v h hv => hl.2.2.1 i v (key is L i v h hv) hv, key2 is L hl.2.2.2⟩
theorem kj_drop {ws' : va_W} (h1 : ∀ H, va_P D vwCl ws H → va_P D vwCl ws' H) (h2 : va_D A ws → va_D A ws') (k : kj_J l D cs A M p e s m args below meth c rm Z cells slots ws' pc L st) : kj_J l D cs A M p e s m args below meth c rm Z cells slots ws pc L st :=
  fun C H locs ls hP hD hS hl => k C H locs ls (h1 H hP) (h2 hD) hS hl
theorem kj_widen {k n : Nat} (h1 : cells ≤ k) (h2 : slots ≤ n) (kk : kj_J l D cs A M p e s m args below meth c rm Z k n ws pc L st) : kj_J l D cs A M p e s m args below meth c rm Z cells slots ws pc L st :=
  fun C H locs ls hP hD hS hl => W.widen h1 h2 (kk C H locs ls hP hD hS hl)
/-- a field of any object of the list -/
theorem kj_getA {ci k9 idx N h0 q0 : Nat} {Cn : String} {T : u_T} {fs : List Value} {v : Value} (hd : decode (sj_cc M) pc = .ok (.getfield idx, 3)) (ha : ws[q0]? = some (h0, .inr (ci, fs))) (hq : vwCl[ci]? = some (Cn, T, N)) (hk : k9 < N) (hlink : Cond.fieldLink (sj_own M) idx (T k9).1 (T k9).2.1 (T k9).2.2.1 ∈ sj_ws M) (hv : fs[k9]? = some v)
    (k : kj_J l D cs A M p e s m args below meth c rm Z cells slots ws (pc + 3) L (v :: rest)) : kj_J l D cs A M p e s m args below meth c rm Z cells slots ws pc L (.ref h0 :: rest) := by
  intro C H locs ls hP hD hS hl
  have hcw : ∀ w ∈ sj_clw, w.before args s = true := fun w hw => by
    have g := List.all_eq_true.mp sj_clw_good w hw
    simp only [Bool.and_eq_true] at g
    exact va_Nw.use g.2 (C.2.2.2.2.2.2.2.1.2.1 w hw)
  exact va_get C.1 C.2.1 (own := sj_own M) (ref := (T k9).1) (C := Cn) (T := T) (N := N) hcw (sj_cls_in hq) C.2.2.2.1 C.2.2.2.2.2.2.2.1.1 hP q0 ha hq k9 hk (C.2.2.2.2.1 _ hlink) (fun x hx => hx) (v := v) hv hd (k C H locs ls hP hD hS hl)
theorem kj_iald {q0 a n j : Nat} {i x : Int32} {f : Nat → Int32} (hd : decode (sj_cc M) pc = .ok (.iaload, 1)) (ha : ws[q0]? = some (a, .inl (cs 13, n, .inl f))) (hin : vp_in i n) (hj : i.toNatClampNeg = j) (hx : f j = x)
    (k : kj_J l D cs A M p e s m args below meth c rm Z cells slots ws (pc + 1) L (.int x :: rest)) : kj_J l D cs A M p e s m args below meth c rm Z cells slots ws pc L (.int i :: .ref a :: rest) :=
  fun C H locs ls hP hD hS hl => va_iald C.1 C.2.1 C.2.2.2.2.2.2.2.1.1 hP q0 0 ha rfl hin hd (by rw [hj, hx]; exact k C H locs ls hP hD hS hl)
end KR
