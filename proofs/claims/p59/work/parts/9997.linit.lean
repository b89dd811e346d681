/-! P59: THE LAW'S CONSTRUCTOR; its places 0 to 69, 70 the address of its Schoolhours -/
theorem kj_perm {D : va_G} {A : Nat → Prop} {ws ws' : va_W} (f : Nat → Nat) (hf : ∀ (k : Nat) (q : Nat × va_E), ws'[k]? = some q → ws[f k]? = some q) (hi : ∀ i j, f i = f j → i = j) : (∀ H, va_P D vwCl ws H → va_P D vwCl ws' H) ∧ (va_D A ws → va_D A ws') :=
  ⟨fun H h k q hk => h (f k) q (hf k q hk), fun h => ⟨fun i j p q hi' hj' hpq => hi i j (h.1 (f i) (f j) p q (hf i p hi') (hf j q hj') hpq), fun k q hk => h.2 (f k) q (hf k q hk)⟩⟩
theorem kj_rot {D : va_G} {A : Nat → Prop} {x : Nat × va_E} {W1 W2 : va_W} : (∀ H, va_P D vwCl ([x] ++ (W1 ++ W2)) H → va_P D vwCl (W1 ++ ([x] ++ W2)) H) ∧ (va_D A ([x] ++ (W1 ++ W2)) → va_D A (W1 ++ ([x] ++ W2))) := by
  refine kj_perm (fun k => if k < W1.length then k + 1 else if k = W1.length then 0 else k) (fun k q hk => ?_) (fun i j h => ?_)
  · show ([x] ++ (W1 ++ W2))[if k < W1.length then k + 1 else if k = W1.length then 0 else k]? = some q
    by_cases h1 : k < W1.length
    · rw [if_pos h1]
      rw [List.getElem?_append_left h1] at hk
      show (x :: (W1 ++ W2))[k + 1]? = some q
      rw [List.getElem?_cons_succ, List.getElem?_append_left h1]
      exact hk
    · rw [if_neg h1]
      rw [List.getElem?_append_right (by omega)] at hk
      by_cases h2 : k = W1.length
      · rw [if_pos h2]
        rw [h2, Nat.sub_self] at hk
        exact hk
      · rw [if_neg h2]
        obtain ⟨j, rfl⟩ : ∃ j, k = j + 1 := ⟨k - 1, by omega⟩
        show (x :: (W1 ++ W2))[j + 1]? = some q
        rw [List.getElem?_cons_succ, List.getElem?_append_right (by omega)]
        rw [show j + 1 - W1.length = j - W1.length + 1 by omega] at hk
        exact hk
  · have e : ∀ k, (k < W1.length ∧ (if k < W1.length then k + 1 else if k = W1.length then 0 else k) = k + 1) ∨ (k = W1.length ∧ (if k < W1.length then k + 1 else if k = W1.length then 0 else k) = 0) ∨ (W1.length < k ∧ (if k < W1.length then k + 1 else if k = W1.length then 0 else k) = k) := fun k => by
      by_cases h1 : k < W1.length
      · exact Or.inl ⟨h1, if_pos h1⟩
      · by_cases h2 : k = W1.length
        · exact Or.inr (Or.inl ⟨h2, by rw [if_neg h1, if_pos h2]⟩)
        · exact Or.inr (Or.inr ⟨by omega, by rw [if_neg h1, if_neg h2]⟩)
    rcases e i with ⟨a1, b1⟩ | ⟨a1, b1⟩ | ⟨a1, b1⟩ <;> rcases e j with ⟨a2, b2⟩ | ⟨a2, b2⟩ | ⟨a2, b2⟩ <;> (have h' := b1.symm.trans (h.trans b2); omega)
def kj_Q2 (D : va_G) (cs : Nat → ClassId) (h0 sz : Nat) (σ0 : sj_S) : Array Value → State → Outcome → State → Prop := va_Qv (fun ad : Nat → Nat => ad 56 = h0 ∧ ad 70 = ad 0) (fun ad t => va_P D vwCl (kj_sl ad cs σ0 0 70) t.heap ∧ va_D (kj_A h0 sz) (kj_sl ad cs σ0 0 70)) (kj_A h0 sz)
def kj_C2 (l : Launch) (D : va_G) (cs : Nat → ClassId) (M : sj_M) (d mc ms : Nat) (σ0 : sj_S) : Prop :=
  ∀ h0 sz : Nat, Met l (sj_y M) (sj_ws M) (kj_rm d mc ms) (va_Pc [.ref h0] (fun U => U.heap.size = sz ∧ va_P D vwCl [(h0, .inr (sj_lk 56, kj_df 56))] U.heap ∧ kj_K D cs U)) (kj_Q2 D cs h0 sz σ0) mc ms (kj_A h0 sz)
section KJL
variable {l : Launch} {D : va_G} {cs : Nat → ClassId} {A : Nat → Prop} {M : sj_M} {p : Program} {e : Env} {s : State} {m : MethodId} {args : Array Value} {below : List Frame} {meth : Method} {c : Code} {rm : Room} {Z : State → Prop} {cells slots : Nat} {ws : va_W} {pc : Nat} {L st rest : List Value}
theorem kj_ret2 {mc ms h0 : Nat} {σ0 : sj_S} {ad : Nat → Nat} (hd : decode (sj_cc M) pc = .ok (.return_, 1)) (hr : sj_rt M = none) (hA : kj_A h0 s.heap.size = A) (had : ad 56 = h0 ∧ ad 70 = ad 0) (hcP : ∀ H, va_P D vwCl ws H → va_P D vwCl (kj_sl ad cs σ0 0 70) H) (hcD : va_D A ws → va_D A (kj_sl ad cs σ0 0 70)) (hc : cells ≤ mc) (hs : slots ≤ ms) : kj_J l D cs A M p e s m args below meth c rm (MQ below (kj_Q2 D cs h0 s.heap.size σ0) args s mc ms A) cells slots ws pc L [] := by
  intro C H locs ls hP hD hS hl
  subst hA
  refine W.widen hc hs ?_
  refine W.vret C.1 C.2.1 (C.2.2.2.2.2.2.1.trans hr) (fun t ht hW => ?_) hS.2.2 hd C.2.2.2.2.2.1
  exact ⟨⟨ad, rfl, had, by rw [ht]; exact hcP _ hP, hcD hD⟩, hS.F ht⟩
theorem kj_enter2 {d mc ms : Nat} {σ0 : sj_S} {ws' : List Cond} (hy : plainName (sj_y M).cls = true) (hyo : (sj_y M).cls = sj_own M) (hyn : (sj_y M).name = "<init>") (hw : sj_ws M = Cond.code (sj_y M) (sj_cc M) (sj_nL M) none :: ws') (hrt : sj_rt M = none) (hn : 1 ≤ sj_nL M)
    (k : ∀ (h0 : Nat) (p : Program) (e : Env) (s : State) (m : MethodId) (args : Array Value) (below : List Frame) (meth : Method) (c : Code), meth.name = "<init>" → kj_J l D cs (kj_A h0 s.heap.size) M p e s m args below meth c (kj_rm d mc ms) (MQ below (kj_Q2 D cs h0 s.heap.size σ0) args s mc ms (kj_A h0 s.heap.size)) 0 0 [(h0, .inr (sj_lk 56, kj_df 56))] 0 ([Value.ref h0] ++ List.replicate (sj_nL M - 1) .null) []) : kj_C2 l D cs M d mc ms σ0 := by
  intro h0 sz
  refine Met.ofW (cc := sj_cc M) (maxL := sj_nL M) (ret := none) hy hw ?_
  intro p e s m args below meth c s₁ B hml hv
  obtain ⟨rfl, hsz, hP, hK⟩ := hv
  subst hsz
  have hts := atoms_spec (ws := sj_ws M) B.pre
  have hown : s.vm.findClass (sj_own M) = some m.cls := hyo ▸ findClass_of_methodNamed B.named
  have hin : meth.name = "<init>" := (name_of_methodNamed B.named B.method).1.trans hyn
  have hl := sj_lh_entry [.ref h0] (sj_nL M) hn (by simp [Value.category])
  rw [lg_entry_eq]
  exact k h0 p e s m _ below meth c hin ⟨B.exec, B.bytes, hml, hown, hts, B.notSynchronized, B.returns.trans hrt.symm, hK, fun q hq => Or.inr hq⟩ s.heap [] _ hP (kj_D1 (Or.inl rfl)) va_S.rf hl
theorem kj_initI2 {M' : sj_M} {d' mc ms q idx : Nat} {σ0 : sj_S} {ws' : List Cond} (hd : decode (sj_cc M) pc = .ok (.invokespecial idx, 3)) (hG : GoodIn (sj_ws M) (sj_ws M')) (hw : sj_ws M' = Cond.code (sj_y M') (sj_cc M') (sj_nL M') none :: ws') (hlk : Cond.methodLink (sj_own M) idx (sj_y M') ∈ sj_ws M) (hini : Cond.initialized (sj_y M').cls ∈ sj_ws M) (hin : Cond.instanceMethod (sj_y M') ∈ sj_ws M) (hy1 : (sj_y M').name = "<init>") (hdd : (sj_y M').cls ≠ "java/lang/invoke/MethodHandle" ∧ (sj_y M').cls ≠ "java/lang/invoke/VarHandle" ∧ (parseMethodDescriptor (sj_y M').desc).map (fun d => d.parameters.length) = some 0) (hR : d' + 1 ≤ rm.frames ∧ 8 + (sj_nL M' + 11) + 64 * d' ≤ rm.locals) (hcs : cells + mc ≤ rm.cells ∧ slots + ms ≤ rm.slots) (hrs : (rest.map fun v => v.category).sum ≤ 8) (hc : kj_C2 l D cs M' d' mc ms σ0)
    (k : ∀ ad : Nat → Nat, ad 56 = q → ad 70 = ad 0 → kj_J l D cs A M p e s m args below meth c rm Z (cells + mc) (slots + ms) (ws ++ kj_sl ad cs σ0 0 70) (pc + 3) L rest) : kj_J l D cs A M p e s m args below meth c rm Z cells slots (ws ++ [(q, .inr (sj_lk 56, kj_df 56))]) pc L (.ref q :: rest) := by
  intro C H locs ls hP hD hS hl
  have hA : ∀ x : Nat, kj_A q H.size x → A x := by
    intro x h
    rcases h with h | h
    · subst h
      exact hD.2 ws.length (x, .inr (sj_lk 56, kj_df 56)) (by simp)
    · exact C.2.2.2.2.2.2.2.2 x (Nat.le_trans hS.1 h)
  have hP1 := tj_P_r hP
  refine va_callv (a := #[Value.ref q]) (va_runI (As := []) (rest := rest) (b := q) ⟨C.1, C.2.1, C.2.2.1, C.2.2.2.1, C.2.2.2.2.1⟩ (hc q H.size) (cwI 0 C.2.2.2.2.1 hG hw rfl rfl (C.2.2.2.2.1 _ hini) (C.2.2.2.2.1 _ hlk) (C.2.2.2.2.1 _ hin) hy1 hdd hR) ⟨kj_blind, fun U hU hW => ⟨rfl, by rw [hU], by rw [hU]; exact hP1, kj_K_warm hW C.2.2.2.2.2.2.2.1⟩⟩ rfl rfl hl.1 rfl (lv_room hrs) hd hcs) hS (fun x _ h => hA x h) hA (fun ad t H1 locs1 ht hvm hw1 hB hz1 hk1 hS1 => ?_)
  obtain ⟨hP2, hD2⟩ := hB
  obtain ⟨hw1, hw2⟩ := hw1
  rw [ht] at hP2
  obtain ⟨hP3, hD3⟩ := kj_join hP hD hk1 hP2 hD2 hA
  exact k ad hw1 hw2 C H1 locs1 ls hP3 hD3 hS1 hl
end KJL
abbrev me_L_init : sj_M := (yL_init, RL, cL_init, 1, wsL_init, none)
section KJLI
variable {l : Launch} {D : va_G} {cs : Nat → ClassId}
set_option maxRecDepth 20000 in
set_option maxHeartbeats 2000000 in
theorem k_L_init : kj_C2 l D cs me_L_init 5 69 6245 zInit := by
  refine kj_enter2 (by decide +kernel) rfl rfl rfl rfl (Nat.le_of_ble_eq_true rfl) (fun h0 p e s m args below meth c hin => ?_)
  show kj_J l D cs _ _ p e s m args below meth c _ _ 0 0 [(h0, .inr (12, [.int 0, .null, .null, .null, .null, .null, .null, .null, .null, .null, .null, .null, .null, .int 0, .int 0, .null, .null]))] 0 [.ref h0] []
  refine kj_aload_n dL_init_0 (i := 0) rfl rfl ?_
  refine kj_objInit dL_init_1 (by decide +kernel) (by decide +kernel) (by decide +kernel) ⟨Nat.le_of_ble_eq_true rfl, Nat.le_of_ble_eq_true rfl⟩ ?_
  refine kj_aload_n dL_init_4 (i := 0) rfl rfl ?_
  refine kj_new (ci := 11) (fs := kj_df 0) dL_init_5 rfl (by decide +kernel) (by decide +kernel) (by decide +kernel) (by decide +kernel) (Nat.le_of_ble_eq_true rfl) (Nat.le_of_ble_eq_true rfl) (fun x0 => ?_)
  refine kj_dup dL_init_8 rfl ?_
  refine kj_initI (M' := me_X11_init) (d' := 4) (mc := 55) (ms := 6035) (b := 0) (n := 56) (r := 0) (σ0 := zInit) dL_init_9 gL_init_X11_init rfl (by decide +kernel) (by decide +kernel) (by decide +kernel) rfl (by decide +kernel) ⟨Nat.le_of_ble_eq_true rfl, Nat.le_of_ble_eq_true rfl⟩ ⟨Nat.le_of_ble_eq_true rfl, Nat.le_of_ble_eq_true rfl⟩ (Nat.le_of_ble_eq_true rfl) k_X11_init (fun a0 e0 => ?_)
  show kj_J l D cs _ _ p e s m args below meth c _ _ 56 6046 ([(h0, .inr (12, [.int 0, .null, .null, .null, .null, .null, .null, .null, .null, .null, .null, .null, .null, .int 0, .int 0, .null, .null]))] ++ kj_sl a0 cs zInit 0 56) 12 [.ref h0] [.ref x0, .ref h0]
  refine kj_putF (ci := 12) (k9 := 1) (ty := .object "Schoolhours") hin dL_init_12 rfl (by decide +kernel) (by decide +kernel) rfl rfl (by decide +kernel) rfl rfl (Nat.le_of_ble_eq_true rfl) rfl ?_
  show kj_J l D cs _ _ p e s m args below meth c _ _ 56 6046 ([(h0, .inr (12, [.int 0, .ref x0, .null, .null, .null, .null, .null, .null, .null, .null, .null, .null, .null, .int 0, .int 0, .null, .null]))] ++ kj_sl a0 cs zInit 0 56) 15 [.ref h0] []
  refine kj_aload_n dL_init_15 (i := 0) rfl rfl ?_
  refine kj_bipush (v := (nI 9)) dL_init_16 (by decide +kernel) ?_
  refine kj_newa (t0 := 0) (kk := 13) (N := 9) dL_init_18 (by decide +kernel) rfl rfl (by decide +kernel) (by decide +kernel) (Nat.le_of_ble_eq_true rfl) (Nat.le_of_ble_eq_true rfl) (Nat.le_of_ble_eq_true rfl) (fun q0 => ?_)
  show kj_J l D cs _ _ p e s m args below meth c _ _ 57 6055 (([(h0, .inr (12, [.int 0, .ref x0, .null, .null, .null, .null, .null, .null, .null, .null, .null, .null, .null, .int 0, .int 0, .null, .null]))] ++ kj_sl a0 cs zInit 0 56) ++ [(q0, .inl (cs 13, 9, .inl (fun _ => 0)))]) 20 [.ref h0] [.ref q0, .ref h0]
  refine kj_putF (ci := 12) (k9 := 2) (ty := .array .int) hin dL_init_20 rfl (by decide +kernel) (by decide +kernel) rfl rfl (by decide +kernel) rfl rfl (Nat.le_of_ble_eq_true rfl) rfl ?_
  show kj_J l D cs _ _ p e s m args below meth c _ _ 57 6055 (([(h0, .inr (12, [.int 0, .ref x0, .ref q0, .null, .null, .null, .null, .null, .null, .null, .null, .null, .null, .int 0, .int 0, .null, .null]))] ++ kj_sl a0 cs zInit 0 56) ++ [(q0, .inl (cs 13, 9, .inl (fun _ => 0)))]) 23 [.ref h0] []
  refine kj_aload_n dL_init_23 (i := 0) rfl rfl ?_
  refine kj_bipush (v := (nI 9)) dL_init_24 (by decide +kernel) ?_
  refine kj_newa (t0 := 0) (kk := 13) (N := 9) dL_init_26 (by decide +kernel) rfl rfl (by decide +kernel) (by decide +kernel) (Nat.le_of_ble_eq_true rfl) (Nat.le_of_ble_eq_true rfl) (Nat.le_of_ble_eq_true rfl) (fun q1 => ?_)
  show kj_J l D cs _ _ p e s m args below meth c _ _ 58 6064 ((([(h0, .inr (12, [.int 0, .ref x0, .ref q0, .null, .null, .null, .null, .null, .null, .null, .null, .null, .null, .int 0, .int 0, .null, .null]))] ++ kj_sl a0 cs zInit 0 56) ++ [(q0, .inl (cs 13, 9, .inl (fun _ => 0)))]) ++ [(q1, .inl (cs 13, 9, .inl (fun _ => 0)))]) 28 [.ref h0] [.ref q1, .ref h0]
  refine kj_putF (ci := 12) (k9 := 3) (ty := .array .int) hin dL_init_28 rfl (by decide +kernel) (by decide +kernel) rfl rfl (by decide +kernel) rfl rfl (Nat.le_of_ble_eq_true rfl) rfl ?_
  show kj_J l D cs _ _ p e s m args below meth c _ _ 58 6064 ((([(h0, .inr (12, [.int 0, .ref x0, .ref q0, .ref q1, .null, .null, .null, .null, .null, .null, .null, .null, .null, .int 0, .int 0, .null, .null]))] ++ kj_sl a0 cs zInit 0 56) ++ [(q0, .inl (cs 13, 9, .inl (fun _ => 0)))]) ++ [(q1, .inl (cs 13, 9, .inl (fun _ => 0)))]) 31 [.ref h0] []
  refine kj_aload_n dL_init_31 (i := 0) rfl rfl ?_
  refine kj_bipush (v := (nI 9)) dL_init_32 (by decide +kernel) ?_
  refine kj_newa (t0 := 0) (kk := 13) (N := 9) dL_init_34 (by decide +kernel) rfl rfl (by decide +kernel) (by decide +kernel) (Nat.le_of_ble_eq_true rfl) (Nat.le_of_ble_eq_true rfl) (Nat.le_of_ble_eq_true rfl) (fun q2 => ?_)
  show kj_J l D cs _ _ p e s m args below meth c _ _ 59 6073 (((([(h0, .inr (12, [.int 0, .ref x0, .ref q0, .ref q1, .null, .null, .null, .null, .null, .null, .null, .null, .null, .int 0, .int 0, .null, .null]))] ++ kj_sl a0 cs zInit 0 56) ++ [(q0, .inl (cs 13, 9, .inl (fun _ => 0)))]) ++ [(q1, .inl (cs 13, 9, .inl (fun _ => 0)))]) ++ [(q2, .inl (cs 13, 9, .inl (fun _ => 0)))]) 36 [.ref h0] [.ref q2, .ref h0]
  refine kj_putF (ci := 12) (k9 := 4) (ty := .array .int) hin dL_init_36 rfl (by decide +kernel) (by decide +kernel) rfl rfl (by decide +kernel) rfl rfl (Nat.le_of_ble_eq_true rfl) rfl ?_
  show kj_J l D cs _ _ p e s m args below meth c _ _ 59 6073 (((([(h0, .inr (12, [.int 0, .ref x0, .ref q0, .ref q1, .ref q2, .null, .null, .null, .null, .null, .null, .null, .null, .int 0, .int 0, .null, .null]))] ++ kj_sl a0 cs zInit 0 56) ++ [(q0, .inl (cs 13, 9, .inl (fun _ => 0)))]) ++ [(q1, .inl (cs 13, 9, .inl (fun _ => 0)))]) ++ [(q2, .inl (cs 13, 9, .inl (fun _ => 0)))]) 39 [.ref h0] []
  refine kj_aload_n dL_init_39 (i := 0) rfl rfl ?_
  refine kj_bipush (v := (nI 9)) dL_init_40 (by decide +kernel) ?_
  refine kj_newa (t0 := 0) (kk := 13) (N := 9) dL_init_42 (by decide +kernel) rfl rfl (by decide +kernel) (by decide +kernel) (Nat.le_of_ble_eq_true rfl) (Nat.le_of_ble_eq_true rfl) (Nat.le_of_ble_eq_true rfl) (fun q3 => ?_)
  show kj_J l D cs _ _ p e s m args below meth c _ _ 60 6082 ((((([(h0, .inr (12, [.int 0, .ref x0, .ref q0, .ref q1, .ref q2, .null, .null, .null, .null, .null, .null, .null, .null, .int 0, .int 0, .null, .null]))] ++ kj_sl a0 cs zInit 0 56) ++ [(q0, .inl (cs 13, 9, .inl (fun _ => 0)))]) ++ [(q1, .inl (cs 13, 9, .inl (fun _ => 0)))]) ++ [(q2, .inl (cs 13, 9, .inl (fun _ => 0)))]) ++ [(q3, .inl (cs 13, 9, .inl (fun _ => 0)))]) 44 [.ref h0] [.ref q3, .ref h0]
  refine kj_putF (ci := 12) (k9 := 5) (ty := .array .int) hin dL_init_44 rfl (by decide +kernel) (by decide +kernel) rfl rfl (by decide +kernel) rfl rfl (Nat.le_of_ble_eq_true rfl) rfl ?_
  show kj_J l D cs _ _ p e s m args below meth c _ _ 60 6082 ((((([(h0, .inr (12, [.int 0, .ref x0, .ref q0, .ref q1, .ref q2, .ref q3, .null, .null, .null, .null, .null, .null, .null, .int 0, .int 0, .null, .null]))] ++ kj_sl a0 cs zInit 0 56) ++ [(q0, .inl (cs 13, 9, .inl (fun _ => 0)))]) ++ [(q1, .inl (cs 13, 9, .inl (fun _ => 0)))]) ++ [(q2, .inl (cs 13, 9, .inl (fun _ => 0)))]) ++ [(q3, .inl (cs 13, 9, .inl (fun _ => 0)))]) 47 [.ref h0] []
  refine kj_aload_n dL_init_47 (i := 0) rfl rfl ?_
  refine kj_bipush (v := (nI 9)) dL_init_48 (by decide +kernel) ?_
  refine kj_newa (t0 := 0) (kk := 13) (N := 9) dL_init_50 (by decide +kernel) rfl rfl (by decide +kernel) (by decide +kernel) (Nat.le_of_ble_eq_true rfl) (Nat.le_of_ble_eq_true rfl) (Nat.le_of_ble_eq_true rfl) (fun q4 => ?_)
  show kj_J l D cs _ _ p e s m args below meth c _ _ 61 6091 (((((([(h0, .inr (12, [.int 0, .ref x0, .ref q0, .ref q1, .ref q2, .ref q3, .null, .null, .null, .null, .null, .null, .null, .int 0, .int 0, .null, .null]))] ++ kj_sl a0 cs zInit 0 56) ++ [(q0, .inl (cs 13, 9, .inl (fun _ => 0)))]) ++ [(q1, .inl (cs 13, 9, .inl (fun _ => 0)))]) ++ [(q2, .inl (cs 13, 9, .inl (fun _ => 0)))]) ++ [(q3, .inl (cs 13, 9, .inl (fun _ => 0)))]) ++ [(q4, .inl (cs 13, 9, .inl (fun _ => 0)))]) 52 [.ref h0] [.ref q4, .ref h0]
  refine kj_putF (ci := 12) (k9 := 6) (ty := .array .int) hin dL_init_52 rfl (by decide +kernel) (by decide +kernel) rfl rfl (by decide +kernel) rfl rfl (Nat.le_of_ble_eq_true rfl) rfl ?_
  show kj_J l D cs _ _ p e s m args below meth c _ _ 61 6091 (((((([(h0, .inr (12, [.int 0, .ref x0, .ref q0, .ref q1, .ref q2, .ref q3, .ref q4, .null, .null, .null, .null, .null, .null, .int 0, .int 0, .null, .null]))] ++ kj_sl a0 cs zInit 0 56) ++ [(q0, .inl (cs 13, 9, .inl (fun _ => 0)))]) ++ [(q1, .inl (cs 13, 9, .inl (fun _ => 0)))]) ++ [(q2, .inl (cs 13, 9, .inl (fun _ => 0)))]) ++ [(q3, .inl (cs 13, 9, .inl (fun _ => 0)))]) ++ [(q4, .inl (cs 13, 9, .inl (fun _ => 0)))]) 55 [.ref h0] []
  refine kj_aload_n dL_init_55 (i := 0) rfl rfl ?_
  refine kj_bipush (v := (nI 9)) dL_init_56 (by decide +kernel) ?_
  refine kj_newa (t0 := 0) (kk := 13) (N := 9) dL_init_58 (by decide +kernel) rfl rfl (by decide +kernel) (by decide +kernel) (Nat.le_of_ble_eq_true rfl) (Nat.le_of_ble_eq_true rfl) (Nat.le_of_ble_eq_true rfl) (fun q5 => ?_)
  show kj_J l D cs _ _ p e s m args below meth c _ _ 62 6100 ((((((([(h0, .inr (12, [.int 0, .ref x0, .ref q0, .ref q1, .ref q2, .ref q3, .ref q4, .null, .null, .null, .null, .null, .null, .int 0, .int 0, .null, .null]))] ++ kj_sl a0 cs zInit 0 56) ++ [(q0, .inl (cs 13, 9, .inl (fun _ => 0)))]) ++ [(q1, .inl (cs 13, 9, .inl (fun _ => 0)))]) ++ [(q2, .inl (cs 13, 9, .inl (fun _ => 0)))]) ++ [(q3, .inl (cs 13, 9, .inl (fun _ => 0)))]) ++ [(q4, .inl (cs 13, 9, .inl (fun _ => 0)))]) ++ [(q5, .inl (cs 13, 9, .inl (fun _ => 0)))]) 60 [.ref h0] [.ref q5, .ref h0]
  refine kj_putF (ci := 12) (k9 := 7) (ty := .array .int) hin dL_init_60 rfl (by decide +kernel) (by decide +kernel) rfl rfl (by decide +kernel) rfl rfl (Nat.le_of_ble_eq_true rfl) rfl ?_
  show kj_J l D cs _ _ p e s m args below meth c _ _ 62 6100 ((((((([(h0, .inr (12, [.int 0, .ref x0, .ref q0, .ref q1, .ref q2, .ref q3, .ref q4, .ref q5, .null, .null, .null, .null, .null, .int 0, .int 0, .null, .null]))] ++ kj_sl a0 cs zInit 0 56) ++ [(q0, .inl (cs 13, 9, .inl (fun _ => 0)))]) ++ [(q1, .inl (cs 13, 9, .inl (fun _ => 0)))]) ++ [(q2, .inl (cs 13, 9, .inl (fun _ => 0)))]) ++ [(q3, .inl (cs 13, 9, .inl (fun _ => 0)))]) ++ [(q4, .inl (cs 13, 9, .inl (fun _ => 0)))]) ++ [(q5, .inl (cs 13, 9, .inl (fun _ => 0)))]) 63 [.ref h0] []
  refine kj_aload_n dL_init_63 (i := 0) rfl rfl ?_
  refine kj_bipush (v := (nI 12)) dL_init_64 (by decide +kernel) ?_
  refine kj_newa (t0 := 0) (kk := 13) (N := 12) dL_init_66 (by decide +kernel) rfl rfl (by decide +kernel) (by decide +kernel) (Nat.le_of_ble_eq_true rfl) (Nat.le_of_ble_eq_true rfl) (Nat.le_of_ble_eq_true rfl) (fun q6 => ?_)
  show kj_J l D cs _ _ p e s m args below meth c _ _ 63 6112 (((((((([(h0, .inr (12, [.int 0, .ref x0, .ref q0, .ref q1, .ref q2, .ref q3, .ref q4, .ref q5, .null, .null, .null, .null, .null, .int 0, .int 0, .null, .null]))] ++ kj_sl a0 cs zInit 0 56) ++ [(q0, .inl (cs 13, 9, .inl (fun _ => 0)))]) ++ [(q1, .inl (cs 13, 9, .inl (fun _ => 0)))]) ++ [(q2, .inl (cs 13, 9, .inl (fun _ => 0)))]) ++ [(q3, .inl (cs 13, 9, .inl (fun _ => 0)))]) ++ [(q4, .inl (cs 13, 9, .inl (fun _ => 0)))]) ++ [(q5, .inl (cs 13, 9, .inl (fun _ => 0)))]) ++ [(q6, .inl (cs 13, 12, .inl (fun _ => 0)))]) 68 [.ref h0] [.ref q6, .ref h0]
  refine kj_putF (ci := 12) (k9 := 8) (ty := .array .int) hin dL_init_68 rfl (by decide +kernel) (by decide +kernel) rfl rfl (by decide +kernel) rfl rfl (Nat.le_of_ble_eq_true rfl) rfl ?_
  show kj_J l D cs _ _ p e s m args below meth c _ _ 63 6112 (((((((([(h0, .inr (12, [.int 0, .ref x0, .ref q0, .ref q1, .ref q2, .ref q3, .ref q4, .ref q5, .ref q6, .null, .null, .null, .null, .int 0, .int 0, .null, .null]))] ++ kj_sl a0 cs zInit 0 56) ++ [(q0, .inl (cs 13, 9, .inl (fun _ => 0)))]) ++ [(q1, .inl (cs 13, 9, .inl (fun _ => 0)))]) ++ [(q2, .inl (cs 13, 9, .inl (fun _ => 0)))]) ++ [(q3, .inl (cs 13, 9, .inl (fun _ => 0)))]) ++ [(q4, .inl (cs 13, 9, .inl (fun _ => 0)))]) ++ [(q5, .inl (cs 13, 9, .inl (fun _ => 0)))]) ++ [(q6, .inl (cs 13, 12, .inl (fun _ => 0)))]) 71 [.ref h0] []
  refine kj_aload_n dL_init_71 (i := 0) rfl rfl ?_
  refine kj_bipush (v := (nI 12)) dL_init_72 (by decide +kernel) ?_
  refine kj_newa (t0 := 0) (kk := 13) (N := 12) dL_init_74 (by decide +kernel) rfl rfl (by decide +kernel) (by decide +kernel) (Nat.le_of_ble_eq_true rfl) (Nat.le_of_ble_eq_true rfl) (Nat.le_of_ble_eq_true rfl) (fun q7 => ?_)
  show kj_J l D cs _ _ p e s m args below meth c _ _ 64 6124 ((((((((([(h0, .inr (12, [.int 0, .ref x0, .ref q0, .ref q1, .ref q2, .ref q3, .ref q4, .ref q5, .ref q6, .null, .null, .null, .null, .int 0, .int 0, .null, .null]))] ++ kj_sl a0 cs zInit 0 56) ++ [(q0, .inl (cs 13, 9, .inl (fun _ => 0)))]) ++ [(q1, .inl (cs 13, 9, .inl (fun _ => 0)))]) ++ [(q2, .inl (cs 13, 9, .inl (fun _ => 0)))]) ++ [(q3, .inl (cs 13, 9, .inl (fun _ => 0)))]) ++ [(q4, .inl (cs 13, 9, .inl (fun _ => 0)))]) ++ [(q5, .inl (cs 13, 9, .inl (fun _ => 0)))]) ++ [(q6, .inl (cs 13, 12, .inl (fun _ => 0)))]) ++ [(q7, .inl (cs 13, 12, .inl (fun _ => 0)))]) 76 [.ref h0] [.ref q7, .ref h0]
  refine kj_putF (ci := 12) (k9 := 9) (ty := .array .int) hin dL_init_76 rfl (by decide +kernel) (by decide +kernel) rfl rfl (by decide +kernel) rfl rfl (Nat.le_of_ble_eq_true rfl) rfl ?_
  show kj_J l D cs _ _ p e s m args below meth c _ _ 64 6124 ((((((((([(h0, .inr (12, [.int 0, .ref x0, .ref q0, .ref q1, .ref q2, .ref q3, .ref q4, .ref q5, .ref q6, .ref q7, .null, .null, .null, .int 0, .int 0, .null, .null]))] ++ kj_sl a0 cs zInit 0 56) ++ [(q0, .inl (cs 13, 9, .inl (fun _ => 0)))]) ++ [(q1, .inl (cs 13, 9, .inl (fun _ => 0)))]) ++ [(q2, .inl (cs 13, 9, .inl (fun _ => 0)))]) ++ [(q3, .inl (cs 13, 9, .inl (fun _ => 0)))]) ++ [(q4, .inl (cs 13, 9, .inl (fun _ => 0)))]) ++ [(q5, .inl (cs 13, 9, .inl (fun _ => 0)))]) ++ [(q6, .inl (cs 13, 12, .inl (fun _ => 0)))]) ++ [(q7, .inl (cs 13, 12, .inl (fun _ => 0)))]) 79 [.ref h0] []
  refine kj_aload_n dL_init_79 (i := 0) rfl rfl ?_
  refine kj_bipush (v := (nI 12)) dL_init_80 (by decide +kernel) ?_
  refine kj_newa (t0 := 0) (kk := 13) (N := 12) dL_init_82 (by decide +kernel) rfl rfl (by decide +kernel) (by decide +kernel) (Nat.le_of_ble_eq_true rfl) (Nat.le_of_ble_eq_true rfl) (Nat.le_of_ble_eq_true rfl) (fun q8 => ?_)
  show kj_J l D cs _ _ p e s m args below meth c _ _ 65 6136 (((((((((([(h0, .inr (12, [.int 0, .ref x0, .ref q0, .ref q1, .ref q2, .ref q3, .ref q4, .ref q5, .ref q6, .ref q7, .null, .null, .null, .int 0, .int 0, .null, .null]))] ++ kj_sl a0 cs zInit 0 56) ++ [(q0, .inl (cs 13, 9, .inl (fun _ => 0)))]) ++ [(q1, .inl (cs 13, 9, .inl (fun _ => 0)))]) ++ [(q2, .inl (cs 13, 9, .inl (fun _ => 0)))]) ++ [(q3, .inl (cs 13, 9, .inl (fun _ => 0)))]) ++ [(q4, .inl (cs 13, 9, .inl (fun _ => 0)))]) ++ [(q5, .inl (cs 13, 9, .inl (fun _ => 0)))]) ++ [(q6, .inl (cs 13, 12, .inl (fun _ => 0)))]) ++ [(q7, .inl (cs 13, 12, .inl (fun _ => 0)))]) ++ [(q8, .inl (cs 13, 12, .inl (fun _ => 0)))]) 84 [.ref h0] [.ref q8, .ref h0]
  refine kj_putF (ci := 12) (k9 := 10) (ty := .array .int) hin dL_init_84 rfl (by decide +kernel) (by decide +kernel) rfl rfl (by decide +kernel) rfl rfl (Nat.le_of_ble_eq_true rfl) rfl ?_
  show kj_J l D cs _ _ p e s m args below meth c _ _ 65 6136 (((((((((([(h0, .inr (12, [.int 0, .ref x0, .ref q0, .ref q1, .ref q2, .ref q3, .ref q4, .ref q5, .ref q6, .ref q7, .ref q8, .null, .null, .int 0, .int 0, .null, .null]))] ++ kj_sl a0 cs zInit 0 56) ++ [(q0, .inl (cs 13, 9, .inl (fun _ => 0)))]) ++ [(q1, .inl (cs 13, 9, .inl (fun _ => 0)))]) ++ [(q2, .inl (cs 13, 9, .inl (fun _ => 0)))]) ++ [(q3, .inl (cs 13, 9, .inl (fun _ => 0)))]) ++ [(q4, .inl (cs 13, 9, .inl (fun _ => 0)))]) ++ [(q5, .inl (cs 13, 9, .inl (fun _ => 0)))]) ++ [(q6, .inl (cs 13, 12, .inl (fun _ => 0)))]) ++ [(q7, .inl (cs 13, 12, .inl (fun _ => 0)))]) ++ [(q8, .inl (cs 13, 12, .inl (fun _ => 0)))]) 87 [.ref h0] []
  refine kj_aload_n dL_init_87 (i := 0) rfl rfl ?_
  refine kj_bipush (v := (nI 12)) dL_init_88 (by decide +kernel) ?_
  refine kj_newa (t0 := 0) (kk := 13) (N := 12) dL_init_90 (by decide +kernel) rfl rfl (by decide +kernel) (by decide +kernel) (Nat.le_of_ble_eq_true rfl) (Nat.le_of_ble_eq_true rfl) (Nat.le_of_ble_eq_true rfl) (fun q9 => ?_)
  show kj_J l D cs _ _ p e s m args below meth c _ _ 66 6148 ((((((((((([(h0, .inr (12, [.int 0, .ref x0, .ref q0, .ref q1, .ref q2, .ref q3, .ref q4, .ref q5, .ref q6, .ref q7, .ref q8, .null, .null, .int 0, .int 0, .null, .null]))] ++ kj_sl a0 cs zInit 0 56) ++ [(q0, .inl (cs 13, 9, .inl (fun _ => 0)))]) ++ [(q1, .inl (cs 13, 9, .inl (fun _ => 0)))]) ++ [(q2, .inl (cs 13, 9, .inl (fun _ => 0)))]) ++ [(q3, .inl (cs 13, 9, .inl (fun _ => 0)))]) ++ [(q4, .inl (cs 13, 9, .inl (fun _ => 0)))]) ++ [(q5, .inl (cs 13, 9, .inl (fun _ => 0)))]) ++ [(q6, .inl (cs 13, 12, .inl (fun _ => 0)))]) ++ [(q7, .inl (cs 13, 12, .inl (fun _ => 0)))]) ++ [(q8, .inl (cs 13, 12, .inl (fun _ => 0)))]) ++ [(q9, .inl (cs 13, 12, .inl (fun _ => 0)))]) 92 [.ref h0] [.ref q9, .ref h0]
  refine kj_putF (ci := 12) (k9 := 11) (ty := .array .int) hin dL_init_92 rfl (by decide +kernel) (by decide +kernel) rfl rfl (by decide +kernel) rfl rfl (Nat.le_of_ble_eq_true rfl) rfl ?_
  show kj_J l D cs _ _ p e s m args below meth c _ _ 66 6148 ((((((((((([(h0, .inr (12, [.int 0, .ref x0, .ref q0, .ref q1, .ref q2, .ref q3, .ref q4, .ref q5, .ref q6, .ref q7, .ref q8, .ref q9, .null, .int 0, .int 0, .null, .null]))] ++ kj_sl a0 cs zInit 0 56) ++ [(q0, .inl (cs 13, 9, .inl (fun _ => 0)))]) ++ [(q1, .inl (cs 13, 9, .inl (fun _ => 0)))]) ++ [(q2, .inl (cs 13, 9, .inl (fun _ => 0)))]) ++ [(q3, .inl (cs 13, 9, .inl (fun _ => 0)))]) ++ [(q4, .inl (cs 13, 9, .inl (fun _ => 0)))]) ++ [(q5, .inl (cs 13, 9, .inl (fun _ => 0)))]) ++ [(q6, .inl (cs 13, 12, .inl (fun _ => 0)))]) ++ [(q7, .inl (cs 13, 12, .inl (fun _ => 0)))]) ++ [(q8, .inl (cs 13, 12, .inl (fun _ => 0)))]) ++ [(q9, .inl (cs 13, 12, .inl (fun _ => 0)))]) 95 [.ref h0] []
  refine kj_aload_n dL_init_95 (i := 0) rfl rfl ?_
  refine kj_iconst (v := (nI 3)) dL_init_96 (by decide +kernel) ?_
  refine kj_newa (t0 := 0) (kk := 13) (N := 3) dL_init_97 (by decide +kernel) rfl rfl (by decide +kernel) (by decide +kernel) (Nat.le_of_ble_eq_true rfl) (Nat.le_of_ble_eq_true rfl) (Nat.le_of_ble_eq_true rfl) (fun q10 => ?_)
  show kj_J l D cs _ _ p e s m args below meth c _ _ 67 6151 (((((((((((([(h0, .inr (12, [.int 0, .ref x0, .ref q0, .ref q1, .ref q2, .ref q3, .ref q4, .ref q5, .ref q6, .ref q7, .ref q8, .ref q9, .null, .int 0, .int 0, .null, .null]))] ++ kj_sl a0 cs zInit 0 56) ++ [(q0, .inl (cs 13, 9, .inl (fun _ => 0)))]) ++ [(q1, .inl (cs 13, 9, .inl (fun _ => 0)))]) ++ [(q2, .inl (cs 13, 9, .inl (fun _ => 0)))]) ++ [(q3, .inl (cs 13, 9, .inl (fun _ => 0)))]) ++ [(q4, .inl (cs 13, 9, .inl (fun _ => 0)))]) ++ [(q5, .inl (cs 13, 9, .inl (fun _ => 0)))]) ++ [(q6, .inl (cs 13, 12, .inl (fun _ => 0)))]) ++ [(q7, .inl (cs 13, 12, .inl (fun _ => 0)))]) ++ [(q8, .inl (cs 13, 12, .inl (fun _ => 0)))]) ++ [(q9, .inl (cs 13, 12, .inl (fun _ => 0)))]) ++ [(q10, .inl (cs 13, 3, .inl (fun _ => 0)))]) 99 [.ref h0] [.ref q10, .ref h0]
  refine kj_putF (ci := 12) (k9 := 12) (ty := .array .int) hin dL_init_99 rfl (by decide +kernel) (by decide +kernel) rfl rfl (by decide +kernel) rfl rfl (Nat.le_of_ble_eq_true rfl) rfl ?_
  show kj_J l D cs _ _ p e s m args below meth c _ _ 67 6151 (((((((((((([(h0, .inr (12, [.int 0, .ref x0, .ref q0, .ref q1, .ref q2, .ref q3, .ref q4, .ref q5, .ref q6, .ref q7, .ref q8, .ref q9, .ref q10, .int 0, .int 0, .null, .null]))] ++ kj_sl a0 cs zInit 0 56) ++ [(q0, .inl (cs 13, 9, .inl (fun _ => 0)))]) ++ [(q1, .inl (cs 13, 9, .inl (fun _ => 0)))]) ++ [(q2, .inl (cs 13, 9, .inl (fun _ => 0)))]) ++ [(q3, .inl (cs 13, 9, .inl (fun _ => 0)))]) ++ [(q4, .inl (cs 13, 9, .inl (fun _ => 0)))]) ++ [(q5, .inl (cs 13, 9, .inl (fun _ => 0)))]) ++ [(q6, .inl (cs 13, 12, .inl (fun _ => 0)))]) ++ [(q7, .inl (cs 13, 12, .inl (fun _ => 0)))]) ++ [(q8, .inl (cs 13, 12, .inl (fun _ => 0)))]) ++ [(q9, .inl (cs 13, 12, .inl (fun _ => 0)))]) ++ [(q10, .inl (cs 13, 3, .inl (fun _ => 0)))]) 102 [.ref h0] []
  refine kj_aload_n dL_init_102 (i := 0) rfl rfl ?_
  refine kj_bipush (v := (nI 30)) dL_init_103 (by decide +kernel) ?_
  refine kj_newa (t0 := 1) (kk := 14) (N := 30) dL_init_105 (by decide +kernel) rfl rfl (by decide +kernel) (by decide +kernel) (Nat.le_of_ble_eq_true rfl) (Nat.le_of_ble_eq_true rfl) (Nat.le_of_ble_eq_true rfl) (fun q11 => ?_)
  show kj_J l D cs _ _ p e s m args below meth c _ _ 68 6181 ((((((((((((([(h0, .inr (12, [.int 0, .ref x0, .ref q0, .ref q1, .ref q2, .ref q3, .ref q4, .ref q5, .ref q6, .ref q7, .ref q8, .ref q9, .ref q10, .int 0, .int 0, .null, .null]))] ++ kj_sl a0 cs zInit 0 56) ++ [(q0, .inl (cs 13, 9, .inl (fun _ => 0)))]) ++ [(q1, .inl (cs 13, 9, .inl (fun _ => 0)))]) ++ [(q2, .inl (cs 13, 9, .inl (fun _ => 0)))]) ++ [(q3, .inl (cs 13, 9, .inl (fun _ => 0)))]) ++ [(q4, .inl (cs 13, 9, .inl (fun _ => 0)))]) ++ [(q5, .inl (cs 13, 9, .inl (fun _ => 0)))]) ++ [(q6, .inl (cs 13, 12, .inl (fun _ => 0)))]) ++ [(q7, .inl (cs 13, 12, .inl (fun _ => 0)))]) ++ [(q8, .inl (cs 13, 12, .inl (fun _ => 0)))]) ++ [(q9, .inl (cs 13, 12, .inl (fun _ => 0)))]) ++ [(q10, .inl (cs 13, 3, .inl (fun _ => 0)))]) ++ [(q11, .inl (cs 14, 30, .inl (fun _ => 0)))]) 107 [.ref h0] [.ref q11, .ref h0]
  refine kj_putF (ci := 12) (k9 := 15) (ty := .array .boolean) hin dL_init_107 rfl (by decide +kernel) (by decide +kernel) rfl rfl (by decide +kernel) rfl rfl (Nat.le_of_ble_eq_true rfl) rfl ?_
  show kj_J l D cs _ _ p e s m args below meth c _ _ 68 6181 ((((((((((((([(h0, .inr (12, [.int 0, .ref x0, .ref q0, .ref q1, .ref q2, .ref q3, .ref q4, .ref q5, .ref q6, .ref q7, .ref q8, .ref q9, .ref q10, .int 0, .int 0, .ref q11, .null]))] ++ kj_sl a0 cs zInit 0 56) ++ [(q0, .inl (cs 13, 9, .inl (fun _ => 0)))]) ++ [(q1, .inl (cs 13, 9, .inl (fun _ => 0)))]) ++ [(q2, .inl (cs 13, 9, .inl (fun _ => 0)))]) ++ [(q3, .inl (cs 13, 9, .inl (fun _ => 0)))]) ++ [(q4, .inl (cs 13, 9, .inl (fun _ => 0)))]) ++ [(q5, .inl (cs 13, 9, .inl (fun _ => 0)))]) ++ [(q6, .inl (cs 13, 12, .inl (fun _ => 0)))]) ++ [(q7, .inl (cs 13, 12, .inl (fun _ => 0)))]) ++ [(q8, .inl (cs 13, 12, .inl (fun _ => 0)))]) ++ [(q9, .inl (cs 13, 12, .inl (fun _ => 0)))]) ++ [(q10, .inl (cs 13, 3, .inl (fun _ => 0)))]) ++ [(q11, .inl (cs 14, 30, .inl (fun _ => 0)))]) 110 [.ref h0] []
  refine kj_aload_n dL_init_110 (i := 0) rfl rfl ?_
  refine kj_bipush (v := (nI 64)) dL_init_111 (by decide +kernel) ?_
  refine kj_newa (t0 := 1) (kk := 14) (N := 64) dL_init_113 (by decide +kernel) rfl rfl (by decide +kernel) (by decide +kernel) (Nat.le_of_ble_eq_true rfl) (Nat.le_of_ble_eq_true rfl) (Nat.le_of_ble_eq_true rfl) (fun q12 => ?_)
  show kj_J l D cs _ _ p e s m args below meth c _ _ 69 6245 (((((((((((((([(h0, .inr (12, [.int 0, .ref x0, .ref q0, .ref q1, .ref q2, .ref q3, .ref q4, .ref q5, .ref q6, .ref q7, .ref q8, .ref q9, .ref q10, .int 0, .int 0, .ref q11, .null]))] ++ kj_sl a0 cs zInit 0 56) ++ [(q0, .inl (cs 13, 9, .inl (fun _ => 0)))]) ++ [(q1, .inl (cs 13, 9, .inl (fun _ => 0)))]) ++ [(q2, .inl (cs 13, 9, .inl (fun _ => 0)))]) ++ [(q3, .inl (cs 13, 9, .inl (fun _ => 0)))]) ++ [(q4, .inl (cs 13, 9, .inl (fun _ => 0)))]) ++ [(q5, .inl (cs 13, 9, .inl (fun _ => 0)))]) ++ [(q6, .inl (cs 13, 12, .inl (fun _ => 0)))]) ++ [(q7, .inl (cs 13, 12, .inl (fun _ => 0)))]) ++ [(q8, .inl (cs 13, 12, .inl (fun _ => 0)))]) ++ [(q9, .inl (cs 13, 12, .inl (fun _ => 0)))]) ++ [(q10, .inl (cs 13, 3, .inl (fun _ => 0)))]) ++ [(q11, .inl (cs 14, 30, .inl (fun _ => 0)))]) ++ [(q12, .inl (cs 14, 64, .inl (fun _ => 0)))]) 115 [.ref h0] [.ref q12, .ref h0]
  refine kj_putF (ci := 12) (k9 := 16) (ty := .array .boolean) hin dL_init_115 rfl (by decide +kernel) (by decide +kernel) rfl rfl (by decide +kernel) rfl rfl (Nat.le_of_ble_eq_true rfl) rfl ?_
  show kj_J l D cs _ _ p e s m args below meth c _ _ 69 6245 (((((((((((((([(h0, .inr (12, [.int 0, .ref x0, .ref q0, .ref q1, .ref q2, .ref q3, .ref q4, .ref q5, .ref q6, .ref q7, .ref q8, .ref q9, .ref q10, .int 0, .int 0, .ref q11, .ref q12]))] ++ kj_sl a0 cs zInit 0 56) ++ [(q0, .inl (cs 13, 9, .inl (fun _ => 0)))]) ++ [(q1, .inl (cs 13, 9, .inl (fun _ => 0)))]) ++ [(q2, .inl (cs 13, 9, .inl (fun _ => 0)))]) ++ [(q3, .inl (cs 13, 9, .inl (fun _ => 0)))]) ++ [(q4, .inl (cs 13, 9, .inl (fun _ => 0)))]) ++ [(q5, .inl (cs 13, 9, .inl (fun _ => 0)))]) ++ [(q6, .inl (cs 13, 12, .inl (fun _ => 0)))]) ++ [(q7, .inl (cs 13, 12, .inl (fun _ => 0)))]) ++ [(q8, .inl (cs 13, 12, .inl (fun _ => 0)))]) ++ [(q9, .inl (cs 13, 12, .inl (fun _ => 0)))]) ++ [(q10, .inl (cs 13, 3, .inl (fun _ => 0)))]) ++ [(q11, .inl (cs 14, 30, .inl (fun _ => 0)))]) ++ [(q12, .inl (cs 14, 64, .inl (fun _ => 0)))]) 118 [.ref h0] []
  subst e0
  obtain ⟨ad, had⟩ : ∃ ad : Nat → Nat, ∀ p, ad p = (if p < 56 then a0 p else if p = 56 then h0 else if p = 57 then q0 else if p = 58 then q1 else if p = 59 then q2 else if p = 60 then q3 else if p = 61 then q4 else if p = 62 then q5 else if p = 63 then q6 else if p = 64 then q7 else if p = 65 then q8 else if p = 66 then q9 else if p = 67 then q10 else if p = 68 then q11 else if p = 69 then q12 else a0 0) := ⟨fun p => _, fun p => rfl⟩
  have g0 : kj_sl a0 cs zInit 0 56 = kj_sl ad cs zInit 0 56 := kj_sl_congr (by decide +kernel) (fun k hk => by rw [had, if_pos (by omega)])
  have r0 : a0 0 = ad 0 := by rw [had]; rfl
  have r56 : h0 = ad 56 := by rw [had]; rfl
  have r70 : ad 70 = ad 0 := by rw [had, had]; rfl
  have r57 : q0 = ad 57 := by rw [had]; rfl
  have r58 : q1 = ad 58 := by rw [had]; rfl
  have r59 : q2 = ad 59 := by rw [had]; rfl
  have r60 : q3 = ad 60 := by rw [had]; rfl
  have r61 : q4 = ad 61 := by rw [had]; rfl
  have r62 : q5 = ad 62 := by rw [had]; rfl
  have r63 : q6 = ad 63 := by rw [had]; rfl
  have r64 : q7 = ad 64 := by rw [had]; rfl
  have r65 : q8 = ad 65 := by rw [had]; rfl
  have r66 : q9 = ad 66 := by rw [had]; rfl
  have r67 : q10 = ad 67 := by rw [had]; rfl
  have r68 : q11 = ad 68 := by rw [had]; rfl
  have r69 : q12 = ad 69 := by rw [had]; rfl
  have ew : ∀ x : Nat × va_E, (([x] ++ kj_sl ad cs zInit 0 56) ++ [(ad 57, .inl (cs 13, 9, .inl (fun _ => 0)))] ++ [(ad 58, .inl (cs 13, 9, .inl (fun _ => 0)))] ++ [(ad 59, .inl (cs 13, 9, .inl (fun _ => 0)))] ++ [(ad 60, .inl (cs 13, 9, .inl (fun _ => 0)))] ++ [(ad 61, .inl (cs 13, 9, .inl (fun _ => 0)))] ++ [(ad 62, .inl (cs 13, 9, .inl (fun _ => 0)))] ++ [(ad 63, .inl (cs 13, 12, .inl (fun _ => 0)))] ++ [(ad 64, .inl (cs 13, 12, .inl (fun _ => 0)))] ++ [(ad 65, .inl (cs 13, 12, .inl (fun _ => 0)))] ++ [(ad 66, .inl (cs 13, 12, .inl (fun _ => 0)))] ++ [(ad 67, .inl (cs 13, 3, .inl (fun _ => 0)))] ++ [(ad 68, .inl (cs 14, 30, .inl (fun _ => 0)))] ++ [(ad 69, .inl (cs 14, 64, .inl (fun _ => 0)))]) = [x] ++ (kj_sl ad cs zInit 0 56 ++ kj_sl ad cs zInit 57 13) := by
    intro x
    simp only [List.append_assoc]
    rfl
  have et9 : kj_sl ad cs zInit 0 56 ++ ([(ad 56, .inr (12, [.int 0, .ref (ad 70), .ref (ad 57), .ref (ad 58), .ref (ad 59), .ref (ad 60), .ref (ad 61), .ref (ad 62), .ref (ad 63), .ref (ad 64), .ref (ad 65), .ref (ad 66), .ref (ad 67), .int 0, .int 0, .ref (ad 68), .ref (ad 69)]))] ++ kj_sl ad cs zInit 57 13) = kj_sl ad cs zInit 0 (56 + (1 + 13)) := by
    have e56 : [(ad 56, .inr (12, [.int 0, .ref (ad 70), .ref (ad 57), .ref (ad 58), .ref (ad 59), .ref (ad 60), .ref (ad 61), .ref (ad 62), .ref (ad 63), .ref (ad 64), .ref (ad 65), .ref (ad 66), .ref (ad 67), .int 0, .int 0, .ref (ad 68), .ref (ad 69)]))] = kj_sl ad cs zInit 56 1 := rfl
    rw [e56, kj_sl_ap (by decide), kj_sl_ap (by decide)]
  have et : kj_sl ad cs zInit 0 56 ++ ([(ad 56, .inr (12, [.int 0, .ref (ad 70), .ref (ad 57), .ref (ad 58), .ref (ad 59), .ref (ad 60), .ref (ad 61), .ref (ad 62), .ref (ad 63), .ref (ad 64), .ref (ad 65), .ref (ad 66), .ref (ad 67), .int 0, .int 0, .ref (ad 68), .ref (ad 69)]))] ++ kj_sl ad cs zInit 57 13) = kj_sl ad cs zInit 0 70 := et9
  have rot := kj_rot (D := D) (A := kj_A h0 s.heap.size) (x := (ad 56, .inr (12, [.int 0, .ref (ad 70), .ref (ad 57), .ref (ad 58), .ref (ad 59), .ref (ad 60), .ref (ad 61), .ref (ad 62), .ref (ad 63), .ref (ad 64), .ref (ad 65), .ref (ad 66), .ref (ad 67), .int 0, .int 0, .ref (ad 68), .ref (ad 69)]))) (W1 := kj_sl ad cs zInit 0 56) (W2 := kj_sl ad cs zInit 57 13)
  rw [et] at rot
  rw [g0, r0, r57, r58, r59, r60, r61, r62, r63, r64, r65, r66, r67, r68, r69]
  rw [← r70]
  refine kj_drop (ws' := kj_sl ad cs zInit 0 70) (fun H h => rot.1 H ?_) (fun h => rot.2 ?_) ?_
  · rw [← ew, ← r56]; exact h
  · rw [← ew, ← r56]; exact h
  · exact kj_ret2 (ad := ad) dL_init_118 rfl rfl ⟨r56.symm, r70⟩ (fun _ h => h) (fun h => h) (Nat.le_of_ble_eq_true rfl) (Nat.le_of_ble_eq_true rfl)
end KJLI
