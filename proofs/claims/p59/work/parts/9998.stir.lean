/-! P59: the script is stirred into one number -/
section KST
variable {l : Launch} {D : va_G} {cs : Nat → ClassId} {A : Nat → Prop} {M : sj_M} {p : Program} {e : Env} {s : State} {m : MethodId} {args : Array Value} {below : List Frame} {meth : Method} {c : Code} {rm : Room} {Z : State → Prop} {cells slots : Nat} {ws : va_W} {pc : Nat} {L st rest : List Value}
theorem kj_ldcw {idx : Nat} {v : Int32} (hd : decode (sj_cc M) pc = .ok (.ldc_w idx, 3)) (hw : Cond.constant (sj_own M) idx v ∈ sj_ws M) (k : kj_J l D cs A M p e s m args below meth c rm Z cells slots ws (pc + 3) L (.int v :: rest)) : kj_J l D cs A M p e s m args below meth c rm Z cells slots ws pc L rest :=
  fun C H locs ls hP hD hS hl => lv_ldcw C.1 C.2.1 C.2.2.2.1 (C.2.2.2.2.1 _ hw) hd (k C H locs ls hP hD hS hl)
theorem kj_slen {b Ls : Nat} {xs : Nat → Int32} (hX : va_X b Ls xs s s.heap) (hb : b < s.heap.size) (hbA : ¬ A b) (hd : decode (sj_cc M) pc = .ok (.arraylength, 1)) (k : kj_J l D cs A M p e s m args below meth c rm Z cells slots ws (pc + 1) L (.int (nI Ls) :: rest)) : kj_J l D cs A M p e s m args below meth c rm Z cells slots ws pc L (.ref b :: rest) :=
  fun C H locs ls hP hD hS hl => va_slen C.1 C.2.1 hX hb hbA hS hd (k C H locs ls hP hD hS hl)
theorem kj_sld {b Ls i : Nat} {xs : Nat → Int32} (hX : va_X b Ls xs s s.heap) (hb : b < s.heap.size) (hbA : ¬ A b) (hi : i < Ls) (hL : Ls < 2 ^ 31) (hd : decode (sj_cc M) pc = .ok (.iaload, 1)) (k : kj_J l D cs A M p e s m args below meth c rm Z cells slots ws (pc + 1) L (.int (xs i) :: rest)) : kj_J l D cs A M p e s m args below meth c rm Z cells slots ws pc L (.int (nI i) :: .ref b :: rest) := by
  intro C H locs ls hP hD hS hl
  refine va_sld C.1 C.2.1 hX hb hbA hS (z_in hi hL) hd ?_
  rw [nI_clamp (by omega)]
  exact k C H locs ls hP hD hS hl
end KST
def sC (l : Launch) (D : va_G) (cs : Nat → ClassId) (b Ls : Nat) (xs : Nat → Int32) : Prop := ∀ sz : Nat, vx_Met l yL_stirred wsL_stirred (kj_rm 1 0 0) (va_Pc [.ref b] (fun U => U.heap.size = sz ∧ va_X b Ls xs U U.heap ∧ b < sz ∧ kj_K D cs U)) (va_Qi (fun (_ : Int32) (_ : Unit) => True) (fun _ _ => True) (fun x => sz ≤ x)) lj_X 0 0 (fun x => sz ≤ x)
theorem sC_blind {D : va_G} {cs : Nat → ClassId} {av : List Value} {sz b Ls : Nat} {xs : Nat → Int32} : FrameBlind (va_Pc av (fun U => U.heap.size = sz ∧ va_X b Ls xs U U.heap ∧ b < sz ∧ kj_K D cs U)) := fun a U g mk q => ⟨q.1, q.2.1, va_X.moved (u := U) (U := U.calling g mk a) (Vm.Alike.refl U.vm) q.2.2.1, q.2.2.2.1, kj_K_calling q.2.2.2.2⟩
set_option maxRecDepth 20000 in
theorem l_stirred {l : Launch} {D : va_G} {cs : Nat → ClassId} {b Ls : Nat} {xs : Nat → Int32} (hL : Ls ≤ 260) : sC l D cs b Ls xs := by
  intro sz
  refine vx_ofW (cc := sj_cc me_L_stirred) (maxL := sj_nL me_L_stirred) (ret := sj_rt me_L_stirred) (by decide +kernel) rfl ?_
  intro p e s m args below meth c s₁ B hml ht hv
  obtain ⟨rfl, hsz, hX, hb, hK⟩ := hv
  subst hsz
  have hts := atoms_spec (ws := sj_ws me_L_stirred) B.pre
  have hown : s.vm.findClass (sj_own me_L_stirred) = some m.cls := findClass_of_methodNamed B.named
  have hl := sj_lh_entry [.ref b] (sj_nL me_L_stirred) (Nat.le_of_ble_eq_true rfl) (by simp [Value.category])
  rw [lg_entry_eq]
  have hbA : ¬ (fun x : Nat => s.heap.size ≤ x) b := fun h => absurd (show s.heap.size ≤ b from h) (by omega)
  refine (?_ : kj_J l D cs (fun x => s.heap.size ≤ x) me_L_stirred p e s m _ below meth c (kj_rm 1 0 0) (vx_MQ below (va_Qi (fun (_ : Int32) (_ : Unit) => True) (fun _ _ => True) (fun x => s.heap.size ≤ x)) lj_X _ s 0 0 (fun x => s.heap.size ≤ x)) 0 0 [] 0 ([Value.ref b] ++ List.replicate 5 .null) []) ⟨B.exec, B.bytes, hml, hown, hts, B.notSynchronized, B.returns, hK, fun q hq => hq⟩ s.heap [] _ (fun k q h => by simp at h) ⟨fun i j p q h => by simp at h, fun k q h => by simp at h⟩ va_S.rf hl
  have loop : ∀ j i (v : Int32), i + j = Ls → kj_J l D cs (fun x => s.heap.size ≤ x) me_L_stirred p e s m [Value.ref b].toArray below meth c (kj_rm 1 0 0) (vx_MQ below (va_Qi (fun (_ : Int32) (_ : Unit) => True) (fun _ _ => True) (fun x => s.heap.size ≤ x)) lj_X [Value.ref b].toArray s 0 0 (fun x => s.heap.size ≤ x)) 0 0 [] 12 [.ref b, .int v, .ref b, .int (nI Ls), .int (nI i), .null] [] := by
    intro j
    induction j with
    | zero =>
      intro i v hi
      obtain rfl : i = Ls := by omega
      refine kj_iload dL_stirred_12 rfl ?_
      refine kj_iload_n dL_stirred_14 (i := 3) rfl rfl ?_
      refine kj_icmp_ge (tgt := 49) dL_stirred_15 (by decide) (fun _ => ?_) (fun q => absurd (nI_le (Nat.le_refl _) (by omega)) q)
      refine kj_iload_n dL_stirred_49 (i := 1) rfl rfl ?_
      intro C H locs ls hP hD hS hl
      refine vx_ret ?_
      refine W.iret C.1 C.2.1 (C.2.2.2.2.2.2.1.trans rfl) (fun t ht hW => ?_) hS.2.2 dL_stirred_50 C.2.2.2.2.2.1
      exact ⟨⟨v, (), rfl, trivial, trivial⟩, hS.F ht⟩
    | succ j ih =>
      intro i v hi
      refine kj_iload dL_stirred_12 rfl ?_
      refine kj_iload_n dL_stirred_14 (i := 3) rfl rfl ?_
      refine kj_icmp_ge (tgt := 49) dL_stirred_15 (by decide) (fun q => absurd q (nI_ge (by omega) (by omega))) (fun _ => ?_)
      refine kj_aload_n dL_stirred_18 (i := 2) rfl rfl ?_
      refine kj_iload dL_stirred_19 rfl ?_
      refine kj_sld hX hb hbA (by omega) (by omega) dL_stirred_21 ?_
      refine kj_istore dL_stirred_22 (by decide) ?_
      refine kj_iload_n dL_stirred_24 (i := 1) rfl rfl ?_
      refine kj_iload dL_stirred_25 rfl ?_
      refine kj_ixor dL_stirred_27 ?_
      refine kj_ldc (v := nI 1103515245) dL_stirred_28 (by decide +kernel) ?_
      refine kj_imul dL_stirred_30 ?_
      refine kj_sipush (v := nI 12345) dL_stirred_31 (by decide +kernel) ?_
      refine kj_iadd dL_stirred_34 ?_
      refine kj_istore_n dL_stirred_35 (i := 1) rfl (by decide) ?_
      refine kj_iload_n dL_stirred_36 (i := 1) rfl rfl ?_
      refine kj_iload_n dL_stirred_37 (i := 1) rfl rfl ?_
      refine kj_bipush (v := nI 15) dL_stirred_38 (by decide +kernel) ?_
      refine kj_iushr dL_stirred_40 ?_
      refine kj_ixor dL_stirred_41 ?_
      refine kj_istore_n dL_stirred_42 (i := 1) rfl (by decide) ?_
      refine kj_iinc (v := nI (i + 1)) dL_stirred_43 (by decide) rfl (by rw [show Int32.ofInt 1 = nI 1 by decide, nI_add]) ?_
      refine kj_goto (tgt := 12) dL_stirred_46 (by decide) ?_
      exact kj_fg [5] (ih (i + 1) _ (by omega))
  refine kj_ldcw (v := nI 59420) dL_stirred_0 (by decide +kernel) ?_
  refine kj_istore_n dL_stirred_3 (i := 1) rfl (by decide) ?_
  refine kj_aload_n dL_stirred_4 (i := 0) rfl rfl ?_
  refine kj_astore_n dL_stirred_5 (i := 2) rfl (by decide) ?_
  refine kj_aload_n dL_stirred_6 (i := 2) rfl rfl ?_
  refine kj_slen hX hb hbA dL_stirred_7 ?_
  refine kj_istore_n dL_stirred_8 (i := 3) rfl (by decide) ?_
  refine kj_iconst (v := nI 0) dL_stirred_9 (by decide +kernel) ?_
  refine kj_istore dL_stirred_10 (by decide) ?_
  exact loop Ls 0 (nI 59420) (by omega)
section KSC
variable {l : Launch} {D : va_G} {cs : Nat → ClassId} {A : Nat → Prop} {M : sj_M} {p : Program} {e : Env} {s : State} {m : MethodId} {args : Array Value} {below : List Frame} {meth : Method} {c : Code} {rm : Room} {Z : State → Prop} {cells slots : Nat} {ws : va_W} {pc : Nat} {L st rest : List Value}
theorem kj_callStir {idx b Ls : Nat} {xs : Nat → Int32} {ws' : List Cond} (hX : va_X b Ls xs s s.heap) (hb : b < s.heap.size) (hbA : ¬ A b) (hL : Ls ≤ 260) (hd : decode (sj_cc M) pc = .ok (.invokestatic idx, 3)) (hg : GoodIn (sj_ws M) (va_wsS (sj_own M) idx (sj_y me_L_stirred) (sj_ws me_L_stirred))) (hw : sj_ws me_L_stirred = Cond.code (sj_y me_L_stirred) (sj_cc me_L_stirred) (sj_nL me_L_stirred) (sj_rt me_L_stirred) :: ws') (hrs : (rest.map fun v => v.category).sum ≤ 8) (hdd : 2 ≤ rm.frames ∧ 128 ≤ rm.locals) (hcl : cells ≤ rm.cells ∧ slots ≤ rm.slots)
    (k : ∀ r : Int32, kj_J l D cs A M p e s m args below meth c rm Z cells slots ws (pc + 3) L (.int r :: rest)) : kj_J l D cs A M p e s m args below meth c rm Z cells slots ws pc L (.ref b :: rest) := by
  intro C H locs ls hP hD hS hl
  have hh := hd_L_stirred
  unfold sj_hd at hh
  simp only [Bool.and_eq_true, decide_eq_true_eq] at hh
  have hXH : ∀ U : State, s.WarmedH U.vm → U.heap = H → va_X b Ls xs U U.heap := fun U hW hU => by
    rw [hU]
    exact va_X.moved hW.alike (hX.kept (hS.2.1 b hb hbA))
  have hr : vx_Run p l e rm s m args below meth c H locs cells slots 0 0 (F0 m pc ls (([Value.ref b] : List Value).reverse ++ rest)) rest (va_Qi (fun (_ : Int32) (_ : Unit) => True) (fun _ _ => True) (fun x => H.size ≤ x) ([Value.ref b] : List Value).toArray) lj_X (fun x => H.size ≤ x) := by
    refine vx_runS (rest := rest) ⟨C.1, C.2.1, C.2.2.1, C.2.2.2.1, C.2.2.2.2.1⟩ (l_stirred (l := l) (D := D) (cs := cs) (b := b) (Ls := Ls) (xs := xs) hL H.size) (va_cwS 1 C.2.2.2.2.1 hg hw rfl rfl ⟨hh.1.1.1.2, hh.1.1.2, hh.1.2⟩ ⟨?_, ?_⟩) ⟨sC_blind, fun U hU hW => ⟨rfl, by rw [hU], hXH U hW hU, Nat.lt_of_lt_of_le hb hS.1, kj_K_warm hW C.2.2.2.2.2.2.2.1⟩⟩ rfl rfl hl.1 rfl (lv_room hrs) hd ⟨?_, ?_⟩
    · exact hdd.1
    · show 8 + (6 + 11) + 64 * 1 ≤ rm.locals
      have := hdd.2
      omega
    · show cells + 0 ≤ rm.cells
      omega
    · show slots + 0 ≤ rm.slots
      omega
  refine vx_calli (a := ([Value.ref b] : List Value).toArray) hr hS (fun q h1 h2 => absurd (show H.size ≤ q from h2) (Nat.not_le_of_lt h1)) (fun q h => C.2.2.2.2.2.2.2.2 q (Nat.le_trans hS.1 h)) (fun q _ h => h.elim) (fun E ce q9 u t H1 locs1 ht hvm hpx hBX hz hk hS1 hce hcv hcl => hpx.elim) (fun r9 u t H1 locs1 ht hvm hpost hB hz hk hS1 => ?_)
  have hP1 : va_P D vwCl ws H1 := hP.kept (fun k x hx => hk x.1 ((hP k x hx).lt) (fun h => absurd (show H.size ≤ x.1 from h) (Nat.not_le_of_lt ((hP k x hx).lt))))
  exact k r9 C H1 locs1 ls hP1 hD hS1 hl
end KSC
