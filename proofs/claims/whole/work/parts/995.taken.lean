section ZTK
variable {G : sj_G} {σ : sj_S} {D : zD} {T : Nat → Nat}
set_option maxRecDepth 20000 in
theorem z_taken0 (ok : sj_ok G) (hC : repC D (σ 2)) (v : okD D) (hq : dT D = 1) : fj_C G 10 me_X11_taken [.ref (sj_ad G 0)] σ (.ok (zTkn D), σ) := by
  have h9 := v.1
  refine fj_enter ok (by decide +kernel) rfl rfl (Nat.le_of_ble_eq_true rfl) (by simp [Value.category]) (fun p e s m args below meth c ht hN => ?_)
  have lt := z_lessonTotal (σ := σ) ok
  rw [hC.1] at lt
  have hsum : ∀ n, n ≤ dN D → zSig (fun l => 1 + dDb D l) n < 19 := fun n hn => by
    have := zSig_le (f := fun l => 1 + dDb D l) (b := 2) n (fun i hi => by have := (v.2.2.2.1 i (by omega)).2.2.2.2; omega)
    omega
  unfold fj_J
  refine tj_aload_n dX11_taken_0 (i := 0) rfl rfl ?_
  refine tj_callVv (M' := me_X11_requireTable) (b := 0) (As := []) (rest := []) (fun q _ h => h) (fun q h => h) (fun q h => by cases h) dX11_taken_1 gX11_taken_X11_requireTable rfl hd_X11_requireTable (by decide +kernel) (by decide +kernel) rfl (Nat.le_of_ble_eq_true rfl) ⟨Nat.le_of_ble_eq_true rfl, Nat.le_of_ble_eq_true rfl⟩ rfl ⟨Nat.zero_le _, Nat.zero_le _⟩ (z_requireTable0 ok (hC.2.2.1.trans (by rw [hq]))) ?_
  refine tj_iconst (v := (nI 0)) dX11_taken_4 (by decide +kernel) ?_
  refine tj_istore_n dX11_taken_5 (i := 1) rfl (by decide) ?_
  refine tj_iconst (v := (nI 0)) dX11_taken_6 (by decide +kernel) ?_
  refine tj_istore_n dX11_taken_7 (i := 2) rfl (by decide) ?_
  have loop : ∀ k i, i + k = dN D → fj_J G 10 me_X11_taken (.ok (zTkn D), σ) p e s m args below meth c 8 [.ref (sj_ad G 0), .int (nI (zSig (fun l => 1 + dDb D l) i)), .int (nI i)] σ [] := by
    intro k
    induction k with
    | zero =>
      intro i hi
      obtain rfl : i = dN D := by omega
      unfold fj_J
      refine tj_iload_n dX11_taken_8 (i := 2) rfl rfl ?_
      refine tj_aload_n dX11_taken_9 (i := 0) rfl rfl ?_
      refine tj_get (a := 0) (k9 := 0) (v := .ref (sj_ad G 1)) dX11_taken_10 (by decide +kernel) rfl ?_
      refine tj_callVi (M' := me_X8_lessonTotal) (b := 1) (As := []) (rest := [.int (nI (dN D))]) (fun q _ h => h) (fun q h => h) (fun q h => by cases h) dX11_taken_13 gX11_taken_X8_lessonTotal rfl hd_X8_lessonTotal (by decide +kernel) (by decide +kernel) rfl (Nat.le_of_ble_eq_true rfl) ⟨Nat.le_of_ble_eq_true rfl, Nat.le_of_ble_eq_true rfl⟩ rfl ⟨Nat.zero_le _, Nat.zero_le _⟩ lt ?_
      refine tj_icmp_ge (tgt := 39) dX11_taken_16 (by decide) (fun _ => ?_) (fun q => absurd (nI_le (Nat.le_refl _) (by omega)) q)
      refine tj_iload_n dX11_taken_39 (i := 1) rfl rfl ?_
      refine tj_i2f dX11_taken_40 ?_
      refine tj_ldcwf dX11_taken_41 (List.mem_cons_of_mem _ (List.mem_append_left _ (List.mem_cons_of_mem _ (List.mem_cons_self ..)))) ?_
      refine tj_fdiv dX11_taken_44 (zMeanF_ok _ (hsum _ (Nat.le_refl _))).1 ?_
      exact fj_ret dX11_taken_45 rfl
    | succ k ih =>
      intro i hi
      have hs := hsum i (by omega)
      unfold fj_J
      refine tj_iload_n dX11_taken_8 (i := 2) rfl rfl ?_
      refine tj_aload_n dX11_taken_9 (i := 0) rfl rfl ?_
      refine tj_get (a := 0) (k9 := 0) (v := .ref (sj_ad G 1)) dX11_taken_10 (by decide +kernel) rfl ?_
      refine tj_callVi (M' := me_X8_lessonTotal) (b := 1) (As := []) (rest := [.int (nI i)]) (fun q _ h => h) (fun q h => h) (fun q h => by cases h) dX11_taken_13 gX11_taken_X8_lessonTotal rfl hd_X8_lessonTotal (by decide +kernel) (by decide +kernel) rfl (Nat.le_of_ble_eq_true rfl) ⟨Nat.le_of_ble_eq_true rfl, Nat.le_of_ble_eq_true rfl⟩ rfl ⟨Nat.zero_le _, Nat.zero_le _⟩ lt ?_
      refine tj_icmp_ge (tgt := 39) dX11_taken_16 (by decide) (fun q => absurd q (nI_ge (by omega) (by omega))) (fun _ => ?_)
      refine tj_iload_n dX11_taken_19 (i := 1) rfl rfl ?_
      refine tj_iconst (v := (nI 1)) dX11_taken_20 (by decide +kernel) ?_
      refine tj_aload_n dX11_taken_21 (i := 0) rfl rfl ?_
      refine tj_get (a := 0) (k9 := 0) (v := .ref (sj_ad G 1)) dX11_taken_22 (by decide +kernel) rfl ?_
      refine tj_iload_n dX11_taken_25 (i := 2) rfl rfl ?_
      refine tj_iconst (v := (nI 4)) dX11_taken_26 (by decide +kernel) ?_
      refine tj_callVi (M' := me_X8_ofLesson) (b := 1) (As := [.int (nI i), .int (nI 4)]) (rest := [.int (nI 1), .int (nI (zSig (fun l => 1 + dDb D l) i))]) (fun q _ h => h) (fun q h => h) (fun q h => by cases h) dX11_taken_27 gX11_taken_X8_ofLesson rfl hd_X8_ofLesson (by decide +kernel) (by decide +kernel) rfl (Nat.le_of_ble_eq_true rfl) ⟨Nat.le_of_ble_eq_true rfl, Nat.le_of_ble_eq_true rfl⟩ rfl ⟨Nat.zero_le _, Nat.zero_le _⟩ (z_ofLesson ok (l := i) (k := 4) (by omega) (by omega)) ?_
      rw [(hC.2.2.2.1 i (by omega)).2.2.2.2]
      refine tj_iadd dX11_taken_30 ?_
      refine tj_iadd dX11_taken_31 ?_
      rw [nI_add, nI_add]
      refine tj_istore_n dX11_taken_32 (i := 1) rfl (by decide) ?_
      refine tj_iinc (i := 2) (v := nI (i + 1)) dX11_taken_33 (by decide) rfl (nI_add i 1) ?_
      refine tj_goto (tgt := 8) dX11_taken_36 (by decide) ?_
      exact ih (i + 1) (by omega)
  exact loop (dN D) 0 (by omega)
set_option maxRecDepth 20000 in
theorem z_taken1 (ok : sj_ok G) (h : σ 2 2 = nI 0) : fj_C G 10 me_X11_taken [.ref (sj_ad G 0)] σ (.error 2, σ) := by
  refine fj_enter ok (by decide +kernel) rfl rfl (Nat.le_of_ble_eq_true rfl) (by simp [Value.category]) (fun p e s m args below meth c ht hN => ?_)
  unfold fj_J
  refine tj_aload_n dX11_taken_0 (i := 0) rfl rfl ?_
  exact fj_callVx (M' := me_X11_requireTable) (b := 0) (As := []) (rest := []) ht dX11_taken_1 gX11_taken_X11_requireTable rfl hd_X11_requireTable (by decide +kernel) (by decide +kernel) rfl (Nat.le_of_ble_eq_true rfl) (Nat.le_of_ble_eq_true rfl) rfl (z_requireTable1 ok h)
set_option maxRecDepth 20000 in
theorem y_taken0 (ok : sj_ok G) (hM : repM D (σ 57)) (v : okD D) (hq : dT D = 1) : fj_C G 4 me_X12_taken [.ref (sj_ad G 56)] σ (.ok (zTkn D), sj_st σ 56 0 (nI 0)) := by
  have h9 := v.1
  refine fj_enter ok (by decide +kernel) rfl rfl (Nat.le_of_ble_eq_true rfl) (by simp [Value.category]) (fun p e s m args below meth c ht hN => ?_)
  generalize eτ : sj_st σ 56 0 (nI 0) = τ
  have n57 : τ 57 = σ 57 := by rw [← eτ]; exact z_stn (by decide)
  have n0 : τ 56 0 = 0 := by rw [← eτ, z_ste]; exact nI_0
  have mn := y_many (σ := τ) ok
  rw [n57, hM.1] at mn
  have hsum : ∀ n, n ≤ dN D → zSig (fun l => 1 + dDb D l) n < 19 := fun n hn => by
    have := zSig_le (f := fun l => 1 + dDb D l) (b := 2) n (fun i hi => by have := (v.2.2.2.1 i (by omega)).2.2.2.2; omega)
    omega
  unfold fj_J
  refine tj_aload_n dX12_taken_0 (i := 0) rfl rfl ?_
  refine tj_iconst (v := (nI 0)) dX12_taken_1 (by decide +kernel) ?_
  refine tj_put (a := 56) (k9 := 0) hN rfl (fun q h => h) dX12_taken_2 (by decide +kernel) (by decide +kernel) rfl ?_
  rw [eτ]
  refine tj_aload_n dX12_taken_5 (i := 0) rfl rfl ?_
  refine tj_iconst (v := (nI 1)) dX12_taken_6 (by decide +kernel) ?_
  refine tj_callVi (M' := me_X12_noTable) (b := 56) (As := [.int (nI 1)]) (rest := []) (fun q _ h => h) (fun q h => h) (fun q h => by cases h) dX12_taken_7 gX12_taken_X12_noTable rfl hd_X12_noTable (by decide +kernel) (by decide +kernel) rfl (Nat.le_of_ble_eq_true rfl) ⟨Nat.le_of_ble_eq_true rfl, Nat.le_of_ble_eq_true rfl⟩ rfl ⟨Nat.zero_le _, Nat.zero_le _⟩ (y_noTable0 ok n0 (by rw [n57, hM.2.2.1, hq])) ?_
  refine tj_if_eq (tgt := 15) dX12_taken_10 (by decide) (fun _ => ?_) (fun q => absurd z_00 q)
  refine tj_iconst (v := (nI 0)) dX12_taken_15 (by decide +kernel) ?_
  refine tj_istore_n dX12_taken_16 (i := 1) rfl (by decide) ?_
  refine tj_iconst (v := (nI 0)) dX12_taken_17 (by decide +kernel) ?_
  refine tj_istore_n dX12_taken_18 (i := 2) rfl (by decide) ?_
  have loop : ∀ k i, i + k = dN D → fj_J G 4 me_X12_taken (.ok (zTkn D), τ) p e s m args below meth c 19 [.ref (sj_ad G 56), .int (nI (zSig (fun l => 1 + dDb D l) i)), .int (nI i)] τ [] := by
    intro k
    induction k with
    | zero =>
      intro i hi
      obtain rfl : i = dN D := by omega
      unfold fj_J
      refine tj_iload_n dX12_taken_19 (i := 2) rfl rfl ?_
      refine tj_aload_n dX12_taken_20 (i := 0) rfl rfl ?_
      refine tj_callVi (M' := me_X12_many) (b := 56) (As := []) (rest := [.int (nI (dN D))]) (fun q _ h => h) (fun q h => h) (fun q h => by cases h) dX12_taken_21 gX12_taken_X12_many rfl hd_X12_many (by decide +kernel) (by decide +kernel) rfl (Nat.le_of_ble_eq_true rfl) ⟨Nat.le_of_ble_eq_true rfl, Nat.le_of_ble_eq_true rfl⟩ rfl ⟨Nat.zero_le _, Nat.zero_le _⟩ mn ?_
      refine tj_icmp_ge (tgt := 47) dX12_taken_24 (by decide) (fun _ => ?_) (fun q => absurd (nI_le (Nat.le_refl _) (by omega)) q)
      refine tj_iload_n dX12_taken_47 (i := 1) rfl rfl ?_
      refine tj_i2f dX12_taken_48 ?_
      refine tj_ldcwf dX12_taken_49 (List.mem_cons_of_mem _ (List.mem_append_left _ (List.mem_cons_of_mem _ (List.mem_cons_of_mem _ (List.mem_cons_self ..))))) ?_
      refine tj_fdiv dX12_taken_52 (zMeanF_ok _ (hsum _ (Nat.le_refl _))).1 ?_
      exact fj_ret dX12_taken_53 rfl
    | succ k ih =>
      intro i hi
      have hs := hsum i (by omega)
      unfold fj_J
      refine tj_iload_n dX12_taken_19 (i := 2) rfl rfl ?_
      refine tj_aload_n dX12_taken_20 (i := 0) rfl rfl ?_
      refine tj_callVi (M' := me_X12_many) (b := 56) (As := []) (rest := [.int (nI i)]) (fun q _ h => h) (fun q h => h) (fun q h => by cases h) dX12_taken_21 gX12_taken_X12_many rfl hd_X12_many (by decide +kernel) (by decide +kernel) rfl (Nat.le_of_ble_eq_true rfl) ⟨Nat.le_of_ble_eq_true rfl, Nat.le_of_ble_eq_true rfl⟩ rfl ⟨Nat.zero_le _, Nat.zero_le _⟩ mn ?_
      refine tj_icmp_ge (tgt := 47) dX12_taken_24 (by decide) (fun q => absurd q (nI_ge (by omega) (by omega))) (fun _ => ?_)
      refine tj_iload_n dX12_taken_27 (i := 1) rfl rfl ?_
      refine tj_iconst (v := (nI 1)) dX12_taken_28 (by decide +kernel) ?_
      refine tj_aload_n dX12_taken_29 (i := 0) rfl rfl ?_
      refine tj_get (a := 56) (k9 := 1) (v := .ref (sj_ad G 57)) dX12_taken_30 (by decide +kernel) rfl ?_
      refine tj_bipush (v := (nI 36)) dX12_taken_33 (by decide +kernel) ?_
      refine tj_iload_n dX12_taken_35 (i := 2) rfl rfl ?_
      refine tj_iadd dX12_taken_36 ?_
      rw [nI_add]
      refine tj_iald (a := 57) (j := 36 + i) (x := nI (dDb D i)) dX12_taken_37 rfl (by decide +kernel) (show vp_in (nI (36 + i)) 128 from z_in (by omega) (by decide)) (nI_clamp (by omega)) (by rw [n57]; exact (hM.2.2.2.1 i (by omega)).2.2.2.2) ?_
      refine tj_iadd dX12_taken_38 ?_
      refine tj_iadd dX12_taken_39 ?_
      rw [nI_add, nI_add]
      refine tj_istore_n dX12_taken_40 (i := 1) rfl (by decide) ?_
      refine tj_iinc (i := 2) (v := nI (i + 1)) dX12_taken_41 (by decide) rfl (nI_add i 1) ?_
      refine tj_goto (tgt := 19) dX12_taken_44 (by decide) ?_
      exact ih (i + 1) (by omega)
  exact loop (dN D) 0 (by omega)
set_option maxRecDepth 20000 in
theorem y_taken1 (ok : sj_ok G) (h : σ 57 127 = nI 0) : fj_C G 4 me_X12_taken [.ref (sj_ad G 56)] σ (.ok FP.fconst0, sj_st (sj_st σ 56 0 (nI 0)) 56 0 (nI 1)) := by
  refine fj_enter ok (by decide +kernel) rfl rfl (Nat.le_of_ble_eq_true rfl) (by simp [Value.category]) (fun p e s m args below meth c ht hN => ?_)
  unfold fj_J
  refine tj_aload_n dX12_taken_0 (i := 0) rfl rfl ?_
  refine tj_iconst (v := (nI 0)) dX12_taken_1 (by decide +kernel) ?_
  refine tj_put (a := 56) (k9 := 0) hN rfl (fun q h => h) dX12_taken_2 (by decide +kernel) (by decide +kernel) rfl ?_
  refine tj_aload_n dX12_taken_5 (i := 0) rfl rfl ?_
  refine tj_iconst (v := (nI 1)) dX12_taken_6 (by decide +kernel) ?_
  refine tj_callVi (M' := me_X12_noTable) (b := 56) (As := [.int (nI 1)]) (rest := []) (fun q _ h => h) (fun q h => h) (fun q h => by cases h) dX12_taken_7 gX12_taken_X12_noTable rfl hd_X12_noTable (by decide +kernel) (by decide +kernel) rfl (Nat.le_of_ble_eq_true rfl) ⟨Nat.le_of_ble_eq_true rfl, Nat.le_of_ble_eq_true rfl⟩ rfl ⟨Nat.zero_le _, Nat.zero_le _⟩ (y_noTable1 ok (by rw [z_ste]; exact nI_0) (by rw [z_stn (by decide)]; exact h) (by decide)) ?_
  refine tj_if_eq (tgt := 15) dX12_taken_10 (by decide) (fun q => absurd q z_10) (fun _ => ?_)
  refine tj_fconst0 dX12_taken_13 ?_
  exact fj_ret dX12_taken_14 rfl
/-- meanSlot and taken on both sides -/
def zPaD (G : sj_G) (I : sj_S → Prop) (σ : sj_S) : Prop :=
  ∃ Rc σ1 rm σ2, dj_C G 10 me_X11_meanSlot [.ref (sj_ad G 0)] σ (Rc, σ1) ∧ dj_C G 4 me_X12_meanSlot [.ref (sj_ad G 56)] σ1 (.ok rm, σ2) ∧ (match Rc with
    | .ok v => σ2 56 0 = nI 0 ∧ v = rm ∧ zDok v
    | .error k => k = 2 ∧ σ2 56 0 = nI 1) ∧ I σ2
def zPaF (G : sj_G) (I : sj_S → Prop) (σ : sj_S) : Prop :=
  ∃ Rc σ1 rm σ2, fj_C G 10 me_X11_taken [.ref (sj_ad G 0)] σ (Rc, σ1) ∧ fj_C G 4 me_X12_taken [.ref (sj_ad G 56)] σ1 (.ok rm, σ2) ∧ (match Rc with
    | .ok v => σ2 56 0 = nI 0 ∧ v = rm ∧ vf_n64 (FP.f2d v) ∧ zDok (FP.f2d v)
    | .error k => k = 2 ∧ σ2 56 0 = nI 1) ∧ I σ2
theorem zMean_dok (v : okD D) (hT : ∀ l, l < dN D → T l < 20) : zDok (zMean D T) := by
  unfold zMean
  by_cases n0 : dN D = 0
  · rw [if_pos n0]
    exact zDok_0
  · rw [if_neg n0]
    have h9 := v.1
    have := zSig_le (f := T) (b := 19) (dN D) (fun i hi => by have := hT i hi; omega)
    exact (zMeanD_ok (dN D) (by omega) (by omega) _ (by omega)).2
theorem p_meanSlot (ok : sj_ok G) (h : zA σ) : zPaD G (zI2 σ) σ := by
  obtain ⟨D, T, v, hC, hM, hT⟩ := h.1
  by_cases hq : dT D = 1
  · obtain ⟨hT, -⟩ := hT hq
    exact ⟨_, _, _, _, z_meanSlot0 ok hC v hq (fun l hl => ⟨(hT l hl).1, (hT l hl).2.2⟩), y_meanSlot0 ok hM v hq (fun l hl => (hT l hl).2), ⟨z_ste, rfl, zMean_dok v (fun l hl => (hT l hl).2.2)⟩, zI2_th h⟩
  · have hq := zT_of v hq
    exact ⟨_, _, _, _, z_meanSlot1 ok (hC.2.2.1.trans (by rw [hq])), y_meanSlot1 ok (hM.2.2.1.trans (by rw [hq])), ⟨rfl, z_ste⟩, zI2_th2 h⟩
theorem p_taken (ok : sj_ok G) (h : zA σ) : zPaF G (zI2 σ) σ := by
  obtain ⟨D, T, v, hC, hM, hT⟩ := h.1
  by_cases hq : dT D = 1
  · have h9 := v.1
    have := zSig_le (f := fun l => 1 + dDb D l) (b := 2) (dN D) (fun i hi => by have := (v.2.2.2.1 i (by omega)).2.2.2.2; omega)
    exact ⟨_, _, _, _, z_taken0 ok hC v hq, y_taken0 ok hM v hq, ⟨z_ste, rfl, (zMeanF_ok _ (by omega)).2⟩, zI2_th h⟩
  · have hq := zT_of v hq
    exact ⟨_, _, _, _, z_taken1 ok (hC.2.2.1.trans (by rw [hq])), y_taken1 ok (hM.2.2.1.trans (by rw [hq])), ⟨rfl, z_ste⟩, zI2_th2 h⟩
end ZTK
