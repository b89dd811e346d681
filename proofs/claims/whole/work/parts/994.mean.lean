/-! meanSlot and taken -/
def zSig (f : Nat → Nat) : Nat → Nat
  | 0 => 0
  | n + 1 => zSig f n + f n
theorem zSig_le {f : Nat → Nat} {b : Nat} : ∀ n, (∀ i, i < n → f i ≤ b) → zSig f n ≤ b * n := by
  intro n
  induction n with
  | zero => intro _; exact Nat.zero_le _
  | succ n ih =>
    intro h
    have h1 := ih (fun i hi => h i (by omega))
    have h2 := h n (by omega)
    show zSig f n + f n ≤ b * (n + 1)
    rw [Nat.mul_add, Nat.mul_one]
    omega
def zMeanD (s n : Nat) : UInt64 := FP.ddiv (FP.i2d (nI s)) (FP.i2d (nI n))
def zMeanF (s : Nat) : UInt32 := FP.fdiv (FP.i2f (nI s)) 1117782016
def zDok (x : UInt64) : Prop := Op.cmpValue (FP.dcmp x x) .l = 0
theorem zMeanD_ok : ∀ n, n < 10 → 0 < n → ∀ s, s < 172 → vf_n64 (zMeanD s n) ∧ zDok (zMeanD s n) := by unfold vf_n64 zDok zMeanD; decide +kernel
theorem zMeanF_ok : ∀ s, s < 19 → vf_n32 (zMeanF s) ∧ vf_n64 (FP.f2d (zMeanF s)) ∧ zDok (FP.f2d (zMeanF s)) := by unfold vf_n32 vf_n64 zDok zMeanF; decide +kernel
theorem zDok_0 : zDok FP.dconst0 := by unfold zDok; decide +kernel
def zMean (D : zD) (T : Nat → Nat) : UInt64 := if dN D = 0 then FP.dconst0 else zMeanD (zSig T (dN D)) (dN D)
def zTkn (D : zD) : UInt32 := zMeanF (zSig (fun l => 1 + dDb D l) (dN D))
section ZMN
variable {G : sj_G} {σ : sj_S} {D : zD} {T : Nat → Nat}
set_option maxRecDepth 20000 in
theorem z_meanSlot0 (ok : sj_ok G) (hC : repC D (σ 2)) (v : okD D) (hq : dT D = 1) (hT : repT (dN D) T (σ 3)) : dj_C G 10 me_X11_meanSlot [.ref (sj_ad G 0)] σ (.ok (zMean D T), σ) := by
  have h9 := v.1
  refine dj_enter ok (by decide +kernel) rfl rfl (Nat.le_of_ble_eq_true rfl) (by simp [Value.category]) (fun p e s m args below meth c ht hN => ?_)
  have lt := z_lessonTotal (σ := σ) ok
  rw [hC.1] at lt
  have hsum : ∀ n, n ≤ dN D → zSig T n < 172 := fun n hn => by
    have := zSig_le (f := T) (b := 19) n (fun i hi => by have := (hT i (by omega)).2; omega)
    omega
  unfold dj_J
  refine tj_aload_n dX11_meanSlot_0 (i := 0) rfl rfl ?_
  refine tj_callVv (M' := me_X11_requireTable) (b := 0) (As := []) (rest := []) (fun q _ h => h) (fun q h => h) (fun q h => by cases h) dX11_meanSlot_1 gX11_meanSlot_X11_requireTable rfl hd_X11_requireTable (by decide +kernel) (by decide +kernel) rfl (Nat.le_of_ble_eq_true rfl) ⟨Nat.le_of_ble_eq_true rfl, Nat.le_of_ble_eq_true rfl⟩ rfl ⟨Nat.zero_le _, Nat.zero_le _⟩ (z_requireTable0 ok (hC.2.2.1.trans (by rw [hq]))) ?_
  refine tj_iconst (v := (nI 0)) dX11_meanSlot_4 (by decide +kernel) ?_
  refine tj_istore_n dX11_meanSlot_5 (i := 1) rfl (by decide) ?_
  refine tj_iconst (v := (nI 0)) dX11_meanSlot_6 (by decide +kernel) ?_
  refine tj_istore_n dX11_meanSlot_7 (i := 2) rfl (by decide) ?_
  have loop : ∀ k i, i + k = dN D → dj_J G 10 me_X11_meanSlot (.ok (zMean D T), σ) p e s m args below meth c 8 [.ref (sj_ad G 0), .int (nI (zSig T i)), .int (nI i)] σ [] := by
    intro k
    induction k with
    | zero =>
      intro i hi
      obtain rfl : i = dN D := by omega
      unfold dj_J
      refine tj_iload_n dX11_meanSlot_8 (i := 2) rfl rfl ?_
      refine tj_aload_n dX11_meanSlot_9 (i := 0) rfl rfl ?_
      refine tj_get (a := 0) (k9 := 0) (v := .ref (sj_ad G 1)) dX11_meanSlot_10 (by decide +kernel) rfl ?_
      refine tj_callVi (M' := me_X8_lessonTotal) (b := 1) (As := []) (rest := [.int (nI (dN D))]) (fun q _ h => h) (fun q h => h) (fun q h => by cases h) dX11_meanSlot_13 gX11_meanSlot_X8_lessonTotal rfl hd_X8_lessonTotal (by decide +kernel) (by decide +kernel) rfl (Nat.le_of_ble_eq_true rfl) ⟨Nat.le_of_ble_eq_true rfl, Nat.le_of_ble_eq_true rfl⟩ rfl ⟨Nat.zero_le _, Nat.zero_le _⟩ lt ?_
      refine tj_icmp_ge (tgt := 37) dX11_meanSlot_16 (by decide) (fun _ => ?_) (fun q => absurd (nI_le (Nat.le_refl _) (by omega)) q)
      refine tj_aload_n dX11_meanSlot_37 (i := 0) rfl rfl ?_
      refine tj_get (a := 0) (k9 := 0) (v := .ref (sj_ad G 1)) dX11_meanSlot_38 (by decide +kernel) rfl ?_
      refine tj_callVi (M' := me_X8_lessonTotal) (b := 1) (As := []) (rest := []) (fun q _ h => h) (fun q h => h) (fun q h => by cases h) dX11_meanSlot_41 gX11_meanSlot_X8_lessonTotal rfl hd_X8_lessonTotal (by decide +kernel) (by decide +kernel) rfl (Nat.le_of_ble_eq_true rfl) ⟨Nat.le_of_ble_eq_true rfl, Nat.le_of_ble_eq_true rfl⟩ rfl ⟨Nat.zero_le _, Nat.zero_le _⟩ lt ?_
      refine tj_if_ne (tgt := 51) dX11_meanSlot_44 (by decide) (fun q => ?_) (fun q => ?_)
      · have n0 : dN D ≠ 0 := fun x => q (by rw [x]; exact nI_0)
        have hz : zMean D T = zMeanD (zSig T (dN D)) (dN D) := if_neg n0
        rw [hz]
        refine tj_iload_n dX11_meanSlot_51 (i := 1) rfl rfl ?_
        refine tj_i2d dX11_meanSlot_52 ?_
        refine tj_aload_n dX11_meanSlot_53 (i := 0) rfl rfl ?_
        refine tj_get (a := 0) (k9 := 0) (v := .ref (sj_ad G 1)) dX11_meanSlot_54 (by decide +kernel) rfl ?_
        refine tj_callVi (M' := me_X8_lessonTotal) (b := 1) (As := []) (rest := [.double (FP.i2d (nI (zSig T (dN D))))]) (fun q _ h => h) (fun q h => h) (fun q h => by cases h) dX11_meanSlot_57 gX11_meanSlot_X8_lessonTotal rfl hd_X8_lessonTotal (by decide +kernel) (by decide +kernel) rfl (Nat.le_of_ble_eq_true rfl) ⟨Nat.le_of_ble_eq_true rfl, Nat.le_of_ble_eq_true rfl⟩ rfl ⟨Nat.zero_le _, Nat.zero_le _⟩ lt ?_
        refine tj_i2d dX11_meanSlot_60 ?_
        refine tj_ddiv dX11_meanSlot_61 (zMeanD_ok (dN D) (by omega) (by omega) _ (hsum _ (Nat.le_refl _))).1 ?_
        exact dj_ret dX11_meanSlot_62 rfl
      · have n0 : dN D = 0 := by rw [z_eq0 (by omega)] at q; exact q
        have hz : zMean D T = FP.dconst0 := if_pos n0
        rw [hz]
        refine tj_dconst0 dX11_meanSlot_47 ?_
        refine tj_goto (tgt := 62) dX11_meanSlot_48 (by decide) ?_
        exact dj_ret dX11_meanSlot_62 rfl
    | succ k ih =>
      intro i hi
      have hs := hsum i (by omega)
      unfold dj_J
      refine tj_iload_n dX11_meanSlot_8 (i := 2) rfl rfl ?_
      refine tj_aload_n dX11_meanSlot_9 (i := 0) rfl rfl ?_
      refine tj_get (a := 0) (k9 := 0) (v := .ref (sj_ad G 1)) dX11_meanSlot_10 (by decide +kernel) rfl ?_
      refine tj_callVi (M' := me_X8_lessonTotal) (b := 1) (As := []) (rest := [.int (nI i)]) (fun q _ h => h) (fun q h => h) (fun q h => by cases h) dX11_meanSlot_13 gX11_meanSlot_X8_lessonTotal rfl hd_X8_lessonTotal (by decide +kernel) (by decide +kernel) rfl (Nat.le_of_ble_eq_true rfl) ⟨Nat.le_of_ble_eq_true rfl, Nat.le_of_ble_eq_true rfl⟩ rfl ⟨Nat.zero_le _, Nat.zero_le _⟩ lt ?_
      refine tj_icmp_ge (tgt := 37) dX11_meanSlot_16 (by decide) (fun q => absurd q (nI_ge (by omega) (by omega))) (fun _ => ?_)
      refine tj_iload_n dX11_meanSlot_19 (i := 1) rfl rfl ?_
      refine tj_aload_n dX11_meanSlot_20 (i := 0) rfl rfl ?_
      refine tj_get (a := 0) (k9 := 0) (v := .ref (sj_ad G 1)) dX11_meanSlot_21 (by decide +kernel) rfl ?_
      refine tj_get (a := 1) (k9 := 1) (v := .ref (sj_ad G 3)) dX11_meanSlot_24 (by decide +kernel) rfl ?_
      refine tj_iload_n dX11_meanSlot_27 (i := 2) rfl rfl ?_
      refine tj_iald (a := 3) (j := i) (x := nI (T i)) dX11_meanSlot_28 rfl (by decide +kernel) (show vp_in (nI i) 9 from z_in (by omega) (by decide)) (nI_clamp (by omega)) (hT i (by omega)).1 ?_
      refine tj_iadd dX11_meanSlot_29 ?_
      rw [nI_add]
      refine tj_istore_n dX11_meanSlot_30 (i := 1) rfl (by decide) ?_
      refine tj_iinc (i := 2) (v := nI (i + 1)) dX11_meanSlot_31 (by decide) rfl (nI_add i 1) ?_
      refine tj_goto (tgt := 8) dX11_meanSlot_34 (by decide) ?_
      exact ih (i + 1) (by omega)
  exact loop (dN D) 0 (by omega)
set_option maxRecDepth 20000 in
theorem z_meanSlot1 (ok : sj_ok G) (h : σ 2 2 = nI 0) : dj_C G 10 me_X11_meanSlot [.ref (sj_ad G 0)] σ (.error 2, σ) := by
  refine dj_enter ok (by decide +kernel) rfl rfl (Nat.le_of_ble_eq_true rfl) (by simp [Value.category]) (fun p e s m args below meth c ht hN => ?_)
  unfold dj_J
  refine tj_aload_n dX11_meanSlot_0 (i := 0) rfl rfl ?_
  exact dj_callVx (M' := me_X11_requireTable) (b := 0) (As := []) (rest := []) ht dX11_meanSlot_1 gX11_meanSlot_X11_requireTable rfl hd_X11_requireTable (by decide +kernel) (by decide +kernel) rfl (Nat.le_of_ble_eq_true rfl) (Nat.le_of_ble_eq_true rfl) rfl (z_requireTable1 ok h)
set_option maxRecDepth 20000 in
theorem y_meanSlot0 (ok : sj_ok G) (hM : repM D (σ 57)) (v : okD D) (hq : dT D = 1) (hT : ∀ l, l < dN D → σ 57 (116 + l) = nI (T l) ∧ T l < 20) : dj_C G 4 me_X12_meanSlot [.ref (sj_ad G 56)] σ (.ok (zMean D T), sj_st σ 56 0 (nI 0)) := by
  have h9 := v.1
  refine dj_enter ok (by decide +kernel) rfl rfl (Nat.le_of_ble_eq_true rfl) (by simp [Value.category]) (fun p e s m args below meth c ht hN => ?_)
  generalize eτ : sj_st σ 56 0 (nI 0) = τ
  have n57 : τ 57 = σ 57 := by rw [← eτ]; exact z_stn (by decide)
  have n0 : τ 56 0 = 0 := by rw [← eτ, z_ste]; exact nI_0
  have mn := y_many (σ := τ) ok
  rw [n57, hM.1] at mn
  have hsum : ∀ n, n ≤ dN D → zSig T n < 172 := fun n hn => by
    have := zSig_le (f := T) (b := 19) n (fun i hi => by have := (hT i (by omega)).2; omega)
    omega
  unfold dj_J
  refine tj_aload_n dX12_meanSlot_0 (i := 0) rfl rfl ?_
  refine tj_iconst (v := (nI 0)) dX12_meanSlot_1 (by decide +kernel) ?_
  refine tj_put (a := 56) (k9 := 0) hN rfl (fun q h => h) dX12_meanSlot_2 (by decide +kernel) (by decide +kernel) rfl ?_
  rw [eτ]
  refine tj_aload_n dX12_meanSlot_5 (i := 0) rfl rfl ?_
  refine tj_iconst (v := (nI 1)) dX12_meanSlot_6 (by decide +kernel) ?_
  refine tj_callVi (M' := me_X12_noTable) (b := 56) (As := [.int (nI 1)]) (rest := []) (fun q _ h => h) (fun q h => h) (fun q h => by cases h) dX12_meanSlot_7 gX12_meanSlot_X12_noTable rfl hd_X12_noTable (by decide +kernel) (by decide +kernel) rfl (Nat.le_of_ble_eq_true rfl) ⟨Nat.le_of_ble_eq_true rfl, Nat.le_of_ble_eq_true rfl⟩ rfl ⟨Nat.zero_le _, Nat.zero_le _⟩ (y_noTable0 ok n0 (by rw [n57, hM.2.2.1, hq])) ?_
  refine tj_if_ne (tgt := 20) dX12_meanSlot_10 (by decide) (fun q => absurd z_00 q) (fun _ => ?_)
  refine tj_aload_n dX12_meanSlot_13 (i := 0) rfl rfl ?_
  refine tj_callVi (M' := me_X12_many) (b := 56) (As := []) (rest := []) (fun q _ h => h) (fun q h => h) (fun q h => by cases h) dX12_meanSlot_14 gX12_meanSlot_X12_many rfl hd_X12_many (by decide +kernel) (by decide +kernel) rfl (Nat.le_of_ble_eq_true rfl) ⟨Nat.le_of_ble_eq_true rfl, Nat.le_of_ble_eq_true rfl⟩ rfl ⟨Nat.zero_le _, Nat.zero_le _⟩ mn ?_
  refine tj_if_ne (tgt := 22) dX12_meanSlot_17 (by decide) (fun q => ?_) (fun q => ?_)
  · have n0 : dN D ≠ 0 := fun x => q (by rw [x]; exact nI_0)
    have hz : zMean D T = zMeanD (zSig T (dN D)) (dN D) := if_neg n0
    rw [hz]
    refine tj_iconst (v := (nI 0)) dX12_meanSlot_22 (by decide +kernel) ?_
    refine tj_istore_n dX12_meanSlot_23 (i := 1) rfl (by decide) ?_
    refine tj_iconst (v := (nI 0)) dX12_meanSlot_24 (by decide +kernel) ?_
    refine tj_istore_n dX12_meanSlot_25 (i := 2) rfl (by decide) ?_
    have loop : ∀ k i, i + k = dN D → dj_J G 4 me_X12_meanSlot (.ok (zMeanD (zSig T (dN D)) (dN D)), τ) p e s m args below meth c 26 [.ref (sj_ad G 56), .int (nI (zSig T i)), .int (nI i)] τ [] := by
      intro k
      induction k with
      | zero =>
        intro i hi
        obtain rfl : i = dN D := by omega
        unfold dj_J
        refine tj_iload_n dX12_meanSlot_26 (i := 2) rfl rfl ?_
        refine tj_aload_n dX12_meanSlot_27 (i := 0) rfl rfl ?_
        refine tj_callVi (M' := me_X12_many) (b := 56) (As := []) (rest := [.int (nI (dN D))]) (fun q _ h => h) (fun q h => h) (fun q h => by cases h) dX12_meanSlot_28 gX12_meanSlot_X12_many rfl hd_X12_many (by decide +kernel) (by decide +kernel) rfl (Nat.le_of_ble_eq_true rfl) ⟨Nat.le_of_ble_eq_true rfl, Nat.le_of_ble_eq_true rfl⟩ rfl ⟨Nat.zero_le _, Nat.zero_le _⟩ mn ?_
        refine tj_icmp_ge (tgt := 52) dX12_meanSlot_31 (by decide) (fun _ => ?_) (fun q => absurd (nI_le (Nat.le_refl _) (by omega)) q)
        refine tj_iload_n dX12_meanSlot_52 (i := 1) rfl rfl ?_
        refine tj_i2d dX12_meanSlot_53 ?_
        refine tj_aload_n dX12_meanSlot_54 (i := 0) rfl rfl ?_
        refine tj_callVi (M' := me_X12_many) (b := 56) (As := []) (rest := [.double (FP.i2d (nI (zSig T (dN D))))]) (fun q _ h => h) (fun q h => h) (fun q h => by cases h) dX12_meanSlot_55 gX12_meanSlot_X12_many rfl hd_X12_many (by decide +kernel) (by decide +kernel) rfl (Nat.le_of_ble_eq_true rfl) ⟨Nat.le_of_ble_eq_true rfl, Nat.le_of_ble_eq_true rfl⟩ rfl ⟨Nat.zero_le _, Nat.zero_le _⟩ mn ?_
        refine tj_i2d dX12_meanSlot_58 ?_
        refine tj_ddiv dX12_meanSlot_59 (zMeanD_ok (dN D) (by omega) (by omega) _ (hsum _ (Nat.le_refl _))).1 ?_
        exact dj_ret dX12_meanSlot_60 rfl
      | succ k ih =>
        intro i hi
        have hs := hsum i (by omega)
        unfold dj_J
        refine tj_iload_n dX12_meanSlot_26 (i := 2) rfl rfl ?_
        refine tj_aload_n dX12_meanSlot_27 (i := 0) rfl rfl ?_
        refine tj_callVi (M' := me_X12_many) (b := 56) (As := []) (rest := [.int (nI i)]) (fun q _ h => h) (fun q h => h) (fun q h => by cases h) dX12_meanSlot_28 gX12_meanSlot_X12_many rfl hd_X12_many (by decide +kernel) (by decide +kernel) rfl (Nat.le_of_ble_eq_true rfl) ⟨Nat.le_of_ble_eq_true rfl, Nat.le_of_ble_eq_true rfl⟩ rfl ⟨Nat.zero_le _, Nat.zero_le _⟩ mn ?_
        refine tj_icmp_ge (tgt := 52) dX12_meanSlot_31 (by decide) (fun q => absurd q (nI_ge (by omega) (by omega))) (fun _ => ?_)
        refine tj_iload_n dX12_meanSlot_34 (i := 1) rfl rfl ?_
        refine tj_aload_n dX12_meanSlot_35 (i := 0) rfl rfl ?_
        refine tj_get (a := 56) (k9 := 1) (v := .ref (sj_ad G 57)) dX12_meanSlot_36 (by decide +kernel) rfl ?_
        refine tj_bipush (v := (nI 116)) dX12_meanSlot_39 (by decide +kernel) ?_
        refine tj_iload_n dX12_meanSlot_41 (i := 2) rfl rfl ?_
        refine tj_iadd dX12_meanSlot_42 ?_
        rw [nI_add]
        refine tj_iald (a := 57) (j := 116 + i) (x := nI (T i)) dX12_meanSlot_43 rfl (by decide +kernel) (show vp_in (nI (116 + i)) 128 from z_in (by omega) (by decide)) (nI_clamp (by omega)) (by rw [n57]; exact (hT i (by omega)).1) ?_
        refine tj_iadd dX12_meanSlot_44 ?_
        rw [nI_add]
        refine tj_istore_n dX12_meanSlot_45 (i := 1) rfl (by decide) ?_
        refine tj_iinc (i := 2) (v := nI (i + 1)) dX12_meanSlot_46 (by decide) rfl (nI_add i 1) ?_
        refine tj_goto (tgt := 26) dX12_meanSlot_49 (by decide) ?_
        exact ih (i + 1) (by omega)
    exact loop (dN D) 0 (by omega)
  · have n0 : dN D = 0 := by rw [z_eq0 (by omega)] at q; exact q
    have hz : zMean D T = FP.dconst0 := if_pos n0
    rw [hz]
    refine tj_dconst0 dX12_meanSlot_20 ?_
    exact dj_ret dX12_meanSlot_21 rfl
set_option maxRecDepth 20000 in
theorem y_meanSlot1 (ok : sj_ok G) (h : σ 57 127 = nI 0) : dj_C G 4 me_X12_meanSlot [.ref (sj_ad G 56)] σ (.ok FP.dconst0, sj_st (sj_st σ 56 0 (nI 0)) 56 0 (nI 1)) := by
  refine dj_enter ok (by decide +kernel) rfl rfl (Nat.le_of_ble_eq_true rfl) (by simp [Value.category]) (fun p e s m args below meth c ht hN => ?_)
  unfold dj_J
  refine tj_aload_n dX12_meanSlot_0 (i := 0) rfl rfl ?_
  refine tj_iconst (v := (nI 0)) dX12_meanSlot_1 (by decide +kernel) ?_
  refine tj_put (a := 56) (k9 := 0) hN rfl (fun q h => h) dX12_meanSlot_2 (by decide +kernel) (by decide +kernel) rfl ?_
  refine tj_aload_n dX12_meanSlot_5 (i := 0) rfl rfl ?_
  refine tj_iconst (v := (nI 1)) dX12_meanSlot_6 (by decide +kernel) ?_
  refine tj_callVi (M' := me_X12_noTable) (b := 56) (As := [.int (nI 1)]) (rest := []) (fun q _ h => h) (fun q h => h) (fun q h => by cases h) dX12_meanSlot_7 gX12_meanSlot_X12_noTable rfl hd_X12_noTable (by decide +kernel) (by decide +kernel) rfl (Nat.le_of_ble_eq_true rfl) ⟨Nat.le_of_ble_eq_true rfl, Nat.le_of_ble_eq_true rfl⟩ rfl ⟨Nat.zero_le _, Nat.zero_le _⟩ (y_noTable1 ok (by rw [z_ste]; exact nI_0) (by rw [z_stn (by decide)]; exact h) (by decide)) ?_
  refine tj_if_ne (tgt := 20) dX12_meanSlot_10 (by decide) (fun _ => ?_) (fun q => absurd q z_10)
  refine tj_dconst0 dX12_meanSlot_20 ?_
  exact dj_ret dX12_meanSlot_21 rfl
end ZMN
