/-! ERRORS 2: colours, exams, the right table that is the first; the pair -/
theorem zRu_fr6 {D : zD} {H : Nat → Bool} {σ σ' : sj_S} (h : zRu D H σ 6) (e : ∀ b, 6 ≤ b → b ≤ 16 → σ' b = σ b) : zRu D H σ' 6 := by
  unfold zRu zRuL
  rw [e 6 (by decide) (by decide), e (6 + 1) (by decide) (by decide), e (6 + 2) (by decide) (by decide), e (6 + 3) (by decide) (by decide), e (6 + 4) (by decide) (by decide), e (6 + 5) (by decide) (by decide), e (6 + 6) (by decide) (by decide), e (6 + 7) (by decide) (by decide), e (6 + 8) (by decide) (by decide), e (6 + 9) (by decide) (by decide), e (6 + 10) (by decide) (by decide)]
  exact h
section ZER
variable {G : sj_G} {σ : sj_S} {D : zD} {T : Nat → Nat} {r : Nat}
theorem z_sharedPairs (ok : sj_ok G) (hC : repC D (σ 2)) (v : okD D) : ∃ ρ, sj_C G 6 me_X1_sharedPairs [.ref (sj_ad G 39), .ref (sj_ad G 1)] σ (.ok (nI 0), ρ) ∧ ∀ b, b ≠ 40 → ρ b = σ b := by
  have h9 := v.1
  obtain ⟨g, p1, p2⟩ := z_paint (σ := σ) ok hC v
  have hcg := zCo_ok v (dN D) (Nat.le_refl _)
  have hM9 := zMo_9 v
  generalize eρ : sj_up σ 40 g = ρ at p1
  have n2 : ρ 2 = σ 2 := by rw [← eρ]; exact z_upn (by decide)
  have h40 : ∀ i, i < dN D → ρ 40 i = nI (zCo D (zMo D) (dN D) i) := fun i hi => by rw [← eρ, sj_up_s]; exact p2 i hi
  have hC' : repC D (ρ 2) := by rw [n2]; exact hC
  refine ⟨ρ, c_X1_sharedPairs ok ⟨_, p1, ?_⟩, fun b hb => by rw [← eρ]; exact z_upn hb⟩
  have inner : ∀ l, l < dN D → sj_J G 6 me_X1_sharedPairs (.ok (nI 0), ρ) 9 [.ref (sj_ad G 39), .ref (sj_ad G 1), .int (nI 0), .int (nI (l + 1)), .null, .null] ρ [] → ∀ k o, o + k = l → sj_J G 6 me_X1_sharedPairs (.ok (nI 0), ρ) 20 [.ref (sj_ad G 39), .ref (sj_ad G 1), .int (nI 0), .int (nI l), .int (nI o), .null] ρ [] := by
    intro l hl hJ k
    induction k with
    | zero =>
      intro o ho
      obtain rfl : o = l := by omega
      exact t_X1_sharedPairs_20 ⟨fun _ => by rw [nI_add]; exact hJ, fun q => absurd (nI_le (Nat.le_refl _) (by omega)) q⟩
    | succ k ih =>
      intro o ho
      have hg := v.2.2.2.1 l hl
      have h0 := z_isOfD (σ := ρ) (D := D) ok hC' v (l := o) (b := 0) (p := dG D l) (by omega) (by omega) (by omega)
      have h1 := z_isOfD (σ := ρ) (D := D) ok hC' v (l := o) (b := 1) (p := dTe D l) (by omega) (by omega) (by omega)
      have l0 := z_ofLesson (σ := ρ) ok (l := l) (k := 0) (by omega) (by decide)
      have l1 := z_ofLesson (σ := ρ) ok (l := l) (k := 1) (by omega) (by decide)
      rw [(hC'.2.2.2.1 l hl).1] at l0
      rw [(hC'.2.2.2.1 l hl).2.1] at l1
      have hne : ∀ b, b ≤ 1 → dP D b o = dP D b l → ¬ ρ 40 (nI o).toNatClampNeg = ρ 40 (nI l).toNatClampNeg := fun b hb hd q => by
        rw [nI_clamp (by omega), nI_clamp (by omega), h40 o (by omega), h40 l hl, nI_eq (by have := hcg.2 o (by omega); omega) (by have := hcg.2 l hl; omega)] at q
        have := hcg.1 b o l hb (by omega) hl hd q
        omega
      have go : ∀ s0 : Int32, s0 = nI 0 → wp_X1_sharedPairs_92 G (.ok (nI 0), ρ) (nI l) (nI o) s0 (nI 0) ρ := fun s0 hs => by
        unfold wp_X1_sharedPairs_92
        rw [hs, nI_add, nI_add]
        exact ih (o + 1) (by omega)
      have vo : vp_in (nI o) 9 := z_in (by omega) (by decide)
      have vl : vp_in (nI l) 9 := z_in (by omega) (by decide)
      refine t_X1_sharedPairs_20 ⟨fun q => absurd q (nI_ge (by omega) (by omega)), fun _ => ⟨_, _, l0, _, _, h0, fun q => ?_, fun _ => ⟨_, _, l1, _, _, h1, ?_⟩⟩⟩
      · unfold wp_X1_sharedPairs_58 wp_X1_sharedPairs_63
        refine ⟨fun _ => ⟨vo, vl⟩, go _ ?_⟩
        rw [if_neg z_10]
        by_cases hd : dP D 0 o = dG D l
        · rw [if_neg (hne 0 (by omega) hd)]
        · rw [if_neg hd] at q
          exact absurd z_00 q
      · unfold wp_X1_sharedPairs_63
        refine ⟨fun _ => ⟨vo, vl⟩, go _ ?_⟩
        by_cases hd : dP D 1 o = dTe D l
        · rw [if_pos hd, if_neg z_10, if_neg z_10, if_neg (hne 1 (by omega) hd)]
        · rw [if_neg hd, if_pos z_00, if_pos z_00]
  have outer : ∀ k l, l + k = dN D → sj_J G 6 me_X1_sharedPairs (.ok (nI 0), ρ) 9 [.ref (sj_ad G 39), .ref (sj_ad G 1), .int (nI 0), .int (nI l), .null, .null] ρ [] := by
    intro k
    induction k with
    | zero =>
      intro l hl
      obtain rfl : l = dN D := by omega
      refine t_X1_sharedPairs_9 ⟨_, _, z_lessonTotal ok, fun _ => rfl, fun q => ?_⟩
      rw [hC'.1] at q
      exact absurd (nI_le (Nat.le_refl _) (by omega)) q
    | succ k ih =>
      intro l hl
      refine t_X1_sharedPairs_9 ⟨_, _, z_lessonTotal ok, fun _ => rfl, fun _ => inner l (by omega) (ih (l + 1) (by omega)) l 0 (by omega)⟩
  exact outer (dN D) 0 (by omega)
theorem z_faultsX (ok : sj_ok G) (v : okD D) (hC : repC D (σ 2)) : ∃ ρ, sj_C G 42 me_X3_faults [.ref (sj_ad G 44), .ref (sj_ad G 1)] σ (.ok (nI 0), ρ) ∧ ∀ b, b ≠ 45 → ρ b = σ b := by
  have hA := hC.2.2.2.2.2.2.2
  obtain ⟨d, g, d1, d8, hg, hn⟩ := zE_few D
  obtain ⟨ρ, p1, p2, p3⟩ := z_plan (σ := σ) ok hA d1 d8 hg hn
  have hgood := zEf_good 8 0 (fun _ => 0) hg
  have hA' : ∀ e, e < 8 → ρ 2 (111 + e) = nI (dAp D e) := fun e he => by rw [p2 2 (by decide)]; exact hA e he
  have hgg := z_greatestGroup (σ := ρ) ok v hA'
  have hs : zGb D 255 < 256 := by have := zGb_le D 255; omega
  have hbc := z_bitCount (σ := ρ) ok (n := zGb D 255) (by omega)
  rw [zBc_20 hs] at hbc
  -- its members sit on days of their own
  have hle : zBc (zGb D 255) ≤ d := by
    have hig := zGb_good D 255
    unfold zIg at hig
    rw [Bool.not_eq_true', q_any_f] at hig
    refine q_cnt_inj (f := g) (fun i hi _ => (hgood.2 i (Nat.zero_le _) (by omega)).1) (fun i j hj hi h1 h2 q => ?_)
    have a := hig i hi
    rw [h1, Bool.true_and, q_any_f] at a
    have b := a j hj
    rw [h2, Bool.true_and, Bool.not_eq_false'] at b
    have c := (hgood.2 i (Nat.zero_le _) (by omega)).2
    unfold zEo at c
    rw [Bool.not_eq_true', q_any_f] at c
    have := c j hj
    rw [b, decide_eq_true q.symm] at this
    cases this
  refine ⟨ρ, c_X3_faults ok ⟨_, _, p1, _, _, hgg, _, _, hbc, ?_⟩, p2⟩
  rw [if_pos (nI_le hle (by omega))]
  unfold wp_X3_faults_23
  have key : ∀ k e, e + k = 8 → sj_J G 42 me_X3_faults (.ok (nI 0), ρ) 27 [.ref (sj_ad G 44), .ref (sj_ad G 1), .null, .int (nI 0), .int (nI e)] ρ [] := by
    intro k
    induction k with
    | zero =>
      intro e he
      obtain rfl : e = 8 := by omega
      refine t_X3_faults_27 ⟨fun _ => ?_, fun q => absurd (nI_le (Nat.le_refl 8) (by decide)) q⟩
      unfold wp_X3_faults_77
      rw [if_pos z_00]
    | succ k ih =>
      intro e he
      have ge := hgood.2 e (Nat.zero_le _) (by omega)
      have hf := z_isFree (σ := ρ) (f := g) (e := e) (c := g e) ok (hA' e (by omega)) (by omega) (by omega) (fun o ho => ⟨p3 o (by omega), by have := (hgood.2 o (Nat.zero_le _) (by omega)).1; omega⟩)
      rw [ge.2] at hf
      refine t_X3_faults_27 ⟨fun q => absurd q (nI_ge (by omega) (by decide)), fun _ => ⟨z_in (by omega) (by decide), _, _, by rw [nI_clamp (by omega), p3 e (by omega)]; exact hf, ?_⟩⟩
      unfold wp_X3_faults_60
      rw [if_neg (show ¬ (if true = true then nI 1 else nI 0) = 0 from z_10), nx_or, nI_add]
      exact ih (e + 1) (by omega)
  exact key 8 0 (by decide)
theorem z_notAhead (ok : sj_ok G) (hC : repC D (σ 2)) (v : okD D) {U : Nat → Nat} (hT : repT (dN D) T (σ 3)) (hU : ∀ l, l < dN D → σ 31 l = nI (U l)) (hF : zFst D (zHd D) U) (hr : zRi D (zHd D) T) : sj_C G 3 me_X8_tableIsAheadOf [.ref (sj_ad G 1), .ref (sj_ad G 31)] σ (.ok (nI 0), σ) := by
  have h9 := v.1
  have hsl : zSl 31 := ⟨rfl, by decide, rfl⟩
  have hle := hF.2 T hr
  refine c_X8_tableIsAheadOf ok hsl ?_
  have key : ∀ k l, l + k = dN D → (∀ o, o < l → U o = T o) → sj_J G 3 me_X8_tableIsAheadOf (.ok (nI 0), σ) 2 [.ref (sj_ad G 1), .ref (sj_ad G 31), .int (nI l)] σ [] := by
    intro k
    induction k with
    | zero =>
      intro l hl _
      obtain rfl : l = dN D := by omega
      refine t_X8_tableIsAheadOf_2 hsl ⟨_, _, z_lessonTotal ok, fun _ => rfl, fun q => ?_⟩
      rw [hC.1] at q
      exact absurd (nI_le (Nat.le_refl _) (by omega)) q
    | succ k ih =>
      intro l hl heq
      have hin : vp_in (nI l) 9 := z_in (by omega) (by decide)
      have kl : (nI l).toNatClampNeg = l := nI_clamp (by omega)
      have tl := (hT l (by omega)).2
      have ul := (hF.1 l (by omega)).1
      refine t_X8_tableIsAheadOf_2 hsl ⟨_, _, z_lessonTotal ok, fun _ => rfl, fun _ => ⟨hin, hin, fun q => ?_, fun q => ⟨hin, hin, ?_⟩⟩⟩
      · rw [kl, (hT l (by omega)).1, hU l (by omega), nI_eq (by omega) (by omega)] at q
        rw [nI_add]
        refine ih (l + 1) (by omega) (fun o ho => ?_)
        by_cases e : o = l
        · subst e; exact q.symm
        · exact heq o (by omega)
      · rw [kl, (hT l (by omega)).1, hU l (by omega), nI_eq (by omega) (by omega)] at q
        rw [kl, (hT l (by omega)).1, hU l (by omega)]
        have : U l ≤ T l := by
          rcases hle with x | ⟨j, j1, j2, j3⟩
          · exact Nat.le_of_eq (x l (by omega))
          · rcases Nat.lt_trichotomy l j with y | y | y
            · exact Nat.le_of_eq (j2 l y)
            · subst y; exact Nat.le_of_lt j3
            · have := heq j y
              omega
        rw [if_pos (nI_le this (by omega))]
        unfold wp_X8_tableIsAheadOf_39
        exact ⟨rfl, Or.inl rfl⟩
  exact key (dN D) 0 (by omega) (fun o ho => absurd ho (Nat.not_lt_zero o))
end ZER
