/-! ERRORS 1: the cover: no teacher is left beside a lesson that it could have taken -/
theorem zG_full {C : Nat → Nat → Bool} {m k t : Nat} (hk : k < m) (hg : ¬ zGg C m k < 6) (ht : t < 6) (hS : zGS C m m t = true) : C k t = false := by
  cases hC : C k t
  · rfl
  · exfalso
    rw [← zG_VS] at hS
    have hfree := (zVS_iff m).mp hS
    have hd := zG_due (C := C) (m := m) m (Nat.le_refl m)
    have hval := zG_val (C := C) (m := m) m
    have hv : zVal C (zEu (zGg C m) k t) m := by
      intro i hi h6
      unfold zEu at h6 ⊢
      by_cases e : i = k
      · subst e
        rw [if_pos rfl]
        refine ⟨hC, fun j hj => ?_⟩
        rw [if_neg (by omega)]
        exact hfree j (by omega)
      · rw [if_neg e] at h6 ⊢
        obtain ⟨h1, h2⟩ := hval i hi h6
        refine ⟨h1, fun j hj => ?_⟩
        by_cases e2 : j = k
        · rw [if_pos e2]
          exact fun q => hfree i hi q.symm
        · rw [if_neg e2]
          exact h2 j hj
    have hle := zVal_le (v := zEu (zGg C m) k t) (fun i _ => by
      unfold zEu
      split
      · omega
      · exact zGg_6) hv m 0 (by omega)
    have e0 : zVS (zEu (zGg C m) k t) 0 = fun _ => true := rfl
    have e1 : zCt (zEu (zGg C m) k t) 0 = 0 := rfl
    rw [e0, e1] at hle
    have hc : zCt (zEu (zGg C m) k t) m = q_cnt (fun o => !decide (o = k) && decide (zEu (zGg C m) k t o < 6)) m + 1 := q_cnt_rm (p := fun j => decide (zEu (zGg C m) k t j < 6)) m hk (by
      show decide (zEu (zGg C m) k t k < 6) = true
      unfold zEu
      rw [if_pos rfl, decide_eq_true ht])
    have hm : zCt (zGg C m) m ≤ q_cnt (fun o => !decide (o = k) && decide (zEu (zGg C m) k t o < 6)) m := q_cnt_mon m (fun i hi h => by
      have h : decide (zGg C m i < 6) = true := h
      rw [decide_eq_true_eq] at h
      have ne : ¬ i = k := fun e => hg (by rw [← e]; exact h)
      show (!decide (i = k) && decide (zEu (zGg C m) k t i < 6)) = true
      unfold zEu
      rw [if_neg ne, decide_eq_false ne, decide_eq_true h]; rfl)
    have hz := zMx_n (C := C) (m - m) m (zGS C m m)
    omega
section ZVC2
variable {G : sj_G} {σ : sj_S} {D : zD} {T : Nat → Nat}
theorem z_coverPlan2 (ok : sj_ok G) (hC : repC D (σ 2)) (v : okD D) (hT : repT (dN D) T (σ 3)) {s : Nat} (hs : s < 20) : ∃ ρ, sj_C G 42 me_X2_plan [.ref (sj_ad G 41), .ref (sj_ad G 1), .int (nI s)] σ (.ok 0, ρ) ∧ (∀ b, b ≠ 41 → b ≠ 42 → b ≠ 43 → ρ b = σ b) ∧ zVP D T s ρ ∧ ∀ t, t < 32 → 6 ≤ t → bt (ρ 41 3) t = false := by
  obtain ⟨ρ0, hcol, hfr, hn, ha⟩ := z_collect (σ := σ) ok hC v hT hs
  have hm : zNm9 D T s = q_cnt (zNe D T s) 9 := rfl
  generalize eC : zCC D T s = C
  generalize eN : zNe D T s = N at hn ha hm
  have hcc : ∀ l, l < 9 → N l = true → ∀ t, C (q_cnt N l) t = zCap D T s l t := fun l hl h t => by
    rw [← eN] at h ⊢
    rw [← eC]
    exact zCC_eq hl h
  have key : ∀ k l (ρ : sj_S), l + k = 9 → (∀ b, b ≠ 41 → b ≠ 42 → b ≠ 43 → ρ b = σ b) → ρ 41 1 = ρ0 41 1 → ρ 43 = ρ0 43 →
      (∀ i, i < l → ρ 42 i = if N i = true ∧ zGg C (q_cnt N 9) (q_cnt N i) < 6 then nI (zGg C (q_cnt N 9) (q_cnt N i)) else -1) →
      (∀ i, i < 32 → bt (ρ 41 2) i = (decide (i < l) && (N i && !decide (zGg C (q_cnt N 9) (q_cnt N i) < 6)))) →
      (∀ t, t < 6 → bt (ρ 41 3) t = zGS C (q_cnt N 9) (q_cnt N l) t) → (∀ t, t < 32 → 6 ≤ t → bt (ρ 41 3) t = false) →
      ∃ ρ', sj_J G 42 me_X2_plan (.ok 0, ρ') 37 [.ref (sj_ad G 41), .null, .null, .int (nI (zMx C (q_cnt N 9 - q_cnt N l) (q_cnt N l) (zGS C (q_cnt N 9) (q_cnt N l)))), .int (nI l)] ρ [] ∧
        (∀ b, b ≠ 41 → b ≠ 42 → b ≠ 43 → ρ' b = σ b) ∧ ρ' 41 1 = ρ0 41 1 ∧ ρ' 43 = ρ0 43 ∧
        (∀ i, i < 9 → ρ' 42 i = if N i = true ∧ zGg C (q_cnt N 9) (q_cnt N i) < 6 then nI (zGg C (q_cnt N 9) (q_cnt N i)) else -1) ∧
        (∀ i, i < 32 → bt (ρ' 41 2) i = (decide (i < 9) && (N i && !decide (zGg C (q_cnt N 9) (q_cnt N i) < 6)))) ∧
        (∀ t, t < 6 → bt (ρ' 41 3) t = zGS C (q_cnt N 9) (q_cnt N 9) t) ∧ (∀ t, t < 32 → 6 ≤ t → bt (ρ' 41 3) t = false) := by
    intro k
    induction k with
    | zero =>
      intro l ρ hl hf h1 h43 h42 h2 h3 h4
      obtain rfl : l = 9 := by omega
      exact ⟨ρ, t_X2_plan_37 ⟨fun _ => rfl, fun q => absurd (nI_le (by omega) (by omega)) q⟩, hf, h1, h43, h42, h2, h3, h4⟩
    | succ k ih =>
      intro l ρ hl hf h1 h43 h42 h2 h3 h4
      have hbit : bt (ρ 41 1) l = N l := by rw [h1]; exact hn l (by omega)
      by_cases hN : N l = true
      · have e1 : q_cnt N (l + 1) = q_cnt N l + 1 := by rw [q_cnt_s, hN]; rfl
        have hle := q_cnt_mono (S := N) (i := l + 1) 9 (by omega)
        have h99 := q_cnt_le N 9
        generalize en : q_cnt N 9 - (q_cnt N l + 1) = n
        have e2 : q_cnt N 9 - q_cnt N l = n + 1 := by omega
        have hlt := z_leastTaker (σ := sj_st ρ 42 l (-1)) (N := N) (C := C) ok (fun i hi => by rw [z_stn (by decide), h1]; exact hn i (by omega)) (fun i hi h t ht => by rw [z_stn (by decide), h43, hcc i hi h t]; exact ha i hi h t ht) (l := l) (S := zGS C (q_cnt N 9) (q_cnt N l)) (by omega) hN (fun t ht => by rw [z_stn (by decide)]; exact h3 t ht) (n := n) (by omega)
        have eg : zGt C n (q_cnt N l) (zGS C (q_cnt N 9) (q_cnt N l)) = zGg C (q_cnt N 9) (q_cnt N l) := by unfold zGg; rw [en]
        rw [eg] at hlt
        have eS : zGS C (q_cnt N 9) (q_cnt N l + 1) = zRmv (zGS C (q_cnt N 9) (q_cnt N l)) (zGg C (q_cnt N 9) (q_cnt N l)) := zGS_s
        by_cases hg : zGg C (q_cnt N 9) (q_cnt N l) < 6
        · rw [if_pos hg] at hlt
          have hdue : zMx C (n + 1) (q_cnt N l) (zGS C (q_cnt N 9) (q_cnt N l)) = 1 + zMx C n (q_cnt N l + 1) (zGS C (q_cnt N 9) (q_cnt N l + 1)) := by
            rw [eS, ← eg]
            exact (zGt_c (C := C) (n := n) (k := q_cnt N l) (by rw [eg]; exact hg)).2.2
          have hz := zMx_n (C := C) n (q_cnt N l + 1) (zGS C (q_cnt N 9) (q_cnt N l + 1))
          obtain ⟨ρ', r1, r2⟩ := ih (l + 1) (sj_st (sj_st (sj_st ρ 42 l (-1)) 42 l (nI (zGg C (q_cnt N 9) (q_cnt N l)))) 41 3 ((ρ 41 3) &&& ((nI 1 <<< (nI (zGg C (q_cnt N 9) (q_cnt N l)) &&& 31)) ^^^ (-1)))) (by omega)
            (fun b n1 n2 n3 => by rw [z_stn n1, z_stn n2, z_stn n2]; exact hf b n1 n2 n3) (by rw [z_sti (by decide), z_stn (by decide), z_stn (by decide)]; exact h1) (by rw [z_stn (by decide), z_stn (by decide), z_stn (by decide)]; exact h43)
            (fun i hi => by
              rw [z_stn (by decide)]
              by_cases e : i = l
              · subst e
                rw [z_ste, if_pos ⟨hN, hg⟩]
              · rw [z_sti e, z_sti e]
                exact h42 i (by omega))
            (fun i hi => by
              rw [z_sti (by decide), z_stn (by decide), z_stn (by decide), h2 i hi]
              by_cases e : i = l
              · subst e
                rw [decide_eq_false (by omega : ¬ i < i), decide_eq_true hg]
                simp
              · by_cases q : i < l
                · rw [decide_eq_true q, decide_eq_true (by omega : i < l + 1)]
                · rw [decide_eq_false q, decide_eq_false (by omega : ¬ i < l + 1)])
            (fun t ht => by
              rw [z_ste, b_and, b_xor, z_shl1 (by omega) (by omega), b_m1 t (by omega), h3 t ht, e1, eS]
              unfold zRmv
              simp)
            (fun t ht h6 => by rw [z_ste, b_and, h4 t ht h6]; rfl)
          refine ⟨ρ', ?_, r2⟩
          rw [e1, en] at r1
          rw [e2, hdue]
          rw [hdue] at hlt
          refine t_X2_plan_37 ⟨fun q => absurd q (nI_ge (by omega) (by omega)), fun _ => ⟨z_in (by omega) (by decide), fun q => ?_, fun _ => ?_⟩⟩
          · rw [z_bit (by omega), hbit, hN] at q
            cases q
          · rw [nI_clamp (by omega)]
            refine ⟨_, _, hlt, z_in (by omega) (by decide), z_in (by omega) (by decide), fun _ => z_in (by omega) (by decide), ?_⟩
            unfold wp_X2_plan_128
            rw [z_ste, if_neg (z_nm1 (by omega)), if_neg (z_nm1 (by omega)), nI_add, Nat.add_comm 1, pk_m1, z_stn (by decide)]
            exact r1
        · rw [if_neg hg] at hlt
          have hdue : zMx C (n + 1) (q_cnt N l) (zGS C (q_cnt N 9) (q_cnt N l)) = zMx C n (q_cnt N l + 1) (zGS C (q_cnt N 9) (q_cnt N l + 1)) := by
            rw [eS, zMx_out (by omega)]
            exact zGt_n (C := C) (n := n) (k := q_cnt N l) (by rw [eg]; exact hg)
          obtain ⟨ρ', r1, r2⟩ := ih (l + 1) (sj_st (sj_st (sj_st ρ 42 l (-1)) 42 l (-1)) 41 2 ((ρ 41 2) ||| (nI 1 <<< (nI l &&& 31)))) (by omega)
            (fun b n1 n2 n3 => by rw [z_stn n1, z_stn n2, z_stn n2]; exact hf b n1 n2 n3) (by rw [z_sti (by decide), z_stn (by decide), z_stn (by decide)]; exact h1) (by rw [z_stn (by decide), z_stn (by decide), z_stn (by decide)]; exact h43)
            (fun i hi => by
              rw [z_stn (by decide)]
              by_cases e : i = l
              · subst e
                rw [z_ste, if_neg (fun q => hg q.2)]
              · rw [z_sti e, z_sti e]
                exact h42 i (by omega))
            (fun i hi => by
              rw [z_ste, b_or, h2 i hi, z_shl1 (by omega) hi]
              by_cases e : i = l
              · subst e
                rw [decide_eq_true rfl, Bool.or_true, decide_eq_true (by omega : i < i + 1), hN, decide_eq_false hg]
                rfl
              · rw [decide_eq_false e, Bool.or_false]
                by_cases q : i < l
                · rw [decide_eq_true q, decide_eq_true (by omega : i < l + 1)]
                · rw [decide_eq_false q, decide_eq_false (by omega : ¬ i < l + 1)])
            (fun t ht => by
              rw [z_sti (by decide), z_stn (by decide), z_stn (by decide), h3 t ht, e1, eS]
              unfold zRmv
              rw [decide_eq_false (by omega)]
              simp)
            (fun t ht h6 => by rw [z_sti (by decide), z_stn (by decide), z_stn (by decide)]; exact h4 t ht h6)
          refine ⟨ρ', ?_, r2⟩
          rw [e1, en] at r1
          rw [e2, hdue]
          rw [hdue] at hlt
          refine t_X2_plan_37 ⟨fun q => absurd q (nI_ge (by omega) (by omega)), fun _ => ⟨z_in (by omega) (by decide), fun q => ?_, fun _ => ?_⟩⟩
          · rw [z_bit (by omega), hbit, hN] at q
            cases q
          · rw [nI_clamp (by omega)]
            refine ⟨_, _, hlt, z_in (by omega) (by decide), z_in (by omega) (by decide), fun _ => z_in (by omega) (by decide), ?_⟩
            unfold wp_X2_plan_128
            rw [z_ste, if_pos rfl, if_pos rfl, nI_add, z_stn (by decide)]
            exact r1
      · have hN' : N l = false := by simpa using hN
        have e1 : q_cnt N (l + 1) = q_cnt N l := by rw [q_cnt_s, hN']; rfl
        obtain ⟨ρ', r1, r2⟩ := ih (l + 1) (sj_st ρ 42 l (-1)) (by omega)
          (fun b n1 n2 n3 => by rw [z_stn n2]; exact hf b n1 n2 n3) (by rw [z_stn (by decide)]; exact h1) (by rw [z_stn (by decide)]; exact h43)
          (fun i hi => by
            by_cases e : i = l
            · subst e
              rw [z_ste, if_neg (fun q => hN q.1)]
            · rw [z_sti e]
              exact h42 i (by omega))
          (fun i hi => by
            rw [z_stn (by decide), h2 i hi]
            by_cases e : i = l
            · subst e
              rw [hN']
              simp
            · by_cases q : i < l
              · rw [decide_eq_true q, decide_eq_true (by omega : i < l + 1)]
              · rw [decide_eq_false q, decide_eq_false (by omega : ¬ i < l + 1)])
          (fun t ht => by
            rw [z_stn (by decide), h3 t ht, e1])
          (fun t ht h6 => by rw [z_stn (by decide)]; exact h4 t ht h6)
        refine ⟨ρ', ?_, r2⟩
        rw [e1] at r1
        refine t_X2_plan_37 ⟨fun q => absurd q (nI_ge (by omega) (by omega)), fun _ => ⟨z_in (by omega) (by decide), fun _ => ?_, fun q => ?_⟩⟩
        · unfold wp_X2_plan_128
          rw [nI_clamp (by omega), nI_add]
          exact r1
        · rw [z_bit (by omega), hbit] at q
          exact absurd hN' q
  have h63 : ∀ t, t < 6 → bt (nI 63) t = true := by decide +kernel
  have h63n : ∀ t, t < 32 → 6 ≤ t → bt (nI 63) t = false := by decide +kernel
  obtain ⟨ρ', r1, r2, r3, r4, r5, r6, r7, r8⟩ := key 9 0 (sj_st (sj_st ρ0 41 2 (nI 0)) 41 3 (nI 63)) (by decide) (fun b n1 n2 n3 => by rw [z_stn n1, z_stn n1]; exact hfr b n1 n3) (by rw [z_sti (by decide), z_sti (by decide)]) (by rw [z_stn (by decide), z_stn (by decide)]) (fun i hi => absurd hi (by omega))
    (fun i hi => by rw [z_sti (by decide), z_ste, z_bn 0 i hi, decide_eq_false (by omega)]; exact Nat.zero_testBit i) (fun t ht => by rw [z_ste, h63 t ht]; rfl) (fun t ht h6 => by rw [z_ste]; exact h63n t ht h6)
  have hmt := z_mostTakenC (σ := sj_st (sj_st ρ0 41 2 (nI 0)) 41 3 (nI 63)) (N := N) (C := C) (x1 := ρ0 41 1) (x2 := nI 63) (S := fun _ => true) ok (fun i hi => hn i (by omega)) (fun i hi h t ht => by rw [z_stn (by decide), z_stn (by decide), hcc i hi h t]; exact ha i hi h t ht) (l := 0) (by omega) h63
  refine ⟨ρ', c_X2_plan ok ⟨_, hcol, _, _, hmt, r1⟩, r2, ?_, r8⟩
  unfold zVP
  rw [eN, eC, hm, ← eN]
  unfold zVR
  rw [eN]
  exact ⟨⟨fun i hi => by rw [r3]; exact hn i hi, fun i hi h t ht => by rw [r4]; exact ha i hi h t ht⟩, r5, r6, r7⟩
theorem z_faultsC (ok : sj_ok G) (hC : repC D (σ 2)) (v : okD D) (hT : repT (dN D) T (σ 3)) : ∃ ρ, sj_C G 43 me_X2_faults [.ref (sj_ad G 41), .ref (sj_ad G 1)] σ (.ok (nI 0), ρ) ∧ ∀ b, b ≠ 41 → b ≠ 42 → b ≠ 43 → ρ b = σ b := by
  have h9 := v.1
  have key : ∀ k s (τ : sj_S), s + k = 20 → (∀ b, b ≠ 41 → b ≠ 42 → b ≠ 43 → τ b = σ b) → ∃ ρ, sj_J G 43 me_X2_faults (.ok (nI 0), ρ) 2 [.ref (sj_ad G 41), .ref (sj_ad G 1), .int (nI s), .null] τ [] ∧ ∀ b, b ≠ 41 → b ≠ 42 → b ≠ 43 → ρ b = σ b := by
    intro k
    induction k with
    | zero =>
      intro s τ hs hf
      obtain rfl : s = 20 := by omega
      exact ⟨τ, t_X2_faults_2 ⟨fun _ => rfl, fun q => absurd (nI_le (Nat.le_refl 20) (by decide)) q⟩, hf⟩
    | succ k ih =>
      intro s τ hs hf
      obtain ⟨ρ1, c1, c2, ⟨⟨c3, c4⟩, -, c6, c7⟩, c8⟩ := z_coverPlan2 (σ := τ) (D := D) (T := T) ok (by rw [hf 2 (by decide) (by decide) (by decide)]; exact hC) v (by rw [hf 3 (by decide) (by decide) (by decide)]; exact hT) (s := s) (by omega)
      have f1 : ∀ b, b ≠ 41 → b ≠ 42 → b ≠ 43 → ρ1 b = σ b := fun b h1 h2 h3 => (c2 b h1 h2 h3).trans (hf b h1 h2 h3)
      obtain ⟨ρ, r1, r2⟩ := ih (s + 1) ρ1 (by omega) f1
      refine ⟨ρ, t_X2_faults_2 ⟨fun q => absurd q (nI_ge (by omega) (by decide)), fun _ => ⟨_, c1, ?_⟩⟩, r2⟩
      have key2 : ∀ j l, l + j = dN D → sj_J G 43 me_X2_faults (.ok (nI 0), ρ) 16 [.ref (sj_ad G 41), .ref (sj_ad G 1), .int (nI s), .int (nI l)] ρ1 [] := by
        intro j
        induction j with
        | zero =>
          intro l hl
          obtain rfl : l = dN D := by omega
          refine t_X2_faults_16 ⟨_, _, z_lessonTotal ok, fun _ => by rw [nI_add]; exact r1, fun q => ?_⟩
          rw [f1 2 (by decide) (by decide) (by decide), hC.1] at q
          exact absurd (nI_le (Nat.le_refl _) (by omega)) q
        | succ j ihj =>
          intro l hl
          have go : wp_X2_faults_51 G (.ok (nI 0), ρ) (nI s) (nI l) ρ1 := by
            unfold wp_X2_faults_51
            rw [nI_add]
            exact ihj (l + 1) (by omega)
          refine t_X2_faults_16 ⟨_, _, z_lessonTotal ok, fun q => ?_, fun _ => ⟨fun _ => go, fun q => ⟨z_in (by omega) (by decide), fun _ => go, fun q2 => ?_⟩⟩⟩
          · rw [f1 2 (by decide) (by decide) (by decide), hC.1] at q
            exact absurd q (nI_ge (by omega) (by omega))
          · exfalso
            rw [z_bit (by omega), c6 l (by omega)] at q
            have q3 : (decide (l < 9) && (zNe D T s l && !decide (zGg (zCC D T s) (zNm9 D T s) (q_cnt (zNe D T s) l) < 6))) = true := by simpa using q
            rw [Bool.and_eq_true, Bool.and_eq_true, Bool.not_eq_true', decide_eq_false_iff_not] at q3
            obtain ⟨-, hN, hg⟩ := q3
            apply q2
            rw [nI_clamp (by omega)]
            have hk : q_cnt (zNe D T s) l < zNm9 D T s := by
              have a := q_cnt_mono (S := zNe D T s) (i := l + 1) 9 (by omega)
              have b : q_cnt (zNe D T s) (l + 1) = q_cnt (zNe D T s) l + 1 := by rw [q_cnt_s, hN, if_pos rfl]
              show q_cnt (zNe D T s) l < q_cnt (zNe D T s) 9
              omega
            refine b_ext (fun t ht => ?_)
            rw [b_and, b_0 t]
            by_cases h6 : t < 6
            · rw [c7 t h6, c4 l (by omega) hN t h6]
              cases hS : zGS (zCC D T s) (zNm9 D T s) (zNm9 D T s) t
              · rw [Bool.and_false]
              · have := zG_full hk hg h6 hS
                rw [zCC_eq (by omega) hN] at this
                rw [this]; rfl
            · rw [c8 t ht (by omega), Bool.and_false]
      exact key2 (dN D) 0 (by omega)
  obtain ⟨ρ, r1, r2⟩ := key 20 0 σ (by decide) (fun _ _ _ _ => rfl)
  exact ⟨ρ, c_X2_faults ok r1, r2⟩
end ZVC2
