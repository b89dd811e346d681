/-! P59, THE LAW 11: exams -/
/-- the law's row of exams apart -/
def lE9 (D : zD) (σ : sj_S) : Prop := ∀ e o, e < 8 → o < 8 → σ 69 (8 * e + o) = if (dAp D e).testBit o then nI 1 else nI 0
theorem kEx_0 {D : zD} {d : Nat} {g : Nat → Nat} (h : kEx D d g) : g 0 = 0 := by
  obtain ⟨h1, h8, hg, -⟩ := h
  rw [← zEq_eq 8 0 (fun _ => 0) 0 (fun o ho => absurd ho (Nat.not_lt_zero o))] at hg
  have e : zEq D d 8 0 (fun _ => 0) 0 = zEc (fun c => if zEo D (fun _ => 0) 0 c then zEq D d 7 1 (zEu (fun _ => 0) 0 c) (max 0 (c + 1)) else none) (min d (0 + 1)) 0 := rfl
  rw [e, show min d (0 + 1) = 1 by omega] at hg
  obtain ⟨i, hi, hP⟩ := zEc_some 1 0 hg
  obtain rfl : i = 0 := by omega
  have hP : (if zEo D (fun _ => 0) 0 (0 + 0) then zEq D d 7 1 (zEu (fun _ => 0) 0 (0 + 0)) (max 0 (0 + 0 + 1)) else none) = some g := hP
  split at hP
  · rw [zEq_eq 7 1 _ _ (fun o ho => by
      obtain rfl : o = 0 := by omega
      show (if 0 = 0 then 0 + 0 else 0) < max 0 (0 + 0 + 1)
      decide)] at hP
    have := (zEf_good 7 1 _ hP).1 0 (by decide)
    rw [this]
    rfl
  · cases hP
section L11
variable {G : sj_G} {σ : sj_S} {D : zD} {T : Nat → Nat}
theorem l_apartJ (ok : sj_ok G) (hO : sj_ad G 70 = sj_ad G 0) : ∀ k (D : zD) (ρ : sj_S), k < 20 → kW D T ρ → lE9 D ρ → lR D ρ →
    ∃ (D' : zD) (ρ' : sj_S), (∀ f, f ≠ 15 → ∀ j, D' f j = D f j) ∧ kX ρ ρ' ∧ kW D' T ρ' ∧ lE9 D' ρ' ∧ lR D' ρ' ∧ ∀ R : sj_R, sj_J G 43 me_L_areExams R 7 [.ref (sj_ad G 56), .int (nI 0), .null, .null, .null, .null] ρ' [] → sj_J G 43 me_L_areExams R 7 [.ref (sj_ad G 56), .int (nI k), .null, .null, .null, .null] ρ [] := by
  intro k
  induction k with
  | zero => intro D ρ _ hW hE hL; exact ⟨D, ρ, fun _ _ _ => rfl, kX_r ρ, hW, hE, hL, fun R hR => hR⟩
  | succ k ih =>
    intro D ρ hk hW hE hL
    obtain ⟨a, x, ha, hna⟩ := l_next (σ := ρ) ok (n := 8) (by decide) (by decide)
    generalize e1 : sj_st ρ 56 0 x = ρ1 at hna
    obtain ⟨b, y, hb, hnb⟩ := l_next (σ := ρ1) ok (n := 7) (by decide) (by decide)
    generalize e2 : sj_st ρ1 56 0 y = ρ2 at hnb
    have q2 : kX ρ ρ2 := kX_t (σ1 := ρ1) (by rw [← e1]; exact kX_x ρ x) (by rw [← e2]; exact kX_x ρ1 y)
    have n2 : ∀ c, c ≠ 56 → ρ2 c = ρ c := fun c hc => by rw [← e2, z_stn hc, ← e1, z_stn hc]
    have W2 : kW D T ρ2 := kW_e hW (n2 2 (by decide)) (n2 3 (by decide)) (n2 4 (by decide))
    obtain ⟨o, ho⟩ : ∃ o, o = (a + 1 + b) % 8 := ⟨_, rfl⟩
    have ho8 : o < 8 := by omega
    have hne : a ≠ o := by omega
    have eo : (nI a + nI 1 + nI b) - (nI a + nI 1 + nI b) / nI 8 * nI 8 = nI o := by
      rw [nI_add, nI_add, z_rem (by omega) (by decide) (by decide), ho]
    obtain ⟨D1, ρ3, c1, W3, q3, D3, A3⟩ := k_setApart (σ := ρ2) ok W2 ha ho8 hne
    generalize e4 : sj_st (sj_st ρ3 69 (8 * a + o) (nI 1)) 69 (8 * o + a) (nI 1) = ρ4
    have q4 : kX ρ ρ4 := by rw [← e4]; exact kX_t (kX_t (kX_t q2 (kX_c q3)) kX_69) kX_69
    have n4 : ∀ c, c ≠ 69 → ρ4 c = ρ3 c := fun c hc => by rw [← e4, z_stn hc, z_stn hc]
    have W4 : kW D1 T ρ4 := kW_e W3 (n4 2 (by decide)) (n4 3 (by decide)) (n4 4 (by decide))
    have r69 : ρ3 69 = ρ 69 := by rw [q3.1 69 (by decide) (by decide) (by decide) (by decide) (by decide), n2 69 (by decide)]
    have E4 : lE9 D1 ρ4 := fun e p he hp => by
      rw [A3 e p he hp, ← e4]
      by_cases x1 : 8 * e + p = 8 * o + a
      · obtain rfl : e = o := by omega
        obtain rfl : p = a := by omega
        rw [z_ste, decide_eq_true (rfl : e = e), decide_eq_true (rfl : p = p)]
        simp
      · rw [z_sti x1]
        by_cases x2 : 8 * e + p = 8 * a + o
        · obtain rfl : e = a := by omega
          obtain rfl : p = o := by omega
          rw [z_ste, decide_eq_true (rfl : e = e), decide_eq_true (rfl : p = p)]
          simp
        · rw [z_sti x2, r69, hE e p he hp]
          have f1 : (decide (e = a) && decide (p = o)) = false := by
            rw [Bool.and_eq_false_iff, decide_eq_false_iff_not, decide_eq_false_iff_not]
            omega
          have f2 : (decide (e = o) && decide (p = a)) = false := by
            rw [Bool.and_eq_false_iff, decide_eq_false_iff_not, decide_eq_false_iff_not]
            omega
          rw [f1, f2, Bool.or_false, Bool.or_false]
    have L4 : lR D1 ρ4 := by
      have h := lX_R hL q4
      unfold lR at h ⊢
      have g : ∀ f, f ≠ 15 → D1 f = D f := fun f hf => funext (D3 f hf)
      rw [show dN D1 = D1 0 0 from rfl, show dW D1 = D1 1 0 from rfl, show dG D1 = D1 3 from rfl, show dTe D1 = D1 4 from rfl, show dSu D1 = D1 5 from rfl, show dKi D1 = D1 6 from rfl, show dDb D1 = D1 7 from rfl, show dSo D1 = D1 8 from rfl, show dA D1 = D1 9 from rfl, show dB D1 = D1 10 from rfl, show dWe D1 = D1 11 from rfl, show dRo D1 = D1 13 from rfl, g 0 (by decide), g 1 (by decide), g 3 (by decide), g 4 (by decide), g 5 (by decide), g 6 (by decide), g 7 (by decide), g 8 (by decide), g 9 (by decide), g 10 (by decide), g 11 (by decide), g 13 (by decide)]
      exact h
    obtain ⟨D', ρ', g1, g2, g3, g4, g5, g6⟩ := ih D1 ρ4 (by omega) W4 E4 L4
    have hold : ρ2 69 (8 * a + o) = if (dAp D a).testBit o then nI 1 else nI 0 := by rw [n2 69 (by decide)]; exact hE a o ha ho8
    refine ⟨D', ρ', fun f hf j => by rw [g1 f hf j, D3 f hf j], kX_t q4 g2, g3, g4, g5, fun R hR => t_L_areExams_7 hO ⟨fun q => absurd q (nI_nle (by omega) (by omega)), fun _ => ⟨_, _, hna, _, _, hnb, ?_⟩⟩⟩
    rw [eo, pk_mul, nI_add, nI_clamp (by omega), hold, pk_mul, nI_add, nI_clamp (by omega)]
    refine ⟨z_in (by omega) (by decide), fun y6 hy6 => ⟨_, _, c1, fun _ => ⟨z_in (by omega) (by decide), z_in (by omega) (by decide), ?_⟩, fun q => absurd hy6.symm q⟩⟩
    rw [e4, pk_m1]
    exact g6 R hR
theorem l_areExams (ok : sj_ok G) (hO : sj_ad G 70 = sj_ad G 0) (hW : kW D T σ) (hE : lE9 D σ) (hL : lR D σ) : ∃ (D' : zD) (σ' : sj_S), sj_C G 43 me_L_areExams [.ref (sj_ad G 56)] σ (.ok (nI 1), σ') ∧ (∀ f, f ≠ 15 → ∀ j, D' f j = D f j) ∧ kX σ σ' ∧ kW D' T σ' ∧ lR D' σ' := by
  obtain ⟨n, x, hn, hnx⟩ := l_next (σ := σ) ok (n := 16) (by decide) (by decide)
  generalize e1 : sj_st σ 56 0 x = σ1 at hnx
  have q1 : kX σ σ1 := by rw [← e1]; exact kX_x σ x
  have n1 : ∀ c, c ≠ 56 → σ1 c = σ c := fun c hc => by rw [← e1, z_stn hc]
  obtain ⟨D', ρ, g1, g2, g3, g4, g5, g6⟩ := l_apartJ (T := T) ok hO n D σ1 (by omega) (kW_e hW (n1 2 (by decide)) (n1 3 (by decide)) (n1 4 (by decide))) (fun e o he ho => by rw [n1 69 (by decide)]; exact hE e o he ho) (lX_R hL q1)
  have v := g3.1
  obtain ⟨d, g, h1, h8, hg, hmin⟩ := zE_few D'
  have hX : kEx D' d g := ⟨h1, h8, hg, hmin⟩
  have good := (zEf_good 8 0 _ hg).2
  have glt : ∀ e, e < 8 → g e < d := fun e he => (good e (Nat.zero_le e) (by omega)).1
  have gne : ∀ e o, e < 8 → o < e → (dAp D' e).testBit o = true → ¬ g o = g e := fun e o he ho hb hq => by
    have := (good e (Nat.zero_le e) (by omega)).2
    unfold zEo at this
    rw [Bool.not_eq_true', q_any_f] at this
    have := this o ho
    rw [hb, decide_eq_true hq] at this
    cases this
  have cell : ∀ e o, e < 8 → o < 8 → ∀ χ, kQ ρ χ → vp_in (nI 8 * nI e + nI o) 64 ∧ χ 69 (nI 8 * nI e + nI o).toNatClampNeg = if (dAp D' e).testBit o then nI 1 else nI 0 := fun e o he ho χ q => by
    rw [pk_mul, nI_add, nI_clamp (by omega), q 69 (by omega)]
    exact ⟨z_in (by omega) (by decide), g4 e o he ho⟩
  have S255 := zGb_le D' 255
  have Sgood := zGb_good D' 255
  generalize eS : zGb D' 255 = S at S255 Sgood
  have Sbit : ∀ e, e < 32 → bt (nI S) e = S.testBit e := fun e he => z_bn _ _ he
  have Sap : ∀ e o, e < 8 → o < e → S.testBit e = true → S.testBit o = true → (dAp D' e).testBit o = true := fun e o he ho h1 h2 => by
    unfold zIg at Sgood
    rw [Bool.not_eq_true', q_any_f] at Sgood
    have a := Sgood e he
    rw [h1, Bool.true_and, q_any_f] at a
    have b := a o ho
    rw [h2, Bool.true_and, Bool.not_eq_false'] at b
    exact b
  have Spos : 0 < zBc S := by
    have h := zGb_max (D := D') (j := 1) (by
      unfold zIg
      rw [Bool.not_eq_true', q_any_f]
      intro e he
      by_cases e0 : e = 0
      · subst e0; rfl
      · have : Nat.testBit 1 e = false := by
          have h : ∀ e, e < 8 → ¬ e = 0 → Nat.testBit 1 e = false := by decide
          exact h e he e0
        rw [this]; rfl) 254
    rw [show 1 + 254 = 255 from rfl, eS] at h
    have h1 : zBc 1 = 1 := by decide
    omega
  have Sle : zBc S ≤ d := by
    refine q_cnt_inj (P := fun i => S.testBit i) (f := g) (fun i hi _ => glt i hi) (fun i j hj hi h1 h2 => ?_)
    have := gne i j hi hj (Sap i j hi hj h1 h2)
    exact fun e => this e.symm
  -- the group's members
  have third : ∀ k e (χ : sj_S), e + k = 8 → kQ ρ χ → ∃ σ', kQ ρ σ' ∧ sj_J G 43 me_L_areExams (.ok (nI 1), σ') 204 [.ref (sj_ad G 56), .int (nI d), .int (nI (q_cnt (fun i => S.testBit i) e)), .int (nI S), .int (nI e), .null] χ [] := by
    intro k
    induction k with
    | zero =>
      intro e χ he q
      obtain rfl : e = 8 := by omega
      have eb : q_cnt (fun i => S.testBit i) 8 = zBc S := rfl
      obtain ⟨χ1, c1, q1⟩ := k_examDay (σ := χ) ok (kW_q g3 q) hX (by decide : 0 < 8)
      rw [kEx_0 hX] at c1
      refine ⟨χ1, kQ_t q q1, t_L_areExams_204 hO ⟨fun _ => ⟨fun x => ?_, fun _ => ⟨fun x => ?_, fun _ => ⟨_, _, c1, ?_⟩⟩⟩, fun x => absurd (nI_le (Nat.le_refl 8) (by decide)) x⟩⟩
      · rw [eb] at x
        exact absurd x (nI_nle Spos (by omega))
      · rw [eb] at x
        exact absurd x (nI_nlt Sle (by omega))
      · unfold wp_L_areExams_300
        rw [if_pos nI_0]
        exact ⟨rfl, Or.inr rfl⟩
    | succ k ih =>
      intro e χ he q
      have he8 : e < 8 := by omega
      obtain ⟨σ', h1, h2⟩ := ih (e + 1) χ (by omega) q
      rw [q_cnt_s] at h2
      have pairs : ∀ j o, o + j = e → sj_J G 43 me_L_areExams (.ok (nI 1), σ') 223 [.ref (sj_ad G 56), .int (nI d), .int (nI (q_cnt (fun i => S.testBit i) e + (if S.testBit e then 1 else 0))), .int (nI S), .int (nI e), .int (nI o)] χ [] := by
        intro j
        induction j with
        | zero =>
          intro o ho
          obtain rfl : o = e := by omega
          refine t_L_areExams_223 hO ⟨fun _ => ?_, fun x => absurd (nI_le (Nat.le_refl _) (by omega)) x⟩
          rw [nI_add]
          exact h2
        | succ j ihj =>
          intro o ho
          obtain ⟨i1, i2⟩ := cell e o he8 (by omega) χ q
          have on : wp_L_areExams_263 G (.ok (nI 1), σ') (nI d) (nI (q_cnt (fun i => S.testBit i) e + (if S.testBit e then 1 else 0))) (nI S) (nI e) (nI o) χ := by
            unfold wp_L_areExams_263
            rw [nI_add]
            exact ihj (o + 1) (by omega)
          refine t_L_areExams_223 hO ⟨fun x => absurd x (nI_ge (by omega) (by omega)), fun _ => ⟨fun _ => on, fun x => ⟨i1, fun _ => on, fun y => ?_⟩⟩⟩
          exfalso
          rw [nI_2b (by omega) (by omega), Sbit e (by omega), Sbit o (by omega)] at x
          have hb : S.testBit e = true ∧ S.testBit o = true := by
            cases h1 : S.testBit e <;> cases h2 : S.testBit o
            · rw [h1, h2] at x; exact absurd x.symm z_10
            · rw [h1, h2] at x; exact absurd x.symm z_10
            · rw [h1, h2] at x; exact absurd x.symm z_10
            · exact ⟨rfl, rfl⟩
          rw [i2, Sap e o he8 (by omega) hb.1 hb.2] at y
          exact absurd y z_10
      refine ⟨σ', h1, t_L_areExams_204 hO ⟨fun x => absurd x (nI_ge (by omega) (by decide)), fun _ => ?_⟩⟩
      have ebv : ((nI S >>> (nI e &&& 31)) &&& nI 1) = nI (if S.testBit e then 1 else 0) := by
        rw [z_bitv (by omega), Sbit e (by omega)]
        cases S.testBit e <;> rfl
      rw [ebv, nI_add]
      exact pairs e 0 (by omega)
  -- unlike days
  have second : ∀ k e (χ : sj_S), e + k = 8 → kQ ρ χ → ∃ σ', kQ ρ σ' ∧ sj_J G 43 me_L_areExams (.ok (nI 1), σ') 104 [.ref (sj_ad G 56), .int (nI d), .int (nI 0), .int (nI e), .null, .null] χ [] := by
    intro k
    induction k with
    | zero =>
      intro e χ he q
      obtain rfl : e = 8 := by omega
      have hgr := k_group (σ := χ) ok (kW_q g3 q)
      rw [eS] at hgr
      obtain ⟨σ', h1, h2⟩ := third 8 0 χ (by decide) q
      exact ⟨σ', h1, t_L_areExams_104 hO ⟨fun _ => ⟨_, _, hgr, h2⟩, fun x => absurd (nI_le (Nat.le_refl 8) (by decide)) x⟩⟩
    | succ k ih =>
      intro e χ he q
      have he8 : e < 8 := by omega
      obtain ⟨χ1, c1, q1⟩ := k_examDay (σ := χ) ok (kW_q g3 q) hX he8
      obtain ⟨χ2, c2, q2⟩ := k_examDay (σ := χ1) ok (kW_q g3 (kQ_t q q1)) hX he8
      have gl := glt e he8
      have inner : ∀ j o (ω : sj_S), o + j = e → kQ ρ ω → ∃ σ', kQ ρ σ' ∧ sj_J G 43 me_L_areExams (.ok (nI 1), σ') 138 [.ref (sj_ad G 56), .int (nI d), .int (nI 0), .int (nI e), .int (nI o), .null] ω [] := by
        intro j
        induction j with
        | zero =>
          intro o ω ho qω
          obtain rfl : o = e := by omega
          obtain ⟨σ', h1, h2⟩ := ih (o + 1) ω (by omega) qω
          refine ⟨σ', h1, t_L_areExams_138 hO ⟨fun _ => ?_, fun x => absurd (nI_le (Nat.le_refl _) (by omega)) x⟩⟩
          rw [nI_add]
          exact h2
        | succ j ihj =>
          intro o ω ho qω
          obtain ⟨i1, i2⟩ := cell e o he8 (by omega) ω qω
          cases hb : (dAp D' e).testBit o
          · rw [hb] at i2
            obtain ⟨σ', h1, h2⟩ := ihj (o + 1) ω (by omega) qω
            refine ⟨σ', h1, t_L_areExams_138 hO ⟨fun x => absurd x (nI_ge (by omega) (by omega)), fun _ => ⟨i1, fun _ => ?_, fun x => ?_⟩⟩⟩
            · unfold wp_L_areExams_181
              rw [nI_add]
              exact h2
            · rw [i2] at x
              exact absurd nI_0 x
          · rw [hb] at i2
            obtain ⟨ω1, d1, r1⟩ := k_examDay (σ := ω) ok (kW_q g3 qω) hX (by omega : o < 8)
            obtain ⟨ω2, d2, r2⟩ := k_examDay (σ := ω1) ok (kW_q g3 (kQ_t qω r1)) hX he8
            have go := glt o (by omega)
            have hne := gne e o he8 (by omega) hb
            obtain ⟨σ', h1, h2⟩ := ihj (o + 1) ω2 (by omega) (kQ_t (kQ_t qω r1) r2)
            refine ⟨σ', h1, t_L_areExams_138 hO ⟨fun x => absurd x (nI_ge (by omega) (by omega)), fun _ => ⟨i1, fun x => ?_, fun _ => ⟨_, _, d1, _, _, d2, fun _ => ?_, fun x => ?_⟩⟩⟩⟩
            · rw [i2] at x
              exact absurd x z_10
            · unfold wp_L_areExams_181
              rw [nI_add]
              exact h2
            · exact absurd ((nI_eq (by omega) (by omega)).mp x) hne
      obtain ⟨σ', h1, h2⟩ := inner e 0 χ2 (by omega) (kQ_t (kQ_t q q1) q2)
      exact ⟨σ', h1, t_L_areExams_104 hO ⟨fun x => absurd x (nI_ge (by omega) (by decide)), fun _ => ⟨_, _, c1, fun x => absurd x (nI_pos (by omega)), fun _ => ⟨_, _, c2, fun _ => h2, fun x => absurd (nI_lt gl (by omega)) x⟩⟩⟩⟩
  obtain ⟨ρ1, c1, q2⟩ := k_daysNeeded (σ := ρ) ok g3 hX
  obtain ⟨σ', h1, h2⟩ := second 8 0 ρ1 (by decide) q2
  refine ⟨D', σ', c_L_areExams ok hO ⟨_, _, hnx, g6 _ (t_L_areExams_7 hO ⟨fun _ => ⟨_, _, c1, h2⟩, fun x => absurd (by decide) x⟩)⟩, g1, kX_t q1 (kX_t g2 (kX_q h1)), kW_q g3 h1, lX_R g5 (kX_q h1)⟩
end L11
