/-! P59, THE LAW 10: colours, exams -/
/-- what is left alone once the table is told -/
def kX (σ σ' : sj_S) : Prop := (∀ b, (b = 33 ∨ (46 ≤ b ∧ b ≤ 51) ∨ (57 ≤ b ∧ b ≤ 67)) → σ' b = σ b) ∧ (∀ k, k ≠ 3 → σ' 30 k = σ 30 k) ∧ ∀ k, k ≠ 0 → σ' 56 k = σ 56 k
theorem kX_r (σ : sj_S) : kX σ σ := ⟨fun _ _ => rfl, fun _ _ => rfl, fun _ _ => rfl⟩
theorem kX_t {σ σ1 σ2 : sj_S} (h : kX σ σ1) (g : kX σ1 σ2) : kX σ σ2 := ⟨fun b hb => (g.1 b hb).trans (h.1 b hb), fun k hk => (g.2.1 k hk).trans (h.2.1 k hk), fun k hk => (g.2.2 k hk).trans (h.2.2 k hk)⟩
theorem kX_q {σ σ' : sj_S} (h : kQ σ σ') : kX σ σ' := ⟨fun b hb => h b (by omega), fun k _ => by rw [h 30 (by omega)], fun k _ => by rw [h 56 (by omega)]⟩
theorem kX_c {σ σ' : sj_S} (h : kCh σ σ') : kX σ σ' := ⟨fun b hb => h.1 b (by omega) (by omega) (by omega) (by omega) (by omega), h.2, fun k _ => by rw [h.1 56 (by decide) (by decide) (by decide) (by decide) (by decide)]⟩
theorem kX_n {σ σ' : sj_S} (h : kN σ σ') : kX σ σ' := ⟨fun b hb => h.1 b (by omega), h.2.1, h.2.2⟩
theorem kX_69 {σ : sj_S} {i : Nat} {x : Int32} : kX σ (sj_st σ 69 i x) := ⟨fun b hb => z_stn (by omega), fun k _ => by rw [z_stn (by decide)], fun k _ => by rw [z_stn (by decide)]⟩
theorem kX_x (σ : sj_S) (x : Int32) : kX σ (sj_st σ 56 0 x) := ⟨fun b hb => z_stn (by omega), fun k _ => by rw [z_stn (by decide)], fun k hk => z_sti hk⟩
theorem kX_rd {σ σ' : sj_S} {r : Nat} (h : kX σ σ') (g : zRd σ r) : zRd σ' r := ⟨by rw [h.2.1 7 (by decide)]; exact g.1, by rw [h.1 33 (by omega)]; exact g.2⟩
theorem lX_R {D : zD} {σ σ' : sj_S} (hL : lR D σ) (q : kX σ σ') : lR D σ' := lR_e hL (fun b hb => q.1 b (by
  have : ∀ b, b ∈ [57, 58, 59, 60, 61, 63, 64, 65, 66, 67] → 57 ≤ b ∧ b ≤ 67 := by decide
  have := this b hb
  omega)) (q.2.2 13 (by decide)) (q.2.2 14 (by decide))
/-- the most lessons of one of those ahead -/
def lMs (D : zD) : Nat → Nat
  | 0 => 0
  | l + 1 => if lMs D l < (if zTot D 0 (dG D l) (dN D) < zTot D 1 (dTe D l) (dN D) then zTot D 1 (dTe D l) (dN D) else zTot D 0 (dG D l) (dN D)) then (if zTot D 0 (dG D l) (dN D) < zTot D 1 (dTe D l) (dN D) then zTot D 1 (dTe D l) (dN D) else zTot D 0 (dG D l) (dN D)) else lMs D l
theorem lMs_le {D : zD} {B : Nat} : ∀ n, lMs D n ≤ B ↔ ∀ l, l < n → zTot D 0 (dG D l) (dN D) ≤ B ∧ zTot D 1 (dTe D l) (dN D) ≤ B := by
  intro n
  induction n with
  | zero => exact ⟨fun _ l hl => absurd hl (Nat.not_lt_zero l), fun _ => Nat.zero_le B⟩
  | succ n ih =>
    have e : lMs D (n + 1) ≤ B ↔ lMs D n ≤ B ∧ zTot D 0 (dG D n) (dN D) ≤ B ∧ zTot D 1 (dTe D n) (dN D) ≤ B := by
      show (if lMs D n < (if zTot D 0 (dG D n) (dN D) < zTot D 1 (dTe D n) (dN D) then zTot D 1 (dTe D n) (dN D) else zTot D 0 (dG D n) (dN D)) then (if zTot D 0 (dG D n) (dN D) < zTot D 1 (dTe D n) (dN D) then zTot D 1 (dTe D n) (dN D) else zTot D 0 (dG D n) (dN D)) else lMs D n) ≤ B ↔ _
      repeat' split
      all_goals omega
    rw [e, ih]
    constructor
    · rintro ⟨h1, h2⟩ l hl
      by_cases q : l = n
      · rw [q]; exact h2
      · exact h1 l (by omega)
    · intro h
      exact ⟨fun l hl => h l (by omega), h n (by omega)⟩
theorem lMs_mo {D : zD} (v : okD D) : lMs D (dN D) = zMo D := by
  have h1 : lMs D (dN D) ≤ zMo D := (lMs_le (dN D)).mpr (fun l hl => ⟨zMo_le v (b := 0) (by decide) hl, zMo_le v (b := 1) (by decide) hl⟩)
  have h2 : zMo D ≤ lMs D (dN D) := by
    have hx := (lMs_le (D := D) (B := lMs D (dN D)) (dN D)).mp (Nat.le_refl _)
    have tot : ∀ b p, (∀ l, l < dN D → dP D b l = p → zTot D b p (dN D) ≤ lMs D (dN D)) → zTot D b p (dN D) ≤ lMs D (dN D) := fun b p h => by
      by_cases e : zTot D b p (dN D) = 0
      · rw [e]; exact Nat.zero_le _
      · obtain ⟨l, h1, h2⟩ := l_cex (dN D) (Nat.pos_of_ne_zero e)
        exact h l h1 (of_decide_eq_true h2)
    unfold zMo
    rw [zMf_le]
    refine ⟨Nat.zero_le _, fun j _ hj => ?_⟩
    unfold zTk2
    split
    · exact tot 0 (j - 6) (fun l hl e => by rw [← e]; exact (hx l hl).1)
    · exact tot 1 j (fun l hl e => by rw [← e]; exact (hx l hl).2)
  omega
theorem zGb_max {D : zD} {j : Nat} (h : zIg D j = true) : ∀ k, zBc j ≤ zBc (zGb D (j + k)) := by
  intro k
  induction k with
  | zero =>
    cases j with
    | zero => exact Nat.le_refl _
    | succ j =>
      show zBc (j + 1) ≤ zBc (if zBc (zGb D j) < zBc (j + 1) ∧ zIg D (j + 1) = true then j + 1 else zGb D j)
      split
      · exact Nat.le_refl _
      · rename_i q
        by_cases e : zBc (zGb D j) < zBc (j + 1)
        · exact absurd ⟨e, h⟩ q
        · omega
  | succ k ih =>
    show zBc j ≤ zBc (if zBc (zGb D (j + k)) < zBc (j + k + 1) ∧ zIg D (j + k + 1) = true then j + k + 1 else zGb D (j + k))
    split
    · rename_i q
      have := q.1
      omega
    · exact ih
theorem nI_2b {x : Int32} {e k : Nat} (he : e < 32) (hk : k < 32) : (((x >>> (nI e &&& 31)) &&& (x >>> (nI k &&& 31))) &&& nI 1) = (if (bt x e && bt x k) then nI 1 else nI 0) := by
  have h : (((x >>> (nI e &&& 31)) &&& (x >>> (nI k &&& 31))) &&& nI 1) = ((x >>> (nI e &&& 31)) &&& nI 1) &&& ((x >>> (nI k &&& 31)) &&& nI 1) := by
    apply b_ext
    intro i hi
    rw [b_and, b_and, b_and, b_and, b_and]
    cases bt (x >>> (nI e &&& 31)) i <;> cases bt (x >>> (nI k &&& 31)) i <;> cases bt (nI 1) i <;> rfl
  rw [h, z_bitv he, z_bitv hk]
  cases bt x e <;> cases bt x k <;> decide
section L10
variable {G : sj_G} {σ : sj_S} {D : zD} {T : Nat → Nat}
theorem nI_max {a b : Nat} (ha : a < 2 ^ 31) (hb : b < 2 ^ 31) : (if nI a < nI b then nI b else nI a) = nI (if a < b then b else a) := by
  by_cases q : a < b
  · rw [if_pos q, if_pos (nI_lt q hb)]
  · rw [if_neg q, if_neg (nI_nlt (by omega) ha)]
theorem l_areColours (ok : sj_ok G) (hO : sj_ad G 70 = sj_ad G 0) (h : kW D T σ) (hL : lR D σ) : ∃ σ', sj_C G 11 me_L_areColours [.ref (sj_ad G 56)] σ (.ok (nI 1), σ') ∧ kQ σ σ' := by
  have v := h.1
  have h9 := v.1
  have hin : ∀ l, l < dN D → vp_in (nI l) 9 := fun l hl => z_in (by omega) (by decide)
  obtain ⟨pro, clt⟩ := zCo_ok v (dN D) (Nat.le_refl _)
  have mo9 := zMo_9 v
  have emo := lMs_mo v
  have tle : ∀ b p n, zTot D b p n ≤ n := fun b p n => q_cnt_le _ n
  have ms9 : ∀ l, l ≤ dN D → lMs D l ≤ 9 := fun l hl => (lMs_le l).mpr (fun o ho => ⟨Nat.le_trans (tle _ _ _) h9, Nat.le_trans (tle _ _ _) h9⟩)
  have cells : ∀ l, l < dN D → ∀ ρ, kQ σ ρ → ρ 57 l = nI (dG D l) ∧ ρ 58 l = nI (dTe D l) ∧ dG D l < 4 ∧ dTe D l < 6 := fun l hl ρ q => by
    obtain ⟨a1, a2, -, -, -⟩ := hL.2.2.1 l hl
    obtain ⟨b1, b2, -, -, -⟩ := v.2.2.2.1 l hl
    rw [q 57 (by omega), q 58 (by omega)]
    exact ⟨a1, a2, b1, b2⟩
  -- the second loop
  have second : ∀ k l (ρ : sj_S), l + k = dN D → kQ σ ρ → ∃ σ', kQ σ σ' ∧ sj_J G 11 me_L_areColours (.ok (nI 1), σ') 164 [.ref (sj_ad G 56), .int (nI (zMo D)), .int (nI l), .null, .null, .null] ρ [] := by
    intro k
    induction k with
    | zero =>
      intro l ρ hl q
      obtain rfl : l = dN D := by omega
      have hm := k_most (σ := ρ) ok (kW_q h q)
      rw [zMost_eq] at hm
      refine ⟨ρ, q, t_L_areColours_164 hO ⟨fun _ => ⟨_, _, hm, ?_⟩, fun x => ?_⟩⟩
      · unfold wp_L_areColours_219
        have e : nI (zMf (zTk2 D) 10 0 0) = nI (zMo D) := rfl
        rw [if_pos e]
        exact ⟨rfl, Or.inr rfl⟩
      · rw [q 56 (by omega), hL.1] at x
        exact absurd (nI_le (Nat.le_refl _) (by omega)) x
    | succ k ih =>
      intro l ρ hl q
      have hlN : l < dN D := by omega
      have hcl := clt l hlN
      obtain ⟨ρ1, c1, q1⟩ := k_colour (σ := ρ) ok (kW_q h q) hlN
      obtain ⟨ρ2, c2, q2⟩ := k_colour (σ := ρ1) ok (kW_q h (kQ_t q q1)) hlN
      obtain ⟨σ', g1, g2⟩ := ih (l + 1) ρ2 (by omega) (kQ_t (kQ_t q q1) q2)
      refine ⟨σ', g1, t_L_areColours_164 hO ⟨fun x => ?_, fun _ => ⟨_, _, c1, fun x => absurd x (nI_pos (by omega)), fun _ => ⟨_, _, c2, fun _ => ?_, fun x => absurd (nI_lt hcl (by omega)) x⟩⟩⟩⟩
      · rw [q 56 (by omega), hL.1] at x
        exact absurd x (nI_ge (by omega) (by omega))
      · rw [nI_add]
        exact g2
  -- the first
  have inner : ∀ l, l < dN D → (∀ ρ, kQ σ ρ → ∃ σ', kQ σ σ' ∧ sj_J G 11 me_L_areColours (.ok (nI 1), σ') 4 [.ref (sj_ad G 56), .int (nI (lMs D (l + 1))), .int (nI (l + 1)), .null, .null, .null] ρ []) →
      ∀ k o (ρ : sj_S), o + k = dN D → kQ σ ρ → ∃ σ', kQ σ σ' ∧ sj_J G 11 me_L_areColours (.ok (nI 1), σ') 20 [.ref (sj_ad G 56), .int (nI (lMs D l)), .int (nI l), .int (nI (zTot D 0 (dG D l) o)), .int (nI (zTot D 1 (dTe D l) o)), .int (nI o)] ρ [] := by
    intro l hl hnx k
    induction k with
    | zero =>
      intro o ρ ho q
      obtain rfl : o = dN D := by omega
      obtain ⟨σ', g1, g2⟩ := hnx ρ q
      have t0 := tle 0 (dG D l) (dN D)
      have t1 := tle 1 (dTe D l) (dN D)
      have m9 := ms9 l (by omega)
      refine ⟨σ', g1, t_L_areColours_20 hO ⟨fun _ => ?_, fun x => ?_⟩⟩
      · rw [nI_max (by omega) (by omega), nI_max (by omega) (by split <;> omega), nI_add]
        exact g2
      · rw [q 56 (by omega), hL.1] at x
        exact absurd (nI_le (Nat.le_refl _) (by omega)) x
    | succ k ih =>
      intro o ρ ho q
      have hoN : o < dN D := by omega
      obtain ⟨a1, a2, a3, a4⟩ := cells l hl ρ q
      obtain ⟨b1, b2, b3, b4⟩ := cells o hoN ρ q
      have e0 : zTot D 0 (dG D l) (o + 1) = zTot D 0 (dG D l) o + (if decide (dG D o = dG D l) then 1 else 0) := rfl
      have e1 : zTot D 1 (dTe D l) (o + 1) = zTot D 1 (dTe D l) o + (if decide (dTe D o = dTe D l) then 1 else 0) := rfl
      have c0 : (if nI (dG D o) = nI (dG D l) then nI 1 else nI 0) = nI (if decide (dG D o = dG D l) then 1 else 0) := by
        by_cases e : dG D o = dG D l
        · rw [decide_eq_true e, if_pos (by rw [e])]; rfl
        · rw [decide_eq_false e, if_neg (fun q => e ((nI_eq (by omega) (by omega)).mp q))]; rfl
      have c1 : (if nI (dTe D o) = nI (dTe D l) then nI 1 else nI 0) = nI (if decide (dTe D o = dTe D l) then 1 else 0) := by
        by_cases e : dTe D o = dTe D l
        · rw [decide_eq_true e, if_pos (by rw [e])]; rfl
        · rw [decide_eq_false e, if_neg (fun q => e ((nI_eq (by omega) (by omega)).mp q))]; rfl
      have start : ∀ σ', wp_L_areColours_76 G (.ok (nI 1), σ') (nI (lMs D l)) (nI l) (nI (zTot D 0 (dG D l) (o + 1))) (nI o) (nI (if decide (dTe D o = dTe D l) then 1 else 0)) (nI (zTot D 1 (dTe D l) o)) ρ → sj_J G 11 me_L_areColours (.ok (nI 1), σ') 20 [.ref (sj_ad G 56), .int (nI (lMs D l)), .int (nI l), .int (nI (zTot D 0 (dG D l) o)), .int (nI (zTot D 1 (dTe D l) o)), .int (nI o)] ρ [] := fun σ' hw => by
        refine t_L_areColours_20 hO ⟨fun x => ?_, fun _ => ⟨hin o hoN, hin l hl, ?_⟩⟩
        · rw [q 56 (by omega), hL.1] at x
          exact absurd x (nI_ge (by omega) (by omega))
        · rw [nI_clamp (by omega), nI_clamp (by omega), a1, b1, c0]
          refine ⟨hin o hoN, hin l hl, ?_⟩
          rw [nI_clamp (by omega), nI_clamp (by omega), a2, b2, c1, nI_add, ← e0]
          exact hw
      have next : ∀ ρ2, kQ σ ρ2 → ∃ σ', kQ σ σ' ∧ wp_L_areColours_139 G (.ok (nI 1), σ') (nI (lMs D l)) (nI l) (nI (zTot D 0 (dG D l) (o + 1))) (nI (zTot D 1 (dTe D l) (o + 1))) (nI o) ρ2 := fun ρ2 q2 => by
        obtain ⟨σ', g1, g2⟩ := ih (o + 1) ρ2 (by omega) q2
        refine ⟨σ', g1, ?_⟩
        unfold wp_L_areColours_139
        rw [nI_add]
        exact g2
      by_cases hlo : l ≤ o
      · obtain ⟨σ', g1, g2⟩ := next ρ q
        refine ⟨σ', g1, start σ' ⟨fun _ => ?_, fun x => absurd (nI_le hlo (by omega)) x⟩⟩
        rw [nI_add, ← e1]
        exact g2
      · by_cases hs : dG D o = dG D l ∨ dTe D o = dTe D l
        · obtain ⟨ρ1, d1, q1⟩ := k_colour (σ := ρ) ok (kW_q h q) hoN
          obtain ⟨ρ2, d2, q2⟩ := k_colour (σ := ρ1) ok (kW_q h (kQ_t q q1)) hl
          obtain ⟨σ', g1, g2⟩ := next ρ2 (kQ_t (kQ_t q q1) q2)
          have hne : ¬ zCo D (zMo D) (dN D) o = zCo D (zMo D) (dN D) l := fun e => by
            rcases hs with x | x
            · have := pro 0 o l (by decide) hoN hl x e
              omega
            · have := pro 1 o l (by decide) hoN hl x e
              omega
          have cl := clt l hl
          have co := clt o hoN
          have w117 : wp_L_areColours_117 G (.ok (nI 1), σ') (nI (lMs D l)) (nI l) (nI (zTot D 0 (dG D l) (o + 1))) (nI (zTot D 1 (dTe D l) (o + 1))) (nI o) ρ :=
            ⟨_, _, d1, _, _, d2, fun _ => g2, fun x => absurd ((nI_eq (by omega) (by omega)).mp x) hne⟩
          refine ⟨σ', g1, start σ' ⟨fun x => absurd x (nI_ge (by omega) (by omega)), fun _ => ⟨hin o hoN, hin l hl, ?_, ?_⟩⟩⟩
          · intro _
            rw [nI_add, ← e1]
            exact w117
          · rw [nI_clamp (by omega), nI_clamp (by omega), a1, b1, a2, b2]
            intro x
            refine ⟨hin o hoN, hin l hl, fun y => ?_, fun _ => ?_⟩
            · exfalso
              rcases hs with e | e
              · exact x (by rw [e])
              · exact y (by rw [e])
            · rw [nI_add, ← e1]
              exact w117
        · obtain ⟨σ', g1, g2⟩ := next ρ q
          refine ⟨σ', g1, start σ' ⟨fun x => absurd x (nI_ge (by omega) (by omega)), fun _ => ⟨hin o hoN, hin l hl, ?_, ?_⟩⟩⟩
          · rw [nI_clamp (by omega), nI_clamp (by omega), a1, b1]
            intro x
            exact absurd (Or.inl ((nI_eq (by omega) (by omega)).mp x)) hs
          · rw [nI_clamp (by omega), nI_clamp (by omega), a2, b2]
            intro _
            refine ⟨hin o hoN, hin l hl, fun _ => ?_, fun x => ?_⟩
            · rw [nI_add, ← e1]
              exact g2
            · exact absurd (Or.inr ((nI_eq (by omega) (by omega)).mp x)) hs
  have first : ∀ k l (ρ : sj_S), l + k = dN D → kQ σ ρ → ∃ σ', kQ σ σ' ∧ sj_J G 11 me_L_areColours (.ok (nI 1), σ') 4 [.ref (sj_ad G 56), .int (nI (lMs D l)), .int (nI l), .null, .null, .null] ρ [] := by
    intro k
    induction k with
    | zero =>
      intro l ρ hl q
      obtain rfl : l = dN D := by omega
      obtain ⟨σ', g1, g2⟩ := second (dN D) 0 ρ (by omega) q
      refine ⟨σ', g1, t_L_areColours_4 hO ⟨fun _ => ?_, fun x => ?_⟩⟩
      · rw [emo]
        exact g2
      · rw [q 56 (by omega), hL.1] at x
        exact absurd (nI_le (Nat.le_refl _) (by omega)) x
    | succ k ih =>
      intro l ρ hl q
      obtain ⟨σ', g1, g2⟩ := inner l (by omega) (fun ρ2 q2 => ih (l + 1) ρ2 (by omega) q2) (dN D) 0 ρ (by omega) q
      refine ⟨σ', g1, t_L_areColours_4 hO ⟨fun x => ?_, fun _ => g2⟩⟩
      rw [q 56 (by omega), hL.1] at x
      exact absurd x (nI_ge (by omega) (by omega))
  obtain ⟨σ', g1, g2⟩ := first (dN D) 0 σ (by omega) (kQ_r σ)
  exact ⟨σ', c_L_areColours ok hO g2, g1⟩
end L10
