/-! FIND: the first table, or the proof -/
theorem zRi_H {D : zD} {H H' : Nat → Bool} {T : Nat → Nat} (h : ∀ w, w < dW D → H w = H' w) (r : zRi D H T) : zRi D H' T := zRi_all.mpr (fun l hl => by rw [← zAl_H h (fun _ _ => rfl)]; exact zRi_all.mp r l hl)
theorem zFst_H {D : zD} {H H' : Nat → Bool} {T : Nat → Nat} (h : ∀ w, w < dW D → H w = H' w) (r : zFst D H T) : zFst D H' T := ⟨zRi_H h r.1, fun V hV => r.2 V (zRi_H (fun w hw => (h w hw).symm) hV)⟩
section ZFD
variable {G : sj_G} {σ : sj_S} {D : zD} {r : Nat}
/-- what find leaves, a round being at most 200 further -/
def zIF (σ : sj_S) (r : Nat) (σ' : sj_S) : Prop := zA σ' ∧ (∀ b, b ∈ [46, 47, 48, 49, 50, 51, 52, 54, 55, 70, 71, 72, 73, 74, 75, 76] → σ' b = σ b) ∧ (∀ k, k ∈ [21, 22, 26, 27, 29] → σ' 56 k = σ 56 k) ∧ ∃ r', r' ≤ r + 200 ∧ zRd σ' r'
/-- isOut[] wiped -/
theorem y_wipe (pc : Nat) (step : ∀ (R : sj_R) i (τ : sj_S), i < 12 → sj_J G 8 me_X12_find R pc [.ref (sj_ad G 56), .int (nI (i + 1))] (sj_st τ 60 i (nI 0)) [] → sj_J G 8 me_X12_find R pc [.ref (sj_ad G 56), .int (nI i)] τ []) :
    ∀ k i (τ : sj_S), i + k = 12 → ∃ ρ : sj_S, (∀ x, x ≠ 60 → ρ x = τ x) ∧ (∀ j, i ≤ j → j < 12 → ρ 60 j = nI 0) ∧ (∀ j, j < i → ρ 60 j = τ 60 j) ∧ ∀ R : sj_R, sj_J G 8 me_X12_find R pc [.ref (sj_ad G 56), .int (nI 12)] ρ [] → sj_J G 8 me_X12_find R pc [.ref (sj_ad G 56), .int (nI i)] τ [] := by
  intro k
  induction k with
  | zero =>
    intro i τ hi
    obtain rfl : i = 12 := by omega
    exact ⟨τ, fun _ _ => rfl, fun j h1 h2 => absurd h2 (by omega), fun _ _ => rfl, fun _ h => h⟩
  | succ k ih =>
    intro i τ hi
    obtain ⟨ρ, h1, h2, h3, h4⟩ := ih (i + 1) (sj_st τ 60 i (nI 0)) (by omega)
    refine ⟨ρ, fun x hx => by rw [h1 x hx, z_stn hx], fun j j1 j2 => ?_, fun j hj => by rw [h3 j (by omega), z_sti (by omega)], fun R hR => step R i τ (by omega) (h4 R hR)⟩
    by_cases e : j = i
    · subst e; rw [h3 j (by omega), z_ste]
    · exact h2 j (by omega) j2
/-- the proof, as the reference finds it -/
theorem y_findP (ok : sj_ok G) (v : okD D) : ∀ k w (τ : sj_S) (U : Nat → Bool), w + k = dW D → repM D (τ 57) → zUo D (fun o => decide (o < w) && U o) (τ 60) → zPf D U w → τ 56 7 = nI (q_cnt (zHu D U) w) → zPl (zHu D U) (τ 62) w →
    ∃ (ρ : sj_S) (V : Nat → Bool), (∀ R : sj_R, sj_J G 8 me_X12_find R 132 [.ref (sj_ad G 56), .int (nI 0)] ρ [] → sj_J G 8 me_X12_find R 54 [.ref (sj_ad G 56), .int (nI w)] τ []) ∧ (∀ x, x ≠ 56 → x ≠ 59 → x ≠ 60 → x ≠ 61 → x ≠ 62 → ρ x = τ x) ∧ (∀ k, k ≠ 7 → ρ 56 k = τ 56 k) ∧ zPf D V (dW D) ∧ ρ 56 7 = nI (q_cnt (zHu D V) (dW D)) ∧ zPl (zHu D V) (ρ 62) (dW D) := by
  have h12 := v.2.1
  intro k
  induction k with
  | zero =>
    intro w τ U hw hM hU hP h7 hL
    obtain rfl : w = dW D := by omega
    exact ⟨τ, U, fun R hR => t_X12_find_54 ⟨fun _ => hR, fun q => by rw [hM.2.1] at q; exact absurd (nI_le (Nat.le_refl _) (by omega)) q⟩, fun _ _ _ _ _ _ => rfl, fun _ _ => rfl, hP, h7, hL⟩
  | succ k ih =>
    intro w τ U hw hM hU hP h7 hL
    have hwe := (v.2.2.2.2.1 w (by omega)).2.1
    have hin : vp_in (nI w) 12 := z_in (by omega) (by decide)
    have kw : (nI w).toNatClampNeg = w := nI_clamp (by omega)
    have k81 : ((nI 81) + (nI w)).toNatClampNeg = 81 + w := by rw [nI_add, nI_clamp (by omega)]
    have v81 : vp_in ((nI 81) + (nI w)) 128 := by rw [nI_add]; exact z_in (by omega) (by decide)
    have e81 : (τ 57 ((nI 81) + (nI w)).toNatClampNeg = 0) = (dWe D w = 0) := by rw [k81, (hM.2.2.2.2.1 w (by omega)).2.2.2]; exact propext (by rw [← nI_0]; exact nI_eq (by omega) (by decide))
    have nl : ¬ τ 57 126 ≤ nI w := by rw [hM.2.1]; exact nI_ge (by omega) (by omega)
    have hc : q_cnt (zHu D U) w ≤ w := q_cnt_le _ _
    have hsame : ∀ (b : Bool) o, o < w → zHu D (fun o => if o = w then b else U o) o = zHu D U o := fun b o ho => by
      show (decide (dWe D o = 0) && !(if o = w then b else U o)) = _
      rw [if_neg (by omega)]; rfl
    have hcnt : ∀ b, q_cnt (zHu D (fun o => if o = w then b else U o)) w = q_cnt (zHu D U) w := fun b => q_cnt_congr w (fun o ho => hsame b o ho)
    have hUs : ∀ (b : Bool) o, (decide (o < w + 1) && (if o = w then b else U o)) = (if o = w then b else (decide (o < w) && U o)) := fun b o => by
      by_cases e : o = w
      · rw [if_pos e, if_pos e, decide_eq_true (by omega : o < w + 1), Bool.true_and]
      · rw [if_neg e, if_neg e, decide_eq_decide.mpr (by omega : o < w + 1 ↔ o < w)]
    by_cases hz : dWe D w = 0
    · have hd : zHd D w = true := decide_eq_true hz
      -- without it
      generalize eτ1 : sj_st τ 60 w (nI 1) = τ1
      have hU1 : zUo D (fun o => decide (o = w) || (decide (o < w) && U o)) (τ1 60) := fun o ho => by
        rw [← eτ1]
        by_cases e : o = w
        · subst e
          show _ = if (decide (o = o) || (decide (o < o) && U o)) = true then nI 1 else nI 0
          rw [z_ste, decide_eq_true (rfl : o = o)]; rfl
        · show _ = if (decide (o = w) || (decide (o < w) && U o)) = true then nI 1 else nI 0
          rw [z_sti e, hU o ho, decide_eq_false e]; rfl
      have n57 : τ1 57 = τ 57 := by rw [← eτ1]; exact z_stn (by decide)
      obtain ⟨b, ρ1, c1, c2, c3, c4⟩ := y_looks ok (σ := τ1) (by rw [n57]; exact hM) v hU1
      have eK : zHu D (fun o => decide (o = w) || (decide (o < w) && U o)) = zKq D U w := rfl
      rw [eK] at c3 c4
      have hb : (!b) = true ↔ zHd D w = true ∧ ∀ T, ¬ zRi D (zKq D U w) T := by
        rw [hd]
        cases hb : b
        · exact ⟨fun _ => ⟨rfl, c4 hb⟩, fun _ => rfl⟩
        · obtain ⟨T, hT, -⟩ := c3 hb
          exact ⟨fun y => (by cases y), fun y => absurd hT.1 (y.2 T)⟩
      have f1 : ∀ x, x ≠ 59 → x ≠ 60 → x ≠ 61 → ρ1 x = τ x := fun x h1 h2 h3 => by rw [c2 x h1 h3, ← eτ1, z_stn h2]
      have f60 : ρ1 60 = τ1 60 := c2 60 (by decide) (by decide)
      cases hb' : b
      · -- of no need
        rw [hb'] at c1 hb
        have hHw : zHu D (fun o => if o = w then true else U o) w = false := by
          show (decide (dWe D w = 0) && !(if w = w then true else U w)) = false
          rw [if_pos rfl]; simp
        obtain ⟨ρ, V, d1, d2, d3, d4⟩ := ih (w + 1) ρ1 (fun o => if o = w then true else U o) (by omega) (by rw [f1 57 (by decide) (by decide) (by decide)]; exact hM) (fun o ho => by
          rw [f60, hU1 o ho]
          show (if (decide (o = w) || (decide (o < w) && U o)) = true then nI 1 else nI 0) = if (decide (o < w + 1) && (if o = w then true else U o)) = true then nI 1 else nI 0
          rw [hUs]
          by_cases e : o = w
          · rw [if_pos e, decide_eq_true e]; rfl
          · rw [if_neg e, decide_eq_false e]; rfl) (zPf_s true hP hb) (by rw [f1 56 (by decide) (by decide) (by decide), h7, q_cnt_s, hHw, if_neg (by decide), hcnt, Nat.add_zero]) (fun j hj hp => by
          by_cases e : j = w
          · subst e; rw [hHw] at hp; cases hp
          · rw [hsame true j (by omega)] at hp
            rw [f1 62 (by decide) (by decide) (by decide), q_cnt_congr j (fun o ho => hsame true o (by omega))]
            exact hL j (by omega) hp)
        refine ⟨ρ, V, fun R hR => t_X12_find_54 ⟨fun q => absurd q nl, fun _ => ⟨v81, fun _ => ⟨hin, _, _, by rw [kw, eτ1]; exact c1, fun q => absurd z_00 q, ?_⟩, fun q => absurd (by rw [e81]; exact hz) q⟩⟩, fun x h1 h2 h3 h4 h5 => by rw [d2 x h1 h2 h3 h4 h5, f1 x h2 h3 h4], fun k hk => by rw [d3 k hk, f1 56 (by decide) (by decide) (by decide)], d4⟩
        rw [if_pos z_00]
        unfold wp_X12_find_124
        rw [nI_add]
        exact d1 R hR
      · -- needed
        rw [hb'] at c1 hb
        have hHw : zHu D (fun o => if o = w then false else U o) w = true := by
          show (decide (dWe D w = 0) && !(if w = w then false else U w)) = true
          rw [if_pos rfl, decide_eq_true hz]; rfl
        have e7 : ρ1 56 7 = nI (q_cnt (zHu D U) w) := by rw [f1 56 (by decide) (by decide) (by decide), h7]
        obtain ⟨ρ, V, d1, d2, d3, d4⟩ := ih (w + 1) (sj_st (sj_st (sj_st ρ1 60 w (nI 0)) 62 (q_cnt (zHu D U) w) (nI w)) 56 7 (nI (q_cnt (zHu D U) w + 1))) (fun o => if o = w then false else U o) (by omega) (by rw [z_stn (by decide), z_stn (by decide), z_stn (by decide), f1 57 (by decide) (by decide) (by decide)]; exact hM) (fun o ho => by
          rw [z_stn (by decide), z_stn (by decide)]
          show _ = if (decide (o < w + 1) && (if o = w then false else U o)) = true then nI 1 else nI 0
          rw [hUs]
          by_cases e : o = w
          · subst e; rw [z_ste, if_pos rfl]; rfl
          · rw [z_sti e, f60, hU1 o ho, if_neg e]
            show (if (decide (o = w) || (decide (o < w) && U o)) = true then nI 1 else nI 0) = _
            rw [decide_eq_false e]; rfl) (zPf_s false hP hb) (by rw [z_ste, q_cnt_s, hHw, if_pos rfl, hcnt]) (fun j hj hp => by
          rw [z_stn (by decide)]
          by_cases e : j = w
          · subst e; rw [hcnt, z_ste]
          · rw [hsame false j (by omega)] at hp
            rw [q_cnt_congr j (fun o ho => hsame false o (by omega))]
            have hne : q_cnt (zHu D U) j ≠ q_cnt (zHu D U) w := by
              have a := q_cnt_mono (S := zHu D U) (i := j + 1) w (by omega)
              have b : q_cnt (zHu D U) (j + 1) = q_cnt (zHu D U) j + 1 := by rw [q_cnt_s, hp, if_pos rfl]
              omega
            rw [z_sti hne, z_stn (by decide), f1 62 (by decide) (by decide) (by decide)]
            exact hL j (by omega) hp)
        refine ⟨ρ, V, fun R hR => t_X12_find_54 ⟨fun q => absurd q nl, fun _ => ⟨v81, fun _ => ⟨hin, _, _, by rw [kw, eτ1]; exact c1, fun _ => ⟨hin, by rw [e7]; exact z_in (by omega) (by decide)⟩, ?_⟩, fun q => absurd (by rw [e81]; exact hz) q⟩⟩, fun x h1 h2 h3 h4 h5 => by rw [d2 x h1 h2 h3 h4 h5, z_stn h1, z_stn h5, z_stn h3, f1 x h2 h3 h4], fun k hk => by rw [d3 k hk, z_sti hk, z_stn (by decide), z_stn (by decide), f1 56 (by decide) (by decide) (by decide)], d4⟩
        rw [if_neg (show ¬ (if true = true then nI 1 else nI 0) = 0 from z_10), kw, e7, nI_clamp (by omega)]
        unfold wp_X12_find_124
        rw [nI_add, nI_add]
        exact d1 R hR
    · -- not hard
      have hd : zHd D w = false := decide_eq_false hz
      have hHw : zHu D (fun o => if o = w then false else U o) w = false := by
        show (decide (dWe D w = 0) && !(if w = w then false else U w)) = false
        rw [decide_eq_false hz]; rfl
      obtain ⟨ρ, V, d1, d2⟩ := ih (w + 1) τ (fun o => if o = w then false else U o) (by omega) hM (fun o ho => by
        rw [hU o ho]
        show (if (decide (o < w) && U o) = true then nI 1 else nI 0) = if (decide (o < w + 1) && (if o = w then false else U o)) = true then nI 1 else nI 0
        rw [hUs]
        by_cases e : o = w
        · subst e; rw [if_pos rfl, decide_eq_false (Nat.lt_irrefl o)]; rfl
        · rw [if_neg e]) (zPf_s false hP (by rw [hd]; simp)) (by rw [h7, q_cnt_s, hHw, if_neg (by decide), hcnt, Nat.add_zero]) (fun j hj hp => by
        by_cases e : j = w
        · subst e; rw [hHw] at hp; cases hp
        · rw [hsame false j (by omega)] at hp
          rw [q_cnt_congr j (fun o ho => hsame false o (by omega))]
          exact hL j (by omega) hp)
      refine ⟨ρ, V, fun R hR => t_X12_find_54 ⟨fun q => absurd q nl, fun _ => ⟨v81, fun q => absurd (by rw [← e81]; exact q) hz, fun _ => ?_⟩⟩, d2⟩
      unfold wp_X12_find_124
      rw [nI_add]
      exact d1 R hR
theorem p_find (ok : sj_ok G) (h : zA σ) (hr : r + 200 < 2 ^ 27) (hd : zRd σ r) : zPair G (zIF σ r) 123 me_X11_find 8 me_X12_find [] (zcd 0 0 0) σ := by
  obtain ⟨D, T0, v, hC, hM, hT0⟩ := h.1
  have h9 := v.1
  have h12 := v.2.1
  obtain ⟨b, σ1, s1, s2, ⟨r1, r2, r3, r4⟩, s5, s6⟩ := z_seekFirst ok hC v hr hd
  have hA1 : zA σ1 := zA_of h (fun b hb => s2.1 b (by revert b; decide)) (by rw [s2.1 56 (by decide)]) (by rw [s2.1 56 (by decide)]) (s2.2 3 (by decide))
  -- the reference up to its search
  have model : ∀ (χ : sj_S), χ 57 = σ 57 → ∃ (c : Bool) (κ : sj_S), (∀ x, x ≠ 56 → x ≠ 59 → x ≠ 60 → x ≠ 61 → κ x = χ x) ∧ (∀ k, k ≠ 0 → κ 56 k = χ 56 k) ∧ κ 56 0 = nI 0 ∧ (∀ o, o < 12 → κ 60 o = nI 0) ∧
      (c = true → ∃ T, zFst D (zHd D) T ∧ ∀ l, l < dN D → κ 59 l = nI (T l)) ∧ (c = false → ∀ T, ¬ zRi D (zHd D) T) ∧
      ∀ R : sj_R, (c = false → sj_J G 8 me_X12_find R 54 [.ref (sj_ad G 56), .int (nI 0)] (sj_st (sj_st κ 57 127 (nI 0)) 56 7 (nI 0)) []) → (c = true → ∃ κ', sj_C G 3 me_X12_puts [.ref (sj_ad G 56)] κ (.ok 0, κ') ∧ R = (.ok (nI 1), κ')) → sj_C G 8 me_X12_find [.ref (sj_ad G 56)] χ R := by
    intro χ χ57
    obtain ⟨ρ, w1, w2, -, w4⟩ := y_wipe (G := G) 7 (fun R i τ hi hJ => t_X12_find_7 ⟨fun q => absurd q (nI_ge (by omega) (by decide)), fun _ => ⟨z_in hi (by decide), by rw [nI_clamp (by omega), nI_add]; exact hJ⟩⟩) 12 0 (sj_st χ 56 0 (nI 0)) (by decide)
    have ρ57 : ρ 57 = σ 57 := by rw [w1 57 (by decide), z_stn (by decide), χ57]
    obtain ⟨c, κ, c1, c2, c3, c4⟩ := y_looks (U := fun _ => false) ok (σ := ρ) (by rw [ρ57]; exact hM) v (fun w hw => by rw [w2 w (Nat.zero_le _) (by omega)]; rfl)
    have h0 := zHu_0 (D := D) (U := fun _ => false) (fun _ _ => rfl)
    have κ56 : κ 56 = sj_st χ 56 0 (nI 0) 56 := by rw [c2 56 (by decide) (by decide), w1 56 (by decide)]
    refine ⟨c, κ, fun x x1 x2 x3 x4 => by rw [c2 x x2 x4, w1 x x3, z_stn x1], fun k hk => by rw [κ56, z_sti hk], by rw [κ56, z_ste], fun o ho => by rw [c2 60 (by decide) (by decide)]; exact w2 o (Nat.zero_le _) ho, fun q => ?_, fun q T hT => c4 q T (zRi_H (fun w hw => (h0 w hw).symm) hT), fun R e1 e2 => c_X12_find ok (w4 R (t_X12_find_7 ⟨fun _ => ⟨_, _, c1, fun q => ?_, fun q => ?_⟩, fun q => absurd (nI_le (Nat.le_refl 12) (by decide)) q⟩))⟩
    · obtain ⟨T, t1, t2⟩ := c3 q
      exact ⟨T, zFst_H h0 t1, t2⟩
    · cases hc : c
      · exact e1 hc
      · rw [hc] at q; exact absurd q z_10
    · cases hc : c
      · rw [hc] at q; exact absurd z_00 q
      · exact e2 hc
  cases hb : b
  · -- none: the proofs
    rw [hb] at s1
    have none := s6 hb
    have hq : dT D = 0 := zT_of v (fun q => by
      obtain ⟨-, q2⟩ := hT0 q
      rw [zRi_iff v] at q2
      exact none T0 q2)
    have σ2 : σ1 2 = σ 2 := s2.1 2 (by decide)
    obtain ⟨σ5, U, p1, p2, ⟨q1, q2, q3, q4⟩, p5, p6, p7⟩ := z_seekProof (σ := σ1) ok (by rw [σ2]; exact hC) v (by omega) r4
    have hc : sj_C G 123 me_X11_find [.ref (sj_ad G 0)] σ (.ok (nI 0), σ5) := c_X11_find ok ⟨_, _, s1, fun q => absurd z_00 q, fun _ => ⟨_, p1, rfl⟩⟩
    have n5 : ∀ x, (x < 18 ∨ x = 29 ∨ 35 < x) → σ5 x = σ x := fun x hx => by rw [p2.1 x hx, s2.1 x (by omega)]
    -- the reference's
    have hm : ∃ (ω : sj_S) (V : Nat → Bool), sj_C G 8 me_X12_find [.ref (sj_ad G 56)] σ5 (.ok (nI 0), ω) ∧ (∀ x, x ≠ 56 → x ≠ 57 → x ≠ 59 → x ≠ 60 → x ≠ 61 → x ≠ 62 → ω x = σ5 x) ∧ ω 57 = σ5 57 ∧ (∀ k, k ≠ 0 → k ≠ 7 → ω 56 k = σ5 56 k) ∧ ω 56 0 = nI 0 ∧ zPf D V (dW D) ∧ ω 56 7 = nI (q_cnt (zHu D V) (dW D)) ∧ zPl (zHu D V) (ω 62) (dW D) := by
      have h57 : σ5 57 = σ 57 := n5 57 (by decide)
      obtain ⟨c, κ, k1, k2, k3, k4, k5, k6, k7⟩ := model σ5 h57
      have κ57 : κ 57 = σ 57 := by rw [k1 57 (by decide) (by decide) (by decide) (by decide), h57]
      have c0 : c = false := by
        cases hc : c
        · rfl
        · obtain ⟨T, hT, -⟩ := k5 hc
          exact absurd hT.1 (none T)
      generalize eκ : sj_st (sj_st κ 57 127 (nI 0)) 56 7 (nI 0) = κ2 at k7
      have κ2n : ∀ x, x ≠ 56 → κ2 x = κ x := fun x hx => by
        rw [← eκ, z_stn hx]
        by_cases e : x = 57
        · subst e
          rw [z_sta, z_updself (by rw [κ57, hM.2.2.1, hq])]
        · rw [z_stn e]
      have κ2k : ∀ k, k ≠ 7 → κ2 56 k = κ 56 k := fun k hk => by rw [← eκ, z_sti hk, z_stn (by decide)]
      have κ27 : κ2 56 7 = nI 0 := by rw [← eκ, z_ste]
      obtain ⟨ρ, V, d1, d2, d3, d4, d5, d6⟩ := y_findP (G := G) ok v (dW D) 0 κ2 (fun _ => false) (by omega) (by rw [κ2n 57 (by decide), κ57]; exact hM) (fun o ho => by rw [κ2n 60 (by decide), k4 o (by omega)]; rfl) (fun w hw => absurd hw (Nat.not_lt_zero w)) κ27 (fun i hi => absurd hi (Nat.not_lt_zero i))
      obtain ⟨ω, w1, -, -, w4⟩ := y_wipe (G := G) 132 (fun R i τ hi hJ => t_X12_find_132 ⟨fun q => absurd q (nI_ge (by omega) (by decide)), fun _ => ⟨z_in hi (by decide), by rw [nI_clamp (by omega), nI_add]; exact hJ⟩⟩) 12 0 ρ (by decide)
      refine ⟨ω, V, k7 _ (fun _ => d1 _ (w4 _ (t_X12_find_132 ⟨fun _ => rfl, fun q => absurd (nI_le (Nat.le_refl 12) (by decide)) q⟩))) (fun q => by rw [c0] at q; cases q), fun x x1 x2 x3 x4 x5 x6 => by rw [w1 x x4, d2 x x1 x3 x4 x5 x6, κ2n x x1, k1 x x1 x3 x4 x5], by rw [w1 57 (by decide), d2 57 (by decide) (by decide) (by decide) (by decide) (by decide), κ2n 57 (by decide), k1 57 (by decide) (by decide) (by decide) (by decide)], fun k h0 h7 => by rw [w1 56 (by decide), d3 k h7, κ2k k h7, k2 k h0], by rw [w1 56 (by decide), d3 0 (by decide), κ2k 0 (by decide), k3], d4, by rw [w1 56 (by decide)]; exact d5, by rw [w1 62 (by decide)]; exact d6⟩
    obtain ⟨ω, V, m1, m2, m3, m4, m5, m6, m7, m8⟩ := hm
    have hUV := zPf_uni (dW D) p5 m6
    have hHU : ∀ w, w < dW D → zHu D U w = zHu D V w := fun w hw => by
      unfold zHu
      rw [hUV w hw]
    have ecnt : q_cnt (zHu D U) (dW D) = q_cnt (zHu D V) (dW D) := q_cnt_congr (dW D) hHU
    refine ⟨_, _, _, _, hc, m1, zSame_ok m5 rfl, ⟨?_, ?_, ?_⟩, fun b hb => ?_, fun k hk => ?_, q1, by omega, ?_⟩
    · rw [m2 2 (by decide) (by decide) (by decide) (by decide) (by decide) (by decide), m2 3 (by decide) (by decide) (by decide) (by decide) (by decide) (by decide), m3, n5 2 (by decide), n5 3 (by decide), n5 57 (by decide)]
      exact h.1
    · rw [m2 4 (by decide) (by decide) (by decide) (by decide) (by decide) (by decide), m2 5 (by decide) (by decide) (by decide) (by decide) (by decide) (by decide), m2 58 (by decide) (by decide) (by decide) (by decide) (by decide) (by decide), m4 3 (by decide) (by decide), n5 4 (by decide), n5 5 (by decide), n5 56 (by decide), n5 58 (by decide)]
      exact h.2.1
    · rw [m2 30 (by decide) (by decide) (by decide) (by decide) (by decide) (by decide), m2 32 (by decide) (by decide) (by decide) (by decide) (by decide) (by decide), p6, m7]
      have hle : q_cnt (zHu D V) (dW D) ≤ dW D := q_cnt_le _ _
      exact ⟨by rw [ecnt], Or.inr ⟨_, by omega, rfl, fun i hi => zPl_eq hHU p7 m8 i (by omega)⟩⟩
    · have : ∀ b, b ∈ [46, 47, 48, 49, 50, 51, 52, 54, 55, 70, 71, 72, 73, 74, 75, 76] → b ≠ 56 ∧ b ≠ 57 ∧ b ≠ 59 ∧ b ≠ 60 ∧ b ≠ 61 ∧ b ≠ 62 ∧ 35 < b := by decide
      obtain ⟨x1, x2, x3, x4, x5, x6, x7⟩ := this b hb
      rw [m2 b x1 x2 x3 x4 x5 x6, n5 b (by omega)]
    · rw [m4 k (zne (by decide) hk) (zne (by decide) hk), n5 56 (by decide)]
    · unfold zRd
      rw [m2 30 (by decide) (by decide) (by decide) (by decide) (by decide) (by decide), m2 33 (by decide) (by decide) (by decide) (by decide) (by decide) (by decide)]
      exact q4
  · -- found
    rw [hb] at s1
    obtain ⟨T, t1, t2⟩ := s5 hb
    obtain ⟨B, hB, eB, eB30, hch⟩ := z_chg4 ok hA1
    have hpt := z_putTable (σ := B) (sl := 31) ok ⟨rfl, by decide, rfl⟩
    generalize eχ : sj_up (sj_st B 2 2 (nI 1)) 3 (va_cpy (sj_st B 2 2 (nI 1) 31) (sj_st B 2 2 (nI 1) 3) 0 0 9) = χ at hpt
    have χn : ∀ b, b ≠ 2 → b ≠ 3 → χ b = B b := fun b h1 h2 => by rw [← eχ, z_upn h2, z_stn h1]
    have χ57 : χ 57 = σ 57 := by rw [χn 57 (by decide) (by decide), eB 57 (by decide) (by decide) (by decide), s2.1 57 (by decide)]
    have χ2 : χ 2 = upd (σ 2) 2 (nI 1) := by rw [← eχ, z_upn (by decide), z_sta, eB 2 (by decide) (by decide) (by decide), s2.1 2 (by decide)]
    have χ3 : ∀ i, i < dN D → χ 3 i = nI (T i) := fun i hi => by
      rw [← eχ, sj_up_s]
      unfold va_cpy
      rw [if_pos (by omega), z_stn (by decide), eB 31 (by decide) (by decide) (by decide), show 0 + (i - 0) = i by omega]
      exact t2 i hi
    have hc : sj_C G 123 me_X11_find [.ref (sj_ad G 0)] σ (.ok (nI 1), χ) := c_X11_find ok ⟨_, _, s1, fun _ => ⟨_, hB, _, hpt, rfl⟩, fun q => absurd q z_10⟩
    -- the reference's
    have hm : ∃ ω : sj_S, sj_C G 8 me_X12_find [.ref (sj_ad G 56)] χ (.ok (nI 1), ω) ∧ ω 56 0 = nI 0 ∧ (∀ k, k ∈ [21, 22, 26, 27, 29] → ω 56 k = χ 56 k) ∧ (∀ x, x ≠ 56 → x ≠ 57 → x ≠ 58 → x ≠ 59 → x ≠ 60 → x ≠ 61 → ω x = χ x) ∧ zA ω := by
      obtain ⟨c, κ, k1, k2, k3, k4, k5, k6, k7⟩ := model χ χ57
      have c0 : c = true := by
        cases hc : c
        · exact absurd t1.1 (k6 hc T)
        · rfl
      obtain ⟨T', u1, u2⟩ := k5 c0
      have hTT := zFst_uni u1 t1
      obtain ⟨σ', g1, g2, g3, g4⟩ := hch κ (fun b hb => by
        have : ∀ b, b ∈ [4, 5, 30, 57, 58] → b ≠ 56 ∧ b ≠ 59 ∧ b ≠ 60 ∧ b ≠ 61 ∧ b ≠ 2 ∧ b ≠ 3 := by decide
        obtain ⟨x1, x2, x3, x4, x5, x6⟩ := this b hb
        rw [k1 b x1 x2 x3 x4, χn b x5 x6]) (by rw [k2 3 (by decide), χn 56 (by decide) (by decide)])
      have s57 : σ' 57 = σ 57 := by rw [g2 57 (by decide) (by decide), k1 57 (by decide) (by decide) (by decide) (by decide), χ57]
      have hpu := y_puts ok g1 h9 (by rw [s57]; exact hM.1)
      generalize eω : sj_up σ' 57 (zPt (σ' 57) (σ' 59) (dN D)) = ω at hpu
      have ωn : ∀ b, b ≠ 57 → ω b = σ' b := fun b hb => by rw [← eω, z_upn hb]
      refine ⟨ω, k7 _ (fun q => by rw [c0] at q; cases q) (fun _ => ⟨_, hpu, rfl⟩), by rw [ωn 56 (by decide), g3 0 (by decide) (by decide), k3], fun k hk => by rw [ωn 56 (by decide), g3 k (zne (by decide) hk) (zne (by decide) hk), k2 k (zne (by decide) hk)], fun x x1 x2 x3 x4 x5 x6 => by rw [ωn x x2, g2 x x1 x3, k1 x x1 x4 x5 x6], g4 ω (fun b hb => ωn b (zne (by decide) hb)) (by rw [ωn 56 (by decide)]) (by rw [ωn 56 (by decide)]) ?_⟩
      refine zSR_new (T := T) v hC hM (f := σ 57) (a := σ' 59) ?_ ?_ (fun l hl => by rw [g2 59 (by decide) (by decide), u2 l hl, hTT l hl]) (fun l hl => ?_) (fun l hl => (t1.1 l hl).1) t1.1
      · rw [ωn 2 (by decide), g2 2 (by decide) (by decide), k1 2 (by decide) (by decide) (by decide) (by decide), χ2]
      · rw [← eω, sj_up_s, s57]
      · rw [ωn 3 (by decide), g2 3 (by decide) (by decide), k1 3 (by decide) (by decide) (by decide) (by decide)]
        exact χ3 l hl
    obtain ⟨ω, m1, m2, m3, m4, m5⟩ := hm
    refine ⟨_, _, _, _, hc, m1, zSame_ok m2 rfl, m5, fun b hb => ?_, fun k hk => ?_, r1, by omega, ?_⟩
    · have : ∀ b, b ∈ [46, 47, 48, 49, 50, 51, 52, 54, 55, 70, 71, 72, 73, 74, 75, 76] → b ≠ 56 ∧ b ≠ 57 ∧ b ≠ 58 ∧ b ≠ 59 ∧ b ≠ 60 ∧ b ≠ 61 ∧ b ≠ 2 ∧ b ≠ 3 ∧ b ≠ 4 ∧ b ≠ 5 ∧ b ≠ 30 ∧ 35 < b := by decide
      obtain ⟨x1, x2, x3, x4, x5, x6, x7, x8, x9, x10, x11, x12⟩ := this b hb
      rw [m4 b x1 x2 x3 x4 x5 x6, χn b x7 x8, eB b x9 x10 x11, s2.1 b (by omega)]
    · rw [m3 k hk, χn 56 (by decide) (by decide), eB 56 (by decide) (by decide) (by decide), s2.1 56 (by decide)]
    · unfold zRd
      rw [m4 30 (by decide) (by decide) (by decide) (by decide) (by decide) (by decide), m4 33 (by decide) (by decide) (by decide) (by decide) (by decide) (by decide), χn 30 (by decide) (by decide), χn 33 (by decide) (by decide), eB30 7 (by decide), eB 33 (by decide) (by decide) (by decide)]
      exact r4
end ZFD
