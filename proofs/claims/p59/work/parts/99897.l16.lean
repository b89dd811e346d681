/-! P59, THE LAW 16: lessons and rooms are drawn -/
/-- one drawn lesson -/
def lQ1 (κ : sj_S) (i : Nat) : Prop := ∃ g t s K d, g < 4 ∧ t < 6 ∧ s < 6 ∧ K ≤ 3 ∧ d ≤ 1 ∧ κ 57 i = nI g ∧ κ 58 i = nI t ∧ κ 59 i = nI s ∧ κ 60 i = zk K ∧ κ 61 i = nI (1 + d)
theorem lQ1_e {κ κ' : sj_S} {i : Nat} (h : lQ1 κ i) (e : ∀ b, 57 ≤ b → b ≤ 61 → κ' b i = κ b i) : lQ1 κ' i := by
  obtain ⟨g, t, s, K, d, h1, h2, h3, h4, h5, r1, r2, r3, r4, r5⟩ := h
  exact ⟨g, t, s, K, d, h1, h2, h3, h4, h5, by rw [e 57 (by decide) (by decide)]; exact r1, by rw [e 58 (by decide) (by decide)]; exact r2, by rw [e 59 (by decide) (by decide)]; exact r3, by rw [e 60 (by decide) (by decide)]; exact r4, by rw [e 61 (by decide) (by decide)]; exact r5⟩
/-- the law's rows read as a school -/
def lOf (κ : sj_S) : zD := fun f i => if f = 0 then (κ 56 13).toNatClampNeg else if f = 3 then (κ 57 i).toNatClampNeg else if f = 4 then (κ 58 i).toNatClampNeg else if f = 5 then (κ 59 i).toNatClampNeg else if f = 6 then (if κ 60 i = -1 then 0 else (κ 60 i).toNatClampNeg + 1) else if f = 7 then (κ 61 i).toNatClampNeg - 1 else (κ 67 i).toNatClampNeg
theorem lOf_ok {κ : sj_S} {N : Nat} (h13 : κ 56 13 = nI N) (hN : N ≤ 9) (hL : ∀ i, i < N → lQ1 κ i) (hR : ∀ k, k < 3 → ∃ r, r ≤ 3 ∧ κ 67 k = nI r) : lRl (lOf κ) κ ∧ lOk (lOf κ) ∧ dN (lOf κ) = N := by
  have e0 : dN (lOf κ) = N := by
    show (κ 56 13).toNatClampNeg = N
    rw [h13, nI_clamp (by omega)]
  have key : ∀ i, i < N → ∃ g t s K d, g < 4 ∧ t < 6 ∧ s < 6 ∧ K ≤ 3 ∧ d ≤ 1 ∧ κ 57 i = nI g ∧ κ 58 i = nI t ∧ κ 59 i = nI s ∧ κ 60 i = zk K ∧ κ 61 i = nI (1 + d) ∧ dG (lOf κ) i = g ∧ dTe (lOf κ) i = t ∧ dSu (lOf κ) i = s ∧ dKi (lOf κ) i = K ∧ dDb (lOf κ) i = d := fun i hi => by
    obtain ⟨g, t, s, K, d, h1, h2, h3, h4, h5, r1, r2, r3, r4, r5⟩ := hL i hi
    refine ⟨g, t, s, K, d, h1, h2, h3, h4, h5, r1, r2, r3, r4, r5, ?_, ?_, ?_, ?_, ?_⟩
    · show (κ 57 i).toNatClampNeg = g
      rw [r1, nI_clamp (by omega)]
    · show (κ 58 i).toNatClampNeg = t
      rw [r2, nI_clamp (by omega)]
    · show (κ 59 i).toNatClampNeg = s
      rw [r3, nI_clamp (by omega)]
    · show (if κ 60 i = -1 then 0 else (κ 60 i).toNatClampNeg + 1) = K
      rw [r4]
      have hz : ∀ K, K ≤ 3 → (if zk K = -1 then 0 else (zk K).toNatClampNeg + 1) = K := by decide +kernel
      exact hz K h4
    · show (κ 61 i).toNatClampNeg - 1 = d
      rw [r5, nI_clamp (by omega)]
      omega
  have keyR : ∀ k, k < 3 → dRo (lOf κ) k ≤ 3 ∧ κ 67 k = nI (dRo (lOf κ) k) := fun k hk => by
    obtain ⟨r, h1, h2⟩ := hR k hk
    have e : dRo (lOf κ) k = r := by
      show (κ 67 k).toNatClampNeg = r
      rw [h2, nI_clamp (by omega)]
    rw [e]
    exact ⟨h1, h2⟩
  refine ⟨⟨by rw [e0]; exact h13, fun i hi => ?_, fun k hk => (keyR k hk).2⟩, ⟨by rw [e0]; exact hN, fun i hi => ?_, fun k hk => (keyR k hk).1⟩, e0⟩
  · obtain ⟨g, t, s, K, d, h1, h2, h3, h4, h5, r1, r2, r3, r4, r5, q1, q2, q3, q4, q5⟩ := key i (by omega)
    rw [q1, q2, q3, q4, q5]
    exact ⟨r1, r2, r3, r4, r5⟩
  · obtain ⟨g, t, s, K, d, h1, h2, h3, h4, h5, r1, r2, r3, r4, r5, q1, q2, q3, q4, q5⟩ := key i (by omega)
    rw [q1, q2, q3, q4, q5]
    exact ⟨h1, h2, h3, h4, h5⟩
section L16
variable {G : sj_G} {σ : sj_S} {D0 : zD} {N gs ts : Nat}
/-- the school as it is at first -/
def k0 (D : zD) : Prop := okD D ∧ dN D = 0 ∧ kZr D ∧ (∀ k, k < 3 → dRo D k = 3) ∧ ∀ t, t < 6 → dTch D t = 63
/-- the end of drawing -/
def lFm (G : sj_G) (σ : sj_S) (D0 : zD) (P : sj_R → Prop) : Prop := ∃ (D' : zD) (σ' : sj_S), okD D' ∧ repC D' (σ' 2) ∧ kH σ' ∧ 1 ≤ dN D' ∧ dT D' = 0 ∧ lR D' σ' ∧ kDr σ σ' ∧ kRest D0 D' ∧ P (.ok (nI 1), σ')
theorem lFm_m {P Q : sj_R → Prop} (h : lFm G σ D0 P) (k : ∀ R, P R → Q R) : lFm G σ D0 Q := by
  obtain ⟨D', σ', h1, h2, h3, h4, h5, h6, h7, h8, h9⟩ := h
  exact ⟨D', σ', h1, h2, h3, h4, h5, h6, h7, h8, k _ h9⟩
theorem l_lessons (ok : sj_ok G) (hO : sj_ad G 70 = sj_ad G 0) (hC : repC D0 (σ 2)) (hH : kH σ) (h0 : k0 D0) (hN : 1 ≤ N) (hN9 : N ≤ 9) (hg : 1 ≤ gs) (hg4 : gs ≤ 4) (ht : 1 ≤ ts) (ht5 : ts ≤ 5) : ∀ j l (κ : sj_S), l + j = N → kDr σ κ → κ 2 = σ 2 → κ 4 = σ 4 → κ 56 13 = nI N → (∀ i, i < l → lQ1 κ i) → (∀ k, k < 3 → ∃ r, r ≤ 3 ∧ κ 67 k = nI r) →
    lFm G σ D0 (fun R => sj_J G 13 me_L_isDrawn R 87 [.ref (sj_ad G 56), .int (nI gs), .int (nI ts), .int (nI l)] κ []) := by
  intro j
  induction j with
  | zero =>
    intro l κ hl q e2 e4 h13 hQ hR
    obtain rfl : l = N := by omega
    obtain ⟨hL, vL, eN⟩ := lOf_ok h13 hN9 hQ hR
    obtain ⟨v0, z1, z2, z3, z4⟩ := h0
    obtain ⟨D1, σ1, c1, q1, v1, hC1, hH1, n1, w1, ls1, ro1, r1⟩ := l_isMade (σ := κ) (L := lOf κ) (D := D0) ok hL vL v0 (by rw [e2]; exact hC) (kH_e hH e4) z1 z2 z3 z4
    obtain ⟨W, x, hW, hn⟩ := l_next (σ := σ1) ok (n := 12) (by decide) (by decide)
    generalize ex : sj_st σ1 56 0 x = σ2 at hn
    generalize ey : sj_st σ2 56 14 (nI W) = σ3
    have L1 : lRl (lOf κ) σ1 := lRl_c hL q1
    have f2 : ∀ c, c ≠ 56 → σ3 c = σ1 c := fun c hc => by rw [← ey, z_stn hc, ← ex, z_stn hc]
    have hd : lDr l W 0 D1 σ3 := by
      refine ⟨v1, by rw [f2 2 (by decide)]; exact hC1, kH_e hH1 (f2 4 (by decide)), n1.trans eN, w1.1, w1.2, ?_, by rw [← ey, z_ste], fun i hi => ?_, fun k hk => ?_, fun i hi => absurd hi (Nat.not_lt_zero i)⟩
      · rw [← ey, z_sti (by decide), ← ex, z_sti (by decide), L1.1, eN]
      · rw [f2 57 (by decide), f2 58 (by decide), f2 59 (by decide), f2 60 (by decide), f2 61 (by decide)]
        obtain ⟨b1, b2, b3, b4, b5⟩ := ls1 i (by omega)
        rw [b1, b2, b3, b4, b5]
        exact L1.2.1 i (by omega)
      · rw [f2 67 (by decide), ro1 k hk]
        exact L1.2.2 k hk
    have qd : kDr σ σ3 := by
      rw [← ey, ← ex]
      exact kDr_t (kDr_t (kDr_t q (kDr_c q1)) (kDr_st (by decide) (by decide))) (kDr_st (by decide) (by decide))
    obtain ⟨D', σ', g1, g2, g3, g4⟩ := l_wishes (σ := σ) (D0 := D0) (W := W) ok hO hN hN9 hW hg hg4 ht ht5 W 0 D1 σ3 (by omega) hd qd r1
    refine ⟨D', σ', g1.1, g1.2.1, g1.2.2.1, by rw [g1.2.2.2.1]; exact hN, g1.2.2.2.2.2.1, lDr_R g1, g2, g3, t_L_isDrawn_87 hO ⟨fun _ => ⟨_, _, c1, fun _ => ⟨_, _, hn, ?_⟩, fun y => absurd y z_10⟩, fun y => ?_⟩⟩
    · rw [ey]
      exact g4
    · rw [h13] at y
      exact absurd (nI_le (Nat.le_refl _) (by omega)) y
  | succ j ih =>
    intro l κ hl q e2 e4 h13 hQ hR
    have hlN : l < N := by omega
    have hin : vp_in (nI l) 9 := z_in (by omega) (by decide)
    have hcl : (nI l).toNatClampNeg = l := nI_clamp (by omega)
    obtain ⟨g, x1, hg', n1⟩ := l_next (σ := κ) (n := gs) ok (by omega) (by omega)
    generalize d1 : sj_st κ 56 0 x1 = a1 at n1
    generalize d2 : sj_st a1 57 l (nI g) = a2
    obtain ⟨t, x2, ht', n2⟩ := l_next (σ := a2) (n := ts) ok (by omega) (by omega)
    generalize d3 : sj_st a2 56 0 x2 = a3 at n2
    generalize d4 : sj_st a3 58 l (nI t) = a4
    obtain ⟨s, x3, hs', n3⟩ := l_next (σ := a4) (n := 6) ok (by omega) (by omega)
    generalize d5 : sj_st a4 56 0 x3 = a5 at n3
    generalize d6 : sj_st a5 59 l (nI s) = a6
    obtain ⟨c, x4, hc', n4⟩ := l_next (σ := a6) (n := 5) ok (by omega) (by omega)
    generalize d7 : sj_st a6 56 0 x4 = a7 at n4
    generalize d8 : (if 0 ≤ nI c - nI 2 then sj_st a7 60 l (nI c - nI 2) else sj_st (sj_st a7 60 l (nI c - nI 2)) 60 l (-1)) = a8
    obtain ⟨K, hK, k1, k2, k3⟩ : ∃ K, K ≤ 3 ∧ a8 60 l = zk K ∧ (∀ i, i ≠ l → a8 60 i = a7 60 i) ∧ ∀ b, b ≠ 60 → a8 b = a7 b := by
      by_cases hc2 : c < 2
      · have hneg : ¬ (0 : Int32) ≤ nI c - nI 2 := by
          rw [Int32.le_iff_toInt_le, pk_sub_toInt (by omega) (by decide), Int32.toInt_zero]
          omega
        rw [if_neg hneg] at d8
        exact ⟨0, by decide, by rw [← d8, z_ste]; rfl, fun i hi => by rw [← d8, z_sti hi, z_sti hi], fun b hb => by rw [← d8, z_stn hb, z_stn hb]⟩
      · have hpos : (0 : Int32) ≤ nI c - nI 2 := by
          rw [Int32.le_iff_toInt_le, pk_sub_toInt (by omega) (by decide), Int32.toInt_zero]
          omega
        rw [if_pos hpos, pk_sub (by omega)] at d8
        refine ⟨c - 1, by omega, ?_, fun i hi => by rw [← d8, z_sti hi], fun b hb => by rw [← d8, z_stn hb]⟩
        rw [← d8, z_ste]
        unfold zk
        rw [if_neg (by omega), show c - 1 - 1 = c - 2 by omega]
    obtain ⟨u, x5, hu', n5⟩ := l_next (σ := a8) (n := 3) ok (by omega) (by omega)
    generalize d9 : sj_st a8 56 0 x5 = a9 at n5
    obtain ⟨d, hd1, hd⟩ : ∃ d, d ≤ 1 ∧ (if nI u = 0 then nI 2 else nI 1) = nI (1 + d) := by
      split
      · exact ⟨1, by decide, rfl⟩
      · exact ⟨0, by decide, rfl⟩
    generalize d10 : sj_st a9 61 l (nI (1 + d)) = a10
    have fr : ∀ b, b ≠ 56 → b ≠ 57 → b ≠ 58 → b ≠ 59 → b ≠ 60 → b ≠ 61 → a10 b = κ b := fun b b1 b2 b3 b4 b5 b6 => by
      rw [← d10, z_stn b6, ← d9, z_stn b1, k3 b b5, ← d7, z_stn b1, ← d6, z_stn b4, ← d5, z_stn b1, ← d4, z_stn b3, ← d3, z_stn b1, ← d2, z_stn b2, ← d1, z_stn b1]
    have f56 : ∀ k, k ≠ 0 → a10 56 k = κ 56 k := fun k hk => by
      rw [← d10, z_stn (by decide), ← d9, z_sti hk, k3 56 (by decide), ← d7, z_sti hk, ← d6, z_stn (by decide), ← d5, z_sti hk, ← d4, z_stn (by decide), ← d3, z_sti hk, ← d2, z_stn (by decide), ← d1, z_sti hk]
    have g57 : ∀ i, a10 57 i = if i = l then nI g else κ 57 i := fun i => by
      rw [← d10, z_stn (by decide), ← d9, z_stn (by decide), k3 57 (by decide), ← d7, z_stn (by decide), ← d6, z_stn (by decide), ← d5, z_stn (by decide), ← d4, z_stn (by decide), ← d3, z_stn (by decide), ← d2]
      by_cases e : i = l
      · rw [if_pos e, e, z_ste]
      · rw [if_neg e, z_sti e, ← d1, z_stn (by decide)]
    have g58 : ∀ i, a10 58 i = if i = l then nI t else κ 58 i := fun i => by
      rw [← d10, z_stn (by decide), ← d9, z_stn (by decide), k3 58 (by decide), ← d7, z_stn (by decide), ← d6, z_stn (by decide), ← d5, z_stn (by decide), ← d4]
      by_cases e : i = l
      · rw [if_pos e, e, z_ste]
      · rw [if_neg e, z_sti e, ← d3, z_stn (by decide), ← d2, z_stn (by decide), ← d1, z_stn (by decide)]
    have g59 : ∀ i, a10 59 i = if i = l then nI s else κ 59 i := fun i => by
      rw [← d10, z_stn (by decide), ← d9, z_stn (by decide), k3 59 (by decide), ← d7, z_stn (by decide), ← d6]
      by_cases e : i = l
      · rw [if_pos e, e, z_ste]
      · rw [if_neg e, z_sti e, ← d5, z_stn (by decide), ← d4, z_stn (by decide), ← d3, z_stn (by decide), ← d2, z_stn (by decide), ← d1, z_stn (by decide)]
    have g60 : ∀ i, a10 60 i = if i = l then zk K else κ 60 i := fun i => by
      rw [← d10, z_stn (by decide), ← d9, z_stn (by decide)]
      by_cases e : i = l
      · rw [if_pos e, e, k1]
      · rw [if_neg e, k2 i e, ← d7, z_stn (by decide), ← d6, z_stn (by decide), ← d5, z_stn (by decide), ← d4, z_stn (by decide), ← d3, z_stn (by decide), ← d2, z_stn (by decide), ← d1, z_stn (by decide)]
    have g61 : ∀ i, a10 61 i = if i = l then nI (1 + d) else κ 61 i := fun i => by
      rw [← d10]
      by_cases e : i = l
      · rw [if_pos e, e, z_ste]
      · rw [if_neg e, z_sti e, ← d9, z_stn (by decide), k3 61 (by decide), ← d7, z_stn (by decide), ← d6, z_stn (by decide), ← d5, z_stn (by decide), ← d4, z_stn (by decide), ← d3, z_stn (by decide), ← d2, z_stn (by decide), ← d1, z_stn (by decide)]
    have hQ' : ∀ i, i < l + 1 → lQ1 a10 i := fun i hi => by
      by_cases e : i = l
      · exact ⟨g, t, s, K, d, by omega, by omega, hs', hK, hd1, by rw [g57, if_pos e], by rw [g58, if_pos e], by rw [g59, if_pos e], by rw [g60, if_pos e], by rw [g61, if_pos e]⟩
      · refine lQ1_e (hQ i (by omega)) (fun b b1 b2 => ?_)
        rcases (by omega : b = 57 ∨ b = 58 ∨ b = 59 ∨ b = 60 ∨ b = 61) with x | x | x | x | x <;> subst x
        · rw [g57, if_neg e]
        · rw [g58, if_neg e]
        · rw [g59, if_neg e]
        · rw [g60, if_neg e]
        · rw [g61, if_neg e]
    have qd : kDr σ a10 := kDr_t q ⟨fun b _ _ _ _ _ hb => fr b (by omega) (by omega) (by omega) (by omega) (by omega) (by omega), fun k _ => by rw [fr 30 (by decide) (by decide) (by decide) (by decide) (by decide) (by decide)]⟩
    refine lFm_m (ih (l + 1) a10 (by omega) qd (by rw [fr 2 (by decide) (by decide) (by decide) (by decide) (by decide) (by decide)]; exact e2) (by rw [fr 4 (by decide) (by decide) (by decide) (by decide) (by decide) (by decide)]; exact e4) (by rw [f56 13 (by decide)]; exact h13) hQ' (fun k hk => by rw [fr 67 (by decide) (by decide) (by decide) (by decide) (by decide) (by decide)]; exact hR k hk)) (fun R hJ => ?_)
    refine t_L_isDrawn_87 hO ⟨fun y => ?_, fun _ => ?_⟩
    · rw [h13] at y
      exact absurd y (nI_ge hlN (by omega))
    · refine ⟨_, _, n1, hin, ?_⟩
      rw [hcl, d2]
      refine ⟨_, _, n2, hin, ?_⟩
      rw [d4]
      refine ⟨_, _, n3, hin, ?_⟩
      rw [d6]
      refine ⟨_, _, n4, hin, hin, fun _ => hin, ?_⟩
      rw [z_ste, d8]
      unfold wp_L_isDrawn_158
      refine ⟨_, _, n5, ?_⟩
      unfold wp_L_isDrawn_176
      rw [hd, hcl, d10, nI_add]
      exact ⟨hin, hJ⟩
theorem l_rooms (ok : sj_ok G) (hO : sj_ad G 70 = sj_ad G 0) (hC : repC D0 (σ 2)) (hH : kH σ) (h0 : k0 D0) (hN : 1 ≤ N) (hN9 : N ≤ 9) (hg : 1 ≤ gs) (hg4 : gs ≤ 4) (ht : 1 ≤ ts) (ht5 : ts ≤ 5) : ∀ j k (κ : sj_S), k + j = 3 → kDr σ κ → κ 2 = σ 2 → κ 4 = σ 4 → κ 56 13 = nI N → (∀ i, i < k → ∃ r, r ≤ 3 ∧ κ 67 i = nI r) →
    lFm G σ D0 (fun R => sj_J G 13 me_L_isDrawn R 48 [.ref (sj_ad G 56), .int (nI gs), .int (nI ts), .int (nI k)] κ []) := by
  intro j
  induction j with
  | zero =>
    intro k κ hk q e2 e4 h13 hR
    obtain rfl : k = 3 := by omega
    refine lFm_m (l_lessons ok hO hC hH h0 hN hN9 hg hg4 ht ht5 N 0 κ (by omega) q e2 e4 h13 (fun i hi => absurd hi (Nat.not_lt_zero i)) hR) (fun R hJ => ?_)
    exact t_L_isDrawn_48 hO ⟨fun _ => hJ, fun y => absurd (nI_le (Nat.le_refl 3) (by decide)) y⟩
  | succ j ih =>
    intro k κ hk q e2 e4 h13 hR
    have hk3 : k < 3 := by omega
    have fin : ∀ (κ1 : sj_S) (r : Nat), r ≤ 3 → (∀ b, b ≠ 56 → κ1 b = κ b) → (∀ i, i ≠ 0 → κ1 56 i = κ 56 i) → kDr κ κ1 → lFm G σ D0 (fun R => wp_L_isDrawn_78 G R (nI gs) (nI ts) (nI k) (nI r) (nI k) κ1) := fun κ1 r hr y1 y2 qq => by
      generalize ez : sj_st κ1 67 k (nI r) = κ2
      refine lFm_m (ih (k + 1) κ2 (by omega) (by rw [← ez]; exact kDr_t (kDr_t q qq) (kDr_st (by decide) (by decide))) (by rw [← ez, z_stn (by decide), y1 2 (by decide)]; exact e2) (by rw [← ez, z_stn (by decide), y1 4 (by decide)]; exact e4) (by rw [← ez, z_stn (by decide), y2 13 (by decide)]; exact h13) (fun i hi => ?_)) (fun R hJ => ?_)
      · by_cases e : i = k
        · exact ⟨r, hr, by rw [← ez, e, z_ste]⟩
        · obtain ⟨r', r1, r2⟩ := hR i (by omega)
          exact ⟨r', r1, by rw [← ez, z_sti e, y1 67 (by decide)]; exact r2⟩
      · unfold wp_L_isDrawn_78
        rw [nI_clamp (by omega), ez, nI_add]
        exact ⟨z_in hk3 (by decide), hJ⟩
    obtain ⟨v, x, hv, hn⟩ := l_next (σ := κ) (n := 6) ok (by decide) (by decide)
    generalize e1 : sj_st κ 56 0 x = κ1 at hn
    have y1 : ∀ b, b ≠ 56 → κ1 b = κ b := fun b hb => by rw [← e1, z_stn hb]
    have y2 : ∀ i, i ≠ 0 → κ1 56 i = κ 56 i := fun i hi => by rw [← e1, z_sti hi]
    have q1 : kDr κ κ1 := by rw [← e1]; exact kDr_st (by decide) (by decide)
    by_cases v0 : v = 0
    · subst v0
      refine lFm_m (fin κ1 0 (by decide) y1 y2 q1) (fun R hR => ?_)
      exact t_L_isDrawn_48 hO ⟨fun y => absurd y (nI_ge hk3 (by decide)), fun _ => ⟨_, _, hn, fun y => absurd nI_0 y, fun _ => hR⟩⟩
    · obtain ⟨u, x2, hu, hn2⟩ := l_next (σ := κ1) (n := 3) ok (by decide) (by decide)
      generalize e3 : sj_st κ1 56 0 x2 = κ2 at hn2
      refine lFm_m (fin κ2 (1 + u) (by omega) (fun b hb => by rw [← e3, z_stn hb, y1 b hb]) (fun i hi => by rw [← e3, z_sti hi, y2 i hi]) (by rw [← e3]; exact kDr_t q1 (kDr_st (by decide) (by decide)))) (fun R hR => ?_)
      refine t_L_isDrawn_48 hO ⟨fun y => absurd y (nI_ge hk3 (by decide)), fun _ => ⟨_, _, hn, fun _ => ⟨_, _, hn2, ?_⟩, fun y => absurd y (nI_ne0 (by omega) (by omega))⟩⟩
      rw [nI_add]
      exact hR
theorem l_isDrawn (ok : sj_ok G) (hO : sj_ad G 70 = sj_ad G 0) (hC : repC D0 (σ 2)) (hH : kH σ) (h0 : k0 D0) : ∃ (D' : zD) (σ' : sj_S), sj_C G 13 me_L_isDrawn [.ref (sj_ad G 56)] σ (.ok (nI 1), σ') ∧ okD D' ∧ repC D' (σ' 2) ∧ kH σ' ∧ 1 ≤ dN D' ∧ dT D' = 0 ∧ lR D' σ' ∧ kDr σ σ' ∧ kRest D0 D' := by
  have key : ∀ (κ : sj_S) (N : Nat), 1 ≤ N → N ≤ 9 → (∀ b, b ≠ 56 → κ b = σ b) → kDr σ κ → lFm G σ D0 (fun R => wp_L_isDrawn_27 G R (nI N) κ) := by
    intro κ N hN hN9 y q
    generalize e0 : sj_st κ 56 13 (nI N) = κ0
    obtain ⟨g, x1, hg, n1⟩ := l_next (σ := κ0) (n := 4) ok (by decide) (by decide)
    generalize e1 : sj_st κ0 56 0 x1 = κ1 at n1
    obtain ⟨t, x2, ht, n2⟩ := l_next (σ := κ1) (n := 5) ok (by decide) (by decide)
    generalize e2 : sj_st κ1 56 0 x2 = κ2 at n2
    have y2 : ∀ b, b ≠ 56 → κ2 b = σ b := fun b hb => by rw [← e2, z_stn hb, ← e1, z_stn hb, ← e0, z_stn hb, y b hb]
    have q2 : kDr σ κ2 := by
      rw [← e2, ← e1, ← e0]
      exact kDr_t (kDr_t (kDr_t q (kDr_st (by decide) (by decide))) (kDr_st (by decide) (by decide))) (kDr_st (by decide) (by decide))
    refine lFm_m (l_rooms (N := N) (gs := 1 + g) (ts := 1 + t) ok hO hC hH h0 hN hN9 (by omega) (by omega) (by omega) (by omega) 3 0 κ2 (by decide) q2 (y2 2 (by decide)) (y2 4 (by decide)) (by rw [← e2, z_sti (by decide), ← e1, z_sti (by decide), ← e0, z_ste]) (fun i hi => absurd hi (Nat.not_lt_zero i))) (fun R hJ => ?_)
    unfold wp_L_isDrawn_27
    rw [e0]
    refine ⟨_, _, n1, _, _, n2, ?_⟩
    rw [nI_add, nI_add]
    exact hJ
  obtain ⟨v, x, hv, hn⟩ := l_next (σ := σ) (n := 4) ok (by decide) (by decide)
  generalize e1 : sj_st σ 56 0 x = κ1 at hn
  have y1 : ∀ b, b ≠ 56 → κ1 b = σ b := fun b hb => by rw [← e1, z_stn hb]
  have q1 : kDr σ κ1 := by rw [← e1]; exact kDr_st (by decide) (by decide)
  have fin : lFm G σ D0 (fun R => wp_L_isDrawn_0 G R σ) := by
    by_cases v0 : v = 0
    · subst v0
      obtain ⟨u, x2, hu, hn2⟩ := l_next (σ := κ1) (n := 6) ok (by decide) (by decide)
      generalize e3 : sj_st κ1 56 0 x2 = κ2 at hn2
      refine lFm_m (key κ2 (4 + u) (by omega) (by omega) (fun b hb => by rw [← e3, z_stn hb, y1 b hb]) (by rw [← e3]; exact kDr_t q1 (kDr_st (by decide) (by decide)))) (fun R hR => ?_)
      refine ⟨_, _, hn, fun y => absurd nI_0 y, fun _ => ⟨_, _, hn2, ?_⟩⟩
      rw [nI_add]
      exact hR
    · obtain ⟨u, x2, hu, hn2⟩ := l_next (σ := κ1) (n := 3) ok (by decide) (by decide)
      generalize e3 : sj_st κ1 56 0 x2 = κ2 at hn2
      refine lFm_m (key κ2 (1 + u) (by omega) (by omega) (fun b hb => by rw [← e3, z_stn hb, y1 b hb]) (by rw [← e3]; exact kDr_t q1 (kDr_st (by decide) (by decide)))) (fun R hR => ?_)
      refine ⟨_, _, hn, fun _ => ⟨_, _, hn2, ?_⟩, fun y => absurd y (nI_ne0 (by omega) (by omega))⟩
      rw [nI_add]
      exact hR
  obtain ⟨D', σ', h1, h2, h3, h4, h5, h6, h7, h8, h9⟩ := fin
  exact ⟨D', σ', c_L_isDrawn ok hO h9, h1, h2, h3, h4, h5, h6, h7, h8⟩
end L16
