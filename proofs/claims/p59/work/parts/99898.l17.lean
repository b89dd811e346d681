/-! P59, THE LAW 17: a table is found -/
theorem zRd_e {σ σ' : sj_S} {r : Nat} (h : zRd σ r) (e7 : σ' 30 7 = σ 30 7) (e33 : σ' 33 = σ 33) : zRd σ' r := ⟨by rw [e7]; exact h.1, by rw [e33]; exact h.2⟩
/-- what finding leaves alone -/
def kF (σ σ' : sj_S) : Prop := ∀ b, (46 ≤ b ∧ b ≤ 51) ∨ 69 ≤ b → σ' b = σ b
theorem kF_t {σ σ1 σ2 : sj_S} (h : kF σ σ1) (g : kF σ1 σ2) : kF σ σ2 := fun b hb => (g b hb).trans (h b hb)
section L17
variable {G : sj_G} {σ σ1 : sj_S} {D : zD} {T : Nat → Nat} {r : Nat}
theorem lR_up {D : zD} {σ : sj_S} (h : lR D σ) : lR (zUp D 2 0 1) σ := ⟨h.1, h.2.1, fun l hl => h.2.2.1 l hl, fun w hw => h.2.2.2.1 w hw, fun k hk => h.2.2.2.2 k hk⟩
theorem lR_35 (hL : lR D σ) (q : ∀ b, 55 < b → b ≠ 62 → σ1 b = σ b) : lR D σ1 := lR_e hL (fun b hb => by
  have : ∀ b, b ∈ [57, 58, 59, 60, 61, 63, 64, 65, 66, 67] → 55 < b ∧ b ≠ 62 := by decide
  obtain ⟨h1, h2⟩ := this b hb
  exact q b h1 h2) (by rw [q 56 (by decide) (by decide)]) (by rw [q 56 (by decide) (by decide)])
theorem l_found96 (ok : sj_ok G) (hO : sj_ad G 70 = sj_ad G 0) (h : kT D T σ) (hH : kH σ) (hL : lR D σ) (h1 : 1 ≤ dN D) (h30 : σ 30 3 = -1) (h52 : σ 52 2 = nI 0) (hTc : ∀ t, t < 6 → dTch D t = 63) (hI : ∀ t d, t < 6 → d < 5 → (dIll D t).testBit d = false) (hr : zRd σ r) :
    ∃ (D' : zD) (T' : Nat → Nat) (σ' : sj_S), wp_L_isFound_96 G (.ok (nI 1), σ') σ ∧ kW D' T' σ' ∧ lR D' σ' ∧ zRd σ' r ∧ kF σ σ' ∧ ∀ f, f ≠ 14 → ∀ j, D' f j = D f j := by
  have v := h.1
  obtain ⟨σ3, k1, k2, k3⟩ := l_looks (σ := σ) ok hO v h.2.1 h.2.2.1 hL
  have T3 : kT D T σ3 := kT_e h (k2 2 (by decide)) (k2 3 (by decide))
  have L3 : lR D σ3 := lR_35 hL (fun b _ hb => k2 b hb)
  have A3 : lA D T σ3 := fun l hl => by
    obtain ⟨x, y⟩ := h.2.2.2.1 l hl
    rw [k3 l hl]
    exact ⟨x, y⟩
  have g3 := l_good (σ := σ3) ok v L3 A3
  rw [zRb_iff.mpr h.2.2.2.2] at g3
  have p3 := k_proof (G := G) (σ := σ3) ok
  rw [k2 30 (by decide), h30] at p3
  have c3 := k_cost (σ := σ3) ok T3
  have lc3 := l_cost (σ := σ3) ok v L3 A3
  obtain ⟨σ4, r4, q4⟩ := l_areRooms (σ := σ3) ok hO T3 L3 A3
  have T4 : kT D T σ4 := kT_e T3 (q4 2 (by omega)) (q4 3 (by omega))
  obtain ⟨σ5, s5, m5, T5, A5, f5⟩ := l_areChoices (σ := σ4) ok hO T4 (lQ L3 q4) (lQA A3 q4) h1
  have L5 : lR D σ5 := lM (lQ L3 q4) m5
  have H5 : kH σ5 := kH_e (kH_e (kH_e hH (k2 4 (by decide))) (q4 4 (by omega))) (f5 4 (by omega))
  obtain ⟨T', σ6, i6, m6, T6, H6, A6⟩ := l_isImproved (σ := σ5) ok hO T5 H5 L5 A5
  have e52 : σ6 52 2 = nI 0 := by rw [m6.1 52 (by omega), m5.1 52 (by omega), q4 52 (by omega), k2 52 (by decide)]; exact h52
  obtain ⟨D', σ7, t7, d7, n7, W7, L7⟩ := l_isTold (σ := σ6) ok hO T6 H6 e52 hTc hI (lM L5 m6) A6
  refine ⟨D', T', σ7, ?_, W7, L7, ?_, fun b hb => ?_, d7⟩
  · refine ⟨_, k1, _, _, g3, fun x => absurd x z_10, fun _ => ⟨_, _, p3, fun x => absurd rfl x, fun _ => ⟨_, _, c3, _, _, lc3, fun x => absurd rfl x, fun _ => ⟨_, _, r4, fun x => absurd x z_10, fun _ => ⟨_, _, s5, fun x => absurd x z_10, fun _ => ⟨_, _, i6, fun x => absurd x z_10, fun _ => ⟨_, _, t7, ?_⟩⟩⟩⟩⟩⟩⟩
    unfold wp_L_isFound_165
    rw [if_neg z_10]
    exact ⟨rfl, Or.inr rfl⟩
  · refine zRd_e hr ?_ ?_
    · rw [n7.2.1 7 (by decide), m6.2.1 7 (by decide), m5.2.1 7 (by decide), q4 30 (by omega), k2 30 (by decide)]
    · rw [n7.1 33 (by omega), m6.1 33 (by omega), m5.1 33 (by omega), q4 33 (by omega), k2 33 (by decide)]
  · rw [n7.1 b (by omega), m6.1 b (by omega), m5.1 b (by omega), q4 b (by omega), k2 b (by omega)]
theorem l_foundT (ok : sj_ok G) (hO : sj_ad G 70 = sj_ad G 0) (v : okD D) (hC : repC D (σ 2)) (hL : lR D σ) (h1 : 1 ≤ dN D) (h52 : σ 52 2 = nI 0) (hTc : ∀ t, t < 6 → dTch D t = 63) (hI : ∀ t d, t < 6 → d < 5 → (dIll D t).testBit d = false)
    (hc : sj_C G 123 me_X11_find [.ref (sj_ad G 0)] σ (.ok (nI 1), σ1)) (q1 : kFd σ σ1) (H1 : kH σ1) (hr : zRd σ1 r) (hT : zFst D (zHd D) T) (h3 : ∀ l, l < dN D → σ1 3 l = nI (T l)) (h2 : σ1 2 = upd (σ 2) 2 (nI 1)) (h30 : σ1 30 3 = -1) :
    ∃ (D' : zD) (T' : Nat → Nat) (σ' : sj_S), sj_C G 125 me_L_isFound [.ref (sj_ad G 56)] σ (.ok (nI 1), σ') ∧ kW D' T' σ' ∧ lR D' σ' ∧ zRd σ' r ∧ kF σ σ' ∧ ∀ f, f ≠ 14 → f ≠ 2 → ∀ j, D' f j = D f j := by
  have h9 := v.1
  have v1 : okD (zUp D 2 0 1) := okD_T v
  have T1 : kT (zUp D 2 0 1) T σ1 := ⟨v1, by rw [h2]; exact repC_T v hC, rfl, fun l hl => ⟨h3 l hl, (hT.1 l hl).1⟩, by rw [zHd_2 zD2_up]; exact (zRi_2 zD2_up).mpr hT.1⟩
  have L1 : lR D σ1 := lR_35 hL (fun b hb _ => q1 b (by omega))
  have hN : σ1 56 13 = nI (dN D) := L1.1
  have k96 : ∀ κ : sj_S, (∀ b, b ≠ 62 → κ b = σ1 b) → ∃ (D' : zD) (T' : Nat → Nat) (σ' : sj_S), wp_L_isFound_96 G (.ok (nI 1), σ') κ ∧ kW D' T' σ' ∧ lR D' σ' ∧ zRd σ' r ∧ kF σ σ' ∧ ∀ f, f ≠ 14 → f ≠ 2 → ∀ j, D' f j = D f j := fun κ hκ => by
    obtain ⟨D', T', σ', g1, g2, g3, g4, g5, g6⟩ := l_found96 (σ := κ) (r := r) ok hO (kT_e T1 (hκ 2 (by decide)) (hκ 3 (by decide))) (kH_e H1 (hκ 4 (by decide))) (lR_up (lR_35 L1 (fun b _ hb => hκ b hb))) h1 (by rw [hκ 30 (by decide)]; exact h30) (by rw [hκ 52 (by decide), q1 52 (by omega)]; exact h52) hTc hI (zRd_e hr (by rw [hκ 30 (by decide)]) (by rw [hκ 33 (by decide)]))
    refine ⟨D', T', σ', g1, g2, g3, g4, fun b hb => ?_, fun f h14 hf j => ?_⟩
    · rw [g5 b hb, hκ b (by omega), q1 b (by omega)]
    · rw [g6 f h14 j]
      show (if f = 2 then _ else D f j) = D f j
      rw [if_neg hf]
  by_cases h4 : 4 ≤ dN D
  · obtain ⟨D', T', σ', g1, g2⟩ := k96 σ1 (fun _ _ => rfl)
    refine ⟨D', T', σ', c_L_isFound ok hO ⟨_, _, hc, fun _ => ⟨fun _ => t_L_isFound_55 hO ⟨fun x => ?_, fun _ => ⟨fun _ => g1, fun x => ?_⟩⟩, fun x => absurd x z_10⟩, fun x => ?_⟩, g2⟩
    · rw [hN] at x
      exact absurd x (nI_ge (by omega) (by omega))
    · rw [hN] at x
      exact absurd (nI_le h4 (by omega)) x
    · rw [hN] at x
      exact absurd (nI_le h4 (by omega)) x
  · obtain ⟨b, σ2, t1, t2, t3, t4⟩ := l_tries (σ := σ1) ok v L1 h1 (by omega)
    have hb : b = true := by
      cases hb : b
      · exact absurd hT.1 (t4 hb T)
      · rfl
    rw [hb] at t1
    obtain ⟨U, u1, u2⟩ := t3 hb
    have eU := zFst_uni u1 hT
    obtain ⟨D', T', σ', g1, g2⟩ := k96 σ2 t2
    have hN2 : σ2 56 13 = nI (dN D) := by rw [t2 56 (by decide)]; exact hN
    have T2 : kT (zUp D 2 0 1) T σ2 := kT_e T1 (t2 2 (by decide)) (t2 3 (by decide))
    have key : ∀ j l, l + j = dN D → sj_J G 125 me_L_isFound (.ok (nI 1), σ') 55 [.ref (sj_ad G 56), .null, .int (nI l)] σ2 [] := by
      intro j
      induction j with
      | zero =>
        intro l hl
        obtain rfl : l = dN D := by omega
        refine t_L_isFound_55 hO ⟨fun _ => g1, fun x => ?_⟩
        rw [hN2] at x
        exact absurd (nI_le (Nat.le_refl _) (by omega)) x
      | succ j ih =>
        intro l hl
        have hlN : l < dN D := by omega
        have s1 := k_slotOf (σ := σ2) (D := zUp D 2 0 1) (l := l) ok v1 T2.2.1 rfl hlN
        have e : σ2 3 l = σ2 62 l := by
          rw [(T2.2.2.2.1 l hlN).1, (u2 l hlN).1, eU l hlN]
        refine t_L_isFound_55 hO ⟨fun x => ?_, fun _ => ⟨fun x => ?_, fun _ => ⟨_, _, s1, z_in (by omega) (by decide), fun _ => ?_, fun x => ?_⟩⟩⟩
        · rw [hN2] at x
          exact absurd x (nI_ge hlN (by omega))
        · rw [hN2] at x
          exact absurd x (nI_ge (by omega) (by decide))
        · rw [nI_add]
          exact ih (l + 1) (by omega)
        · rw [nI_clamp (by omega)] at x
          exact absurd e x
    refine ⟨D', T', σ', c_L_isFound ok hO ⟨_, _, hc, fun x => ?_, fun _ => ⟨_, _, t1, fun _ => ⟨fun _ => key (dN D) 0 (by omega), fun x => absurd x z_10⟩, fun x => absurd rfl x⟩⟩, g2⟩
    rw [hN] at x
    exact absurd x (nI_ge (by omega) (by decide))
end L17
