/-! P59, THE LAW 9: what is written is read -/
section L9
variable {G : sj_G} {σ : sj_S} {D : zD} {T : Nat → Nat}
theorem kTx_t (T : Nat → Nat) (k : Nat) : kTx T (5 * (k / 4) + k % 4) = zTxt T k := by
  unfold kTx zTxt
  have e1 : (5 * (k / 4) + k % 4) / 5 = k / 4 := by omega
  have e2 : (5 * (k / 4) + k % 4) % 5 = k % 4 := by omega
  rw [e1, e2]
  rcases (by omega : k % 4 = 0 ∨ k % 4 = 1 ∨ k % 4 = 2 ∨ k % 4 = 3) with e | e | e | e <;> simp [e]
theorem zTxt_0 {T : Nat → Nat} {k : Nat} : 0 < zTxt T k := by
  unfold zTxt zLet
  repeat' split
  all_goals omega
/-- all is appended -/
theorem l_tellJ (ok : sj_ok G) (hO : sj_ad G 70 = sj_ad G 0) (h9 : dN D ≤ 9) {x1 : Int32} (h4 : σ 52 4 = nI (4 * dN D)) (ht : ∀ i, i < 4 * dN D → σ 54 i = nI (zTxt T i)) : ∀ n k (ρ : sj_S), k + n = 4 * dN D → (∀ b, b ≠ 52 → b ≠ 55 → ρ b = σ b) → (∀ i, i ≠ 2 → ρ 52 i = σ 52 i) → ρ 52 2 = nI (5 * (k / 4) + k % 4) → (∀ i, i < 5 * (k / 4) + k % 4 → ρ 55 i = nI (kTx T i)) →
    ∃ ρ' : sj_S, (∀ b, b ≠ 52 → b ≠ 55 → ρ' b = σ b) ∧ ρ' 52 2 = nI (5 * dN D) ∧ (∀ i, i < 5 * dN D → ρ' 55 i = nI (kTx T i)) ∧ ∀ R : sj_R, sj_J G 45 me_L_isTold R 30 [.ref (sj_ad G 56), .int x1, .int (nI (4 * dN D)), .int (nI (4 * dN D)), .null] ρ' [] → sj_J G 45 me_L_isTold R 30 [.ref (sj_ad G 56), .int x1, .int (nI (4 * dN D)), .int (nI k), .null] ρ [] := by
  intro n
  induction n with
  | zero =>
    intro k ρ hk e1 e2 e3 e4
    obtain rfl : k = 4 * dN D := by omega
    rw [show 5 * (4 * dN D / 4) + 4 * dN D % 4 = 5 * dN D by omega] at e3 e4
    exact ⟨ρ, e1, e3, e4, fun R hR => hR⟩
  | succ n ih =>
    intro k ρ hk e1 e2 e3 e4
    have hkN : k < 4 * dN D := by omega
    have hc128 := zTxt_lt (T := T) (i := k) (by omega)
    have hc0 := zTxt_0 (T := T) (k := k)
    have hw := k_writtenAt (σ := ρ) ok (w := 4 * dN D) (j := k) (c := zTxt T k) (by rw [e2 4 (by decide), h4]) (by omega) hkN hc128 (by rw [e1 54 (by decide) (by decide), ht k hkN])
    have es : (if (nI k - nI k / nI 4 * nI 4) = nI 3 then nI 32 else nI 0) = nI (if k % 4 = 3 then 32 else 0) := by
      rw [z_rem (by omega) (by decide) (by decide)]
      by_cases e : k % 4 = 3
      · rw [e, if_pos rfl, if_pos rfl]
      · rw [if_neg e, if_neg (fun q => e ((nI_eq (by omega) (by decide)).mp q))]
    obtain ⟨ρ1, a1, a2, a3, a4, a5⟩ := k_append (σ := ρ) ok (n := 5 * (k / 4) + k % 4) (c := zTxt T k) (s := if k % 4 = 3 then 32 else 0) e3 (by omega) hc0 hc128 (by split <;> omega)
    have elen : 5 * (k / 4) + k % 4 + (if (if k % 4 = 3 then 32 else 0) = 0 then 1 else 2) = 5 * ((k + 1) / 4) + (k + 1) % 4 := by
      by_cases e : k % 4 = 3
      · rw [if_pos e, if_neg (by decide)]
        omega
      · rw [if_neg e, if_pos rfl]
        omega
    rw [elen] at a1 a4
    obtain ⟨ρ', g1, g2, g3, g4⟩ := ih (k + 1) ρ1 (by omega) (fun b h1 h2 => by rw [a2 b h2 h1, e1 b h1 h2]) (fun i hi => by rw [a3 i hi, e2 i hi]) a4 (fun i hi => by
      rw [a5]
      by_cases e : k % 4 = 3
      · rw [if_pos e, if_neg (by decide)]
        by_cases q1 : i = 5 * (k / 4) + k % 4 + 1
        · rw [q1, z_ue]
          unfold kTx
          rw [if_neg (by omega), if_neg (by omega), if_neg (by omega), if_neg (by omega)]
        · rw [z_un q1]
          by_cases q2 : i = 5 * (k / 4) + k % 4
          · rw [q2, z_ue, kTx_t]
          · rw [z_un q2]
            exact e4 i (by omega)
      · rw [if_neg e, if_pos rfl]
        by_cases q2 : i = 5 * (k / 4) + k % 4
        · rw [q2, z_ue, kTx_t]
        · rw [z_un q2]
          exact e4 i (by omega))
    refine ⟨ρ', g1, g2, g3, fun R hR => t_L_isTold_30 hO ⟨fun q => absurd q (nI_ge (by omega) (by omega)), fun _ => ⟨_, _, hw, ?_⟩⟩⟩
    unfold wp_L_isTold_60
    rw [es]
    refine ⟨_, _, a1, fun _ => ?_, fun q => absurd (nI_le (by omega) (by omega)) q⟩
    rw [nI_add]
    exact g4 R hR
theorem l_isTold (ok : sj_ok G) (hO : sj_ad G 70 = sj_ad G 0) (h : kT D T σ) (hH : kH σ) (h52 : σ 52 2 = nI 0) (hTc : ∀ t, t < 6 → dTch D t = 63) (h0 : ∀ t d, t < 6 → d < 5 → (dIll D t).testBit d = false) (hL : lR D σ) (hA : lA D T σ) :
    ∃ (D' : zD) (σ' : sj_S), sj_C G 45 me_L_isTold [.ref (sj_ad G 56)] σ (.ok (nI 1), σ') ∧ (∀ f, f ≠ 14 → ∀ j, D' f j = D f j) ∧ kN σ σ' ∧ kW D' T σ' ∧ lR D' σ' := by
  have v := h.1
  have h9 := v.1
  have hk1 := k_checksum1 (σ := σ) ok v h.2.1 h.2.2.1 (fun l hl => (h.2.2.2.1 l hl).1)
  obtain ⟨σ1, w1, w2, w3, w4, w5⟩ := k_write (σ := σ) ok h
  have n1 : ∀ b, b ≠ 52 → b ≠ 54 → σ1 b = σ b := w2
  obtain ⟨σ2, b1, b2, b3, b4⟩ := l_tellJ (σ := σ1) (T := T) (x1 := zSum T (dN D) 0 (nI 17)) ok hO h9 w4 w5 (4 * dN D) 0 σ1 (by omega) (fun _ _ _ => rfl) (fun _ _ => rfl) (by rw [w3 2 (by decide), h52]) (fun i hi => absurd hi (by omega))
  have n2 : ∀ b, b ≠ 52 → b ≠ 54 → b ≠ 55 → σ2 b = σ b := fun b h1 h2 h3 => by rw [b1 b h1 h3, w2 b h1 h2]
  have T2 : kT D T σ2 := kT_e h (n2 2 (by decide) (by decide) (by decide)) (n2 3 (by decide) (by decide) (by decide))
  have H2 : kH σ2 := kH_e hH (n2 4 (by decide) (by decide) (by decide))
  have N2 : kN σ σ2 := ⟨fun b hb => n2 b (by omega) (by omega) (by omega), fun k _ => by rw [n2 30 (by decide) (by decide) (by decide)], fun k _ => by rw [n2 56 (by decide) (by decide) (by decide)]⟩
  obtain ⟨σ3, r1, r2, r3, r4, r5, r6⟩ := k_read (σ := σ2) ok T2 H2 b2 b3
  have N3 := kN_t N2 (kN_g r2)
  have hc3 := l_cost (σ := σ3) ok v (lN_R hL N3) (lN_A hA N3)
  have hk3 := k_checksum1 (σ := σ3) ok v r4.2.1 r4.2.2.1 (fun l hl => (r4.2.2.2.1 l hl).1)
  have he3 := k_errorPosition (G := G) (σ := σ3) ok
  rw [r6] at he3
  obtain ⟨n, σ4, u1, u2, u3, u4, u5, u6⟩ := k_undo (σ := σ3) ok r5
  have N4 := kN_t N3 (kN_c u3)
  have T4 : kT D T σ4 := ⟨v, repC_e v T2.2.1 u5, h.2.2.1, fun l hl => by rw [u6 l (by omega)]; exact T2.2.2.2.1 l hl, h.2.2.2.2⟩
  have hk4 := k_checksum1 (σ := σ4) ok v T4.2.1 T4.2.2.1 (fun l hl => (T4.2.2.2.1 l hl).1)
  have L4 := lN_R hL N4
  have A4 := lN_A hA N4
  obtain ⟨D', σ5, t1, t2, t3, t4, t5⟩ := l_areTaken (σ := σ4) ok hO T4 u4 hTc h0 L4 A4
  -- the sum of the law's own row
  have tot : ∀ k i x, i + k = dN D → zSum T k i x = zSum T (dN D) 0 (nI 17) → sj_J G 45 me_L_isTold (.ok (nI 1), σ5) 143 [.ref (sj_ad G 56), .int (zSum T (dN D) 0 (nI 17)), .null, .int x, .int (nI i)] σ4 [] := by
    intro k
    induction k with
    | zero =>
      intro i x hi hx
      obtain rfl : i = dN D := by omega
      refine t_L_isTold_143 hO ⟨fun _ => ⟨fun q => absurd hx q, fun _ => ⟨_, _, t1, ?_⟩⟩, fun q => ?_⟩
      · unfold wp_L_isTold_188
        rw [if_neg (by decide)]
        exact ⟨rfl, Or.inr rfl⟩
      · rw [L4.1] at q
        exact absurd (nI_le (Nat.le_refl _) (by omega)) q
    | succ k ih =>
      intro i x hi hx
      refine t_L_isTold_143 hO ⟨fun q => ?_, fun _ => ⟨z_in (by omega) (by decide), ?_⟩⟩
      · rw [L4.1] at q
        exact absurd q (nI_ge (by omega) (by omega))
      · rw [nI_clamp (by omega), (A4 i (by omega)).1, nI_add]
        exact ih (i + 1) _ (by omega) hx
  refine ⟨D', σ5, c_L_isTold ok hO ⟨_, _, hk1, _, _, w1, fun _ => ?_, fun q => ?_⟩, t2, kN_t N4 t3, t4, t5⟩
  · refine b4 _ (t_L_isTold_30 hO ⟨fun _ => ⟨_, _, r1, _, _, hc3, fun q => absurd rfl q, fun _ => ⟨_, _, hk3, fun q => absurd rfl q, fun _ => ⟨_, _, he3, fun q => absurd rfl q, fun _ => ⟨_, _, u2, fun q => absurd q (nI_pos (by omega)), fun _ => ⟨_, _, hk4, fun _ => tot (dN D) 0 (nI 17) (by omega) rfl, fun q => absurd rfl q⟩⟩⟩⟩⟩, fun q => absurd (nI_le (Nat.le_refl _) (by omega)) q⟩)
  · rw [n1 56 (by decide) (by decide), hL.1, pk_mul] at q
    exact absurd rfl q
end L9
