/-! P59, THE CLASS ALONE 6: no errors -/
section K6
variable {G : sj_G} {σ : sj_S} {D : zD} {T : Nat → Nat} {r : Nat}
theorem k_errors (ok : sj_ok G) (h : kW D T σ) (hr : r + 200 < 2 ^ 27) (hd : zRd σ r) : ∃ σ', sj_C G 123 me_X11_errors [.ref (sj_ad G 0)] σ (.ok (nI 0), σ') := by
  obtain ⟨v, hC, -, hT⟩ := h
  have h9 := v.1
  obtain ⟨σ1, s1, s2⟩ := z_sharedPairs (σ := σ) ok hC v
  have c1 : repC D (σ1 2) := by rw [s2 2 (by decide)]; exact hC
  obtain ⟨σ2, x1, x2⟩ := z_faultsX (σ := σ1) ok v c1
  have f2 : ∀ b, b ≠ 40 → b ≠ 45 → σ2 b = σ b := fun b h1 h2 => by rw [x2 b h2, s2 b h1]
  have c2 : repC D (σ2 2) := by rw [f2 2 (by decide) (by decide)]; exact hC
  have ht := z_hasTable (σ := σ2) ok
  by_cases hq : dT D = 1
  · obtain ⟨hT1, hrt⟩ := hT hq
    rw [c2.2.2.1, hq, if_neg z_10] at ht
    obtain ⟨τ, hh, htk, hru, hτ⟩ := z_hard (σ := σ2) ok c2 v
    have ft : ∀ b, (b < 6 ∨ 16 < b) → b ≠ 40 → b ≠ 45 → τ b = σ b := fun b h0 h1 h2 => by rw [hτ b h0, f2 b h1 h2]
    obtain ⟨b, σ8, k1, k2, ⟨r8, r81, r82, r83⟩, k5, k6⟩ := z_seekFirst (σ := τ) (D := D) ok (by rw [ft 2 (by decide) (by decide) (by decide)]; exact hC) v hr (by
      unfold zRd
      rw [ft 30 (by decide) (by decide) (by decide), ft 33 (by decide) (by decide) (by decide)]
      exact hd)
    have hb : b = true := by
      cases hb : b
      · exact absurd hrt (k6 hb T)
      · rfl
    rw [hb] at k1
    obtain ⟨U, u1, u2⟩ := k5 hb
    have f8 : ∀ b, (b < 6 ∨ b = 29 ∨ b = 32 ∨ 35 < b) → b ≠ 40 → b ≠ 45 → σ8 b = σ b := fun b h0 h1 h2 => by rw [k2.1 b (by omega), ft b (by omega) h1 h2]
    have hR : repT (dN D) T (σ8 3) := fun o ho => by rw [f8 3 (by decide) (by decide) (by decide)]; exact hT1 o ho
    have c8 : repC D (σ8 2) := by rw [f8 2 (by decide) (by decide) (by decide)]; exact hC
    have hna := z_notAhead (σ := σ8) ok c8 v hR u2 u1 hrt
    have hir := z_isRight (σ := σ8) (T := T) ok v (Or.inl rfl) z_sl3 (zRu_fr6 hru (fun b h1 h2 => k2.1 b (by omega))) hR
    rw [zRb_iff.mpr hrt] at hir
    obtain ⟨ρ, y1, y2⟩ := z_faultsC (σ := σ8) ok c8 v hR
    refine ⟨ρ, c_X11_errors ok ⟨_, _, s1, _, _, x1, _, _, ht, fun q => absurd q z_10, fun _ => ⟨_, _, hh, _, htk, _, _, k1, fun q => absurd q z_10, fun _ => ⟨_, _, hna, ?_⟩⟩⟩⟩
    rw [if_pos z_00]
    unfold wp_X11_errors_88
    refine ⟨_, _, hir, ?_⟩
    rw [if_neg (show ¬ (if true = true then nI 1 else nI 0) = 0 from z_10), if_neg z_10]
    unfold wp_X11_errors_116
    refine ⟨_, _, y1, ?_⟩
    unfold wp_X11_errors_132
    rfl
  · have hq := zT_of v hq
    rw [c2.2.2.1, hq, if_pos z_00] at ht
    exact ⟨σ2, c_X11_errors ok ⟨_, _, s1, _, _, x1, _, _, ht, fun _ => rfl, fun q => absurd z_00 q⟩⟩
end K6
