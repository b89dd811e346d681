/-! PAIRS 12: removeLesson to its end -/
section ZPL
variable {G : sj_G} {σ : sj_S} {D : zD} {l : Nat}
theorem zDL_o {f i : Nat} (h : f ≠ 0) (h2 : f < 3 ∨ 7 < f) : zDL D l f i = D f i := by
  unfold zDL
  rw [if_neg h, if_neg (by omega)]
theorem zDL_l {f i : Nat} (h : 3 ≤ f) (h2 : f ≤ 7) : zDL D l f i = D f (if l ≤ i then i + 1 else i) := by
  unfold zDL
  rw [if_neg (by omega)]
  by_cases q : l ≤ i
  · rw [if_pos ⟨h, h2, q⟩, if_pos q]
  · rw [if_neg (fun r => q r.2.2), if_neg q]
theorem repC_dl {c : Nat → Int32} (hN : dN D ≤ 9) (hW : dW D ≤ 12) (hC : repC D c) (hl : l < dN D) : repC (zDL D l) (upd (va_cpy c c (3 + l * 5 + 5) (3 + l * 5) (5 * (dN D - l - 1))) 0 (nI (dN D - 1))) := by
  have hn : ∀ i, i ≠ 0 → (i < 3 ∨ 48 ≤ i) → upd (va_cpy c c (3 + l * 5 + 5) (3 + l * 5) (5 * (dN D - l - 1))) 0 (nI (dN D - 1)) i = c i := fun i a b => by
    rw [z_un a]
    unfold va_cpy
    rw [if_neg (by omega)]
  have eW : dW (zDL D l) = dW D := zDL_o (by decide) (by decide)
  have eT : dT (zDL D l) = dT D := zDL_o (by decide) (by decide)
  refine ⟨z_ue, by rw [eW]; exact (hn _ (by omega) (by omega)).trans hC.2.1, by rw [eT]; exact (hn _ (by omega) (by omega)).trans hC.2.2.1, fun i hi => ?_, fun w hw => ?_, fun t h => ?_, fun k h => ?_, fun e h => ?_⟩
  · have hi : i < dN D - 1 := hi
    have ec : ∀ k, k < 5 → upd (va_cpy c c (3 + l * 5 + 5) (3 + l * 5) (5 * (dN D - l - 1))) 0 (nI (dN D - 1)) (3 + i * 5 + k) = c (3 + (if l ≤ i then i + 1 else i) * 5 + k) := fun k hk => by
      rw [z_un (by omega)]
      unfold va_cpy
      by_cases q : l ≤ i
      · rw [if_pos (by omega), if_pos q]
        congr 1
        omega
      · rw [if_neg (by omega), if_neg q]
    rw [ec 0 (by decide), ec 1 (by decide), ec 2 (by decide), ec 3 (by decide), ec 4 (by decide), show dG (zDL D l) i = _ from zDL_l (by decide) (by decide), show dTe (zDL D l) i = _ from zDL_l (by decide) (by decide), show dSu (zDL D l) i = _ from zDL_l (by decide) (by decide), show dKi (zDL D l) i = _ from zDL_l (by decide) (by decide), show dDb (zDL D l) i = _ from zDL_l (by decide) (by decide)]
    exact hC.2.2.2.1 (if l ≤ i then i + 1 else i) (by split <;> omega)
  · rw [eW] at hw
    rw [show dSo (zDL D l) w = _ from zDL_o (by decide) (by decide), show dA (zDL D l) w = _ from zDL_o (by decide) (by decide), show dB (zDL D l) w = _ from zDL_o (by decide) (by decide), show dWe (zDL D l) w = _ from zDL_o (by decide) (by decide)]
    rw [hn _ (by omega) (by omega), hn _ (by omega) (by omega), hn _ (by omega) (by omega), hn _ (by omega) (by omega)]
    exact hC.2.2.2.2.1 w hw
  · rw [show dTch (zDL D l) t = _ from zDL_o (by decide) (by decide), show dIll (zDL D l) t = _ from zDL_o (by decide) (by decide), hn _ (by omega) (by omega), hn _ (by omega) (by omega)]
    exact hC.2.2.2.2.2.1 t h
  · rw [show dRo (zDL D l) k = _ from zDL_o (by decide) (by decide), hn _ (by omega) (by omega)]
    exact hC.2.2.2.2.2.2.1 k h
  · rw [show dAp (zDL D l) e = _ from zDL_o (by decide) (by decide), hn _ (by omega) (by omega)]
    exact hC.2.2.2.2.2.2.2 e h
def zML (m : Nat → Int32) (l n : Nat) : Nat → Int32 := upd (zCl (zCl (zCl (zCl (zCl m (0 + l) (0 + 9)) (9 + l) (9 + 9)) (18 + l) (18 + 9)) (27 + l) (27 + 9)) (36 + l) (36 + 9)) 125 (nI (n - 1))
theorem repM_dl {c : Nat → Int32} (hN : dN D ≤ 9) (hW : dW D ≤ 12) (hC : repM D c) (hl : l < dN D) : repM (zDL D l) (zML c l (dN D)) := by
  have hn : ∀ i, i ≠ 125 → 45 ≤ i → zML c l (dN D) i = c i := fun i a b => by
    unfold zML
    rw [z_un a]
    unfold zCl
    rw [if_neg (by omega), if_neg (by omega), if_neg (by omega), if_neg (by omega), if_neg (by omega)]
  have eW : dW (zDL D l) = dW D := zDL_o (by decide) (by decide)
  have eT : dT (zDL D l) = dT D := zDL_o (by decide) (by decide)
  refine ⟨z_ue, by rw [eW]; exact (hn _ (by omega) (by omega)).trans hC.2.1, by rw [eT]; exact (hn _ (by omega) (by omega)).trans hC.2.2.1, fun i hi => ?_, fun w hw => ?_, fun t h => ?_, fun k h => ?_, fun e h => ?_⟩
  · have hi : i < dN D - 1 := hi
    obtain ⟨a1, a2, a3, a4, a5⟩ := hC.2.2.2.1 (if l ≤ i then i + 1 else i) (by split <;> omega)
    rw [show dG (zDL D l) i = _ from zDL_l (by decide) (by decide), show dTe (zDL D l) i = _ from zDL_l (by decide) (by decide), show dSu (zDL D l) i = _ from zDL_l (by decide) (by decide), show dKi (zDL D l) i = _ from zDL_l (by decide) (by decide), show dDb (zDL D l) i = _ from zDL_l (by decide) (by decide), ← a1, ← a2, ← a3, ← a4, ← a5]
    by_cases q : l ≤ i
    · simp only [if_pos q]
      refine ⟨?_, ?_, ?_, ?_, ?_⟩
      · unfold zML zCl
        rw [z_un (by omega), if_neg (by omega), if_neg (by omega), if_neg (by omega), if_neg (by omega), if_pos (by omega), Nat.add_assoc]
      · unfold zML zCl
        rw [z_un (by omega), if_neg (by omega), if_neg (by omega), if_neg (by omega), if_pos (by omega), if_neg (by omega), Nat.add_assoc]
      · unfold zML zCl
        rw [z_un (by omega), if_neg (by omega), if_neg (by omega), if_pos (by omega), if_neg (by omega), if_neg (by omega), Nat.add_assoc]
      · unfold zML zCl
        rw [z_un (by omega), if_neg (by omega), if_pos (by omega), if_neg (by omega), if_neg (by omega), if_neg (by omega), Nat.add_assoc]
      · unfold zML zCl
        rw [z_un (by omega), if_pos (by omega), if_neg (by omega), if_neg (by omega), if_neg (by omega), if_neg (by omega), Nat.add_assoc]
    · simp only [if_neg q]
      refine ⟨?_, ?_, ?_, ?_, ?_⟩ <;>
      · unfold zML zCl
        rw [z_un (by omega), if_neg (by omega), if_neg (by omega), if_neg (by omega), if_neg (by omega), if_neg (by omega)]
  · rw [eW] at hw
    rw [show dSo (zDL D l) w = _ from zDL_o (by decide) (by decide), show dA (zDL D l) w = _ from zDL_o (by decide) (by decide), show dB (zDL D l) w = _ from zDL_o (by decide) (by decide), show dWe (zDL D l) w = _ from zDL_o (by decide) (by decide)]
    rw [hn _ (by omega) (by omega), hn _ (by omega) (by omega), hn _ (by omega) (by omega), hn _ (by omega) (by omega)]
    exact hC.2.2.2.2.1 w hw
  · rw [show dTch (zDL D l) t = _ from zDL_o (by decide) (by decide), show dIll (zDL D l) t = _ from zDL_o (by decide) (by decide), hn _ (by omega) (by omega), hn _ (by omega) (by omega)]
    exact hC.2.2.2.2.2.1 t h
  · rw [show dRo (zDL D l) k = _ from zDL_o (by decide) (by decide), hn _ (by omega) (by omega)]
    exact hC.2.2.2.2.2.2.1 k h
  · rw [show dAp (zDL D l) e = _ from zDL_o (by decide) (by decide), hn _ (by omega) (by omega)]
    exact hC.2.2.2.2.2.2.2 e h
theorem z_rl34 (ok : sj_ok G) (v : okD D) (hl : l < dN D) : ∀ (j i : Nat) (c : Nat → Int32), i + j = dW D → repC (zRn D l (fun k => decide (k < i))) c →
    ∃ c', repC (zDL (zRn D l (fun k => decide (k < dW D))) l) c' ∧ sj_J G 4 me_X8_removeLesson (.ok (nI (dN D - 1)), sj_up σ 2 c') 34 [.ref (sj_ad G 1), .int (nI l), .int (nI i), .null] (sj_up σ 2 c) [] := by
  have h9 := v.1
  have h12 := v.2.1
  have eW : ∀ S, dW (zRn D l S) = dW D := fun S => zRn_o (by decide) (by decide)
  have eN : ∀ S, dN (zRn D l S) = dN D := fun S => zRn_o (by decide) (by decide)
  intro j
  induction j with
  | zero =>
    intro i c hi hC
    have hi : i = dW D := by omega
    subst hi
    have hd := repC_dl (l := l) (by rw [eN]; exact h9) (by rw [eW]; exact h12) hC (by rw [eN]; exact hl)
    rw [eN] at hd
    have c0 : c 0 = nI (dN D) := hC.1.trans (by rw [eN])
    have c1 : c 1 = nI (dW D) := hC.2.1.trans (by rw [eW])
    refine ⟨_, hd, t_X8_removeLesson_34 ⟨_, _, z_wishTotal ok, fun _ => ⟨_, _, z_lessonTotal ok, ?_⟩, fun q => ?_⟩⟩
    · simp only [sj_up_s, c0, nI_add, pk_mul]
      rw [pk_sub (show 3 + l * 5 ≤ 3 + dN D * 5 by omega), pk_sub (show 5 ≤ 3 + dN D * 5 - (3 + l * 5) by omega)]
      have e : 3 + dN D * 5 - (3 + l * 5) - 5 = 5 * (dN D - l - 1) := by omega
      rw [e, nI_clamp (by omega), nI_clamp (by omega), nI_clamp (by omega)]
      refine ⟨z_nlt0 (by omega), z_nlt0 (by omega), z_nlt0 (by omega), by omega, by omega, ?_⟩
      have e2 : va_cpy c c (3 + l * 5 + 5) (3 + l * 5) (5 * (dN D - l - 1)) 0 = nI (dN D) := by
        unfold va_cpy
        rw [if_neg (by omega), c0]
      rw [e2, pk_sub (by omega : 1 ≤ dN D)]
      refine ⟨_, _, z_lessonTotal ok, ?_⟩
      rw [z_ste, z_up_up, z_st_up]
    · rw [sj_up_s, c1] at q
      exact absurd (nI_le (by omega) (by omega)) q
  | succ j ih =>
    intro i c hi hC
    have c1 : c 1 = nI (dW D) := hC.2.1.trans (by rw [eW])
    obtain ⟨c', r, hr⟩ := z_renumber (σ := σ) ok v (k := i) (by omega) (by omega) hC
    obtain ⟨c'', r2, k2⟩ := ih (i + 1) c' (by omega) r
    refine ⟨c'', r2, t_X8_removeLesson_34 ⟨_, _, z_wishTotal ok, fun q => ?_, fun _ => ⟨_, hr, ?_⟩⟩⟩
    · rw [sj_up_s, c1] at q
      exact absurd q (nI_ge (by omega) (by omega))
    · rw [nI_add]
      exact k2
/-- School.removeLesson -/
theorem z_removeLesson (ok : sj_ok G) (hC : repC D (σ 2)) (v : okD D) (hl : l < dN D) : ∃ c', repC (zDL (zRn (zF l (dW D) D) l (fun k => decide (k < dW (zF l (dW D) D)))) l) c' ∧ sj_C G 4 me_X8_removeLesson [.ref (sj_ad G 1), .int (nI l)] σ (.ok (nI (dN D - 1)), sj_up σ 2 c') := by
  have h9 := v.1
  have h12 := v.2.1
  obtain ⟨v2, eN, -⟩ := okD_F (l := l) (dW D) D v (Nat.le_refl _)
  obtain ⟨c1, r1, k1⟩ := z_rl7 (σ := σ) (l := l) ok (by omega) (dW D) D (σ 2) v hC (Nat.le_refl _)
  have hz : repC (zRn (zF l (dW D) D) l (fun k => decide (k < 0))) c1 := by
    have e : zF l (dW D) D = zRn (zF l (dW D) D) l (fun k => decide (k < 0)) := by
      refine zRn_ext (fun _ _ _ _ => rfl) (fun i => ?_) (fun i => ?_)
      · rw [if_neg (fun q => absurd (of_decide_eq_true q.1) (by omega))]
      · rw [if_neg (fun q => absurd (of_decide_eq_true q.1) (by omega))]
    rw [← e]
    exact r1
  obtain ⟨c2, r2, k2⟩ := z_rl34 (σ := σ) ok v2 (by rw [eN]; exact hl) (dW (zF l (dW D) D)) 0 c1 (by omega) hz
  refine ⟨c2, r2, c_X8_removeLesson ok ⟨_, _, z_wishTotal ok, ?_⟩⟩
  rw [hC.2.1]
  have e : nI (dW D) - nI 1 = zk (dW D) := by
    rw [← z_m1k, Int32.sub_eq_add_neg]
    rfl
  rw [e]
  have h := k1 _ k2
  rw [z_up_self, eN] at h
  exact h
end ZPL
