/-! P59, THE LAW 14: the school is made -/
/-- the law's lessons and rooms are those of L -/
def lRl (L : zD) (σ : sj_S) : Prop := σ 56 13 = nI (dN L) ∧ (∀ l, l < dN L → σ 57 l = nI (dG L l) ∧ σ 58 l = nI (dTe L l) ∧ σ 59 l = nI (dSu L l) ∧ σ 60 l = zk (dKi L l) ∧ σ 61 l = nI (1 + dDb L l)) ∧ ∀ k, k < 3 → σ 67 k = nI (dRo L k)
/-- what they may be -/
def lOk (L : zD) : Prop := dN L ≤ 9 ∧ (∀ l, l < dN L → dG L l < 4 ∧ dTe L l < 6 ∧ dSu L l < 6 ∧ dKi L l ≤ 3 ∧ dDb L l ≤ 1) ∧ ∀ k, k < 3 → dRo L k ≤ 3
theorem lRl_e {L : zD} {σ σ' : sj_S} (h : lRl L σ) (e : ∀ b, 56 ≤ b → b < 62 ∨ b = 67 → σ' b = σ b) : lRl L σ' := by
  unfold lRl at h ⊢
  rw [e 56 (by decide) (by decide), e 57 (by decide) (by decide), e 58 (by decide) (by decide), e 59 (by decide) (by decide), e 60 (by decide) (by decide), e 61 (by decide) (by decide), e 67 (by decide) (by decide)]
  exact h
theorem lRl_c {L : zD} {σ σ' : sj_S} (h : lRl L σ) (q : kCh σ σ') : lRl L σ' := lRl_e h (fun b h1 _ => q.1 b (by omega) (by omega) (by omega) (by omega) (by omega))
/-- the rest of a school -/
def kRest (D D' : zD) : Prop := (∀ t, t < 6 → dTch D' t = dTch D t ∧ dIll D' t = dIll D t) ∧ ∀ e, e < 8 → dAp D' e = dAp D e
theorem kRest_t {D D1 D2 : zD} (h : kRest D D1) (g : kRest D1 D2) : kRest D D2 := ⟨fun t ht => ⟨(g.1 t ht).1.trans (h.1 t ht).1, (g.1 t ht).2.trans (h.1 t ht).2⟩, fun e he => (g.2 e he).trans (h.2 e he)⟩
/-- no wish, no table -/
def kZr (D : zD) : Prop := dW D = 0 ∧ dT D = 0
/-- the first n lessons are those of L -/
def kLs (L D : zD) (n : Nat) : Prop := ∀ l, l < n → dG D l = dG L l ∧ dTe D l = dTe L l ∧ dSu D l = dSu L l ∧ dKi D l = dKi L l ∧ dDb D l = dDb L l
theorem kRm_o {D : zD} {k n f i : Nat} (h : f ≠ 13) (h2 : f ≠ 2) : zUp (zNoT D) 13 k n f i = D f i := by simp [zUp, zNoT, h, h2]
theorem kRm_e {D : zD} {k n i : Nat} : zUp (zNoT D) 13 k n 13 i = if i = k then n else D 13 i := by simp [zUp, zNoT]
theorem kAl_o {D : zD} {g t s K d f i : Nat} (h : f ≠ 0) (h1 : f ≠ 2) (h2 : f < 3 ∨ 7 < f) : zAL (zNoT D) g t s K d f i = D f i := by
  rw [zAL_o h h2]
  simp [zUp, zNoT, h1]
theorem kAl_n {D : zD} {g t s K d f i : Nat} (h : f ≠ 0) (h1 : f ≠ 2) (h2 : i ≠ dN D) : zAL (zNoT D) g t s K d f i = D f i := by
  rw [zAL_n (D := zNoT D) h h2]
  simp [zUp, zNoT, h1]
theorem kAl_e {D : zD} {g t s K d f : Nat} (h : 3 ≤ f) (h2 : f ≤ 7) : zAL (zNoT D) g t s K d f (dN D) = (if f = 3 then g else if f = 4 then t else if f = 5 then s else if f = 6 then K else d) := by
  unfold zAL
  rw [if_neg (by omega), if_pos ⟨h, h2, rfl⟩]
section L14
variable {G : sj_G} {σ : sj_S} {L D : zD}
theorem l_made2 (ok : sj_ok G) (hL : lRl L σ) (vL : lOk L) : ∀ j l (D : zD) (ρ : sj_S), l + j = dN L → kCh σ ρ → okD D → repC D (ρ 2) → kH ρ → dN D = l → kZr D → kLs L D l → (∀ k, k < 3 → dRo D k = dRo L k) → (∀ t, t < 6 → dTch D t = 63) →
    ∃ (D' : zD) (σ' : sj_S), kCh σ σ' ∧ okD D' ∧ repC D' (σ' 2) ∧ kH σ' ∧ dN D' = dN L ∧ kZr D' ∧ kLs L D' (dN L) ∧ (∀ k, k < 3 → dRo D' k = dRo L k) ∧ kRest D D' ∧
      sj_J G 12 me_L_isMade (.ok (nI 1), σ') 32 [.ref (sj_ad G 56), .ref (sj_ad G 0), .int (nI l)] ρ [] := by
  have h9 := vL.1
  intro j
  induction j with
  | zero =>
    intro l D ρ hl q v hC hH hN hW hLs hRo hTc
    obtain rfl : l = dN L := by omega
    have r13 : ρ 56 13 = nI (dN L) := (lRl_c hL q).1
    have c1 := k_lessons (σ := ρ) ok hC
    rw [hN] at c1
    refine ⟨D, ρ, q, v, hC, hH, hN, hW, hLs, hRo, ⟨fun _ _ => ⟨rfl, rfl⟩, fun _ _ => rfl⟩, t_L_isMade_32 ⟨fun _ => ⟨_, _, c1, ?_⟩, fun x => ?_⟩⟩
    · unfold wp_L_isMade_111
      rw [r13, if_pos rfl]
      exact ⟨rfl, Or.inr rfl⟩
    · rw [r13] at x
      exact absurd (nI_le (Nat.le_refl _) (by omega)) x
  | succ j ih =>
    intro l D ρ hl q v hC hH hN hW hLs hRo hTc
    have hl9 : l < dN L := by omega
    obtain ⟨r13, rl, -⟩ := lRl_c hL q
    obtain ⟨a1, a2, a3, a4, a5⟩ := rl l hl9
    obtain ⟨b1, b2, b3, b4, b5⟩ := vL.2.1 l hl9
    have h63 : ∀ s, s < 6 → bt (nI 63) s = true := by decide +kernel
    obtain ⟨d, ed⟩ : ∃ d, d = dDb L l := ⟨_, rfl⟩
    rw [← ed] at a5 b5
    have e1 : (if nI (1 + d) = nI 2 then nI 1 else nI 0) = (if (decide (d = 1)) = true then nI 1 else nI 0) ∧ (if (decide (d = 1)) = true then 1 else 0) = d := by
      rcases (by omega : d = 0 ∨ d = 1) with x | x <;> subst x <;> decide
    obtain ⟨ρ', c1, v', hC', hH', q'⟩ := k_lesson (σ := ρ) (D := D) (g := dG L l) (t := dTe L l) (s := dSu L l) (K := dKi L l) (b := decide (d = 1)) ok v hC hH b1 b2 b3 b4 (by rw [hTc _ b2]; exact h63 _ b3) (by omega)
    rw [e1.2] at v' hC'
    rw [← e1.1, hN] at c1
    have nN : dN (zAL (zNoT D) (dG L l) (dTe L l) (dSu L l) (dKi L l) d) = l + 1 := by
      show D 0 0 + 1 = l + 1
      rw [show D 0 0 = l from hN]
    have hLs' : kLs L (zAL (zNoT D) (dG L l) (dTe L l) (dSu L l) (dKi L l) d) (l + 1) := fun o ho => by
      by_cases x : o = l
      · subst x
        have e : ∀ f, 3 ≤ f → f ≤ 7 → zAL (zNoT D) (dG L o) (dTe L o) (dSu L o) (dKi L o) d f o = (if f = 3 then dG L o else if f = 4 then dTe L o else if f = 5 then dSu L o else if f = 6 then dKi L o else d) := fun f h1 h2 => by
          have := kAl_e (D := D) (g := dG L o) (t := dTe L o) (s := dSu L o) (K := dKi L o) (d := d) h1 h2
          rw [hN] at this
          exact this
        exact ⟨e 3 (by decide) (by decide), e 4 (by decide) (by decide), e 5 (by decide) (by decide), e 6 (by decide) (by decide), (e 7 (by decide) (by decide)).trans ed⟩
      · have e : ∀ f, 3 ≤ f → zAL (zNoT D) (dG L l) (dTe L l) (dSu L l) (dKi L l) d f o = D f o := fun f h1 => kAl_n (by omega) (by omega) (by omega)
        obtain ⟨y1, y2, y3, y4, y5⟩ := hLs o (by omega)
        exact ⟨(e 3 (by decide)).trans y1, (e 4 (by decide)).trans y2, (e 5 (by decide)).trans y3, (e 6 (by decide)).trans y4, (e 7 (by decide)).trans y5⟩
    have hR' : kRest D (zAL (zNoT D) (dG L l) (dTe L l) (dSu L l) (dKi L l) d) := ⟨fun t _ => ⟨kAl_o (by decide) (by decide) (by decide), kAl_o (by decide) (by decide) (by decide)⟩, fun e _ => kAl_o (by decide) (by decide) (by decide)⟩
    obtain ⟨D', σ', g1, g2, g3, g4, g5, g6, g7, g8, g9, g10⟩ := ih (l + 1) _ ρ' (by omega) (kCh_t q q') v' hC' hH' nN ⟨(kAl_o (by decide) (by decide) (by decide)).trans hW.1, (zAL_o (by decide) (by decide)).trans rfl⟩ hLs' (fun k hk => (kAl_o (by decide) (by decide) (by decide)).trans (hRo k hk)) (fun t ht => ((hR'.1 t ht).1).trans (hTc t ht))
    have hin : vp_in (nI l) 9 := z_in (by omega) (by decide)
    refine ⟨D', σ', g1, g2, g3, g4, g5, g6, g7, g8, kRest_t hR' g9, t_L_isMade_32 ⟨fun x => ?_, fun _ => ⟨hin, hin, hin, hin, hin, ?_⟩⟩⟩
    · rw [r13] at x
      exact absurd x (nI_ge hl9 (by omega))
    · rw [nI_clamp (by omega), a1, a2, a3, a4, a5]
      refine ⟨_, _, c1, fun _ => ?_, fun x => absurd rfl x⟩
      rw [nI_add]
      exact g10
theorem l_isMade (ok : sj_ok G) (hL : lRl L σ) (vL : lOk L) (v : okD D) (hC : repC D (σ 2)) (hH : kH σ) (hN : dN D = 0) (hW : kZr D) (hRo : ∀ k, k < 3 → dRo D k = 3) (hTc : ∀ t, t < 6 → dTch D t = 63) :
    ∃ (D' : zD) (σ' : sj_S), sj_C G 12 me_L_isMade [.ref (sj_ad G 56), .ref (sj_ad G 0)] σ (.ok (nI 1), σ') ∧ kCh σ σ' ∧ okD D' ∧ repC D' (σ' 2) ∧ kH σ' ∧ dN D' = dN L ∧ kZr D' ∧ kLs L D' (dN L) ∧ (∀ k, k < 3 → dRo D' k = dRo L k) ∧ kRest D D' := by
  have key : ∀ j k (D : zD) (ρ : sj_S), k + j = 3 → kCh σ ρ → okD D → repC D (ρ 2) → kH ρ → dN D = 0 → kZr D → (∀ i, i < 3 → dRo D i = if i < k then dRo L i else 3) → (∀ t, t < 6 → dTch D t = 63) →
      ∃ (D' : zD) (σ' : sj_S), kCh σ σ' ∧ okD D' ∧ repC D' (σ' 2) ∧ kH σ' ∧ dN D' = dN L ∧ kZr D' ∧ kLs L D' (dN L) ∧ (∀ k, k < 3 → dRo D' k = dRo L k) ∧ kRest D D' ∧
        sj_J G 12 me_L_isMade (.ok (nI 1), σ') 2 [.ref (sj_ad G 56), .ref (sj_ad G 0), .int (nI k)] ρ [] := by
    intro j
    induction j with
    | zero =>
      intro k D ρ hk q v hC hH hN hW hRo hTc
      obtain rfl : k = 3 := by omega
      obtain ⟨D', σ', g1, g2, g3, g4, g5, g6, g7, g8, g9, g10⟩ := l_made2 ok hL vL (dN L) 0 D ρ (by omega) q v hC hH hN hW (fun l hl => absurd hl (Nat.not_lt_zero l)) (fun i hi => by rw [hRo i hi, if_pos hi]) hTc
      exact ⟨D', σ', g1, g2, g3, g4, g5, g6, g7, g8, g9, t_L_isMade_2 ⟨fun _ => g10, fun x => absurd (nI_le (Nat.le_refl 3) (by decide)) x⟩⟩
    | succ j ih =>
      intro k D ρ hk q v hC hH hN hW hRo hTc
      have hk3 : k < 3 := by omega
      obtain ⟨-, -, rk⟩ := lRl_c hL q
      have b := vL.2.2 k hk3
      obtain ⟨ρ', c1, v', hC', hH', q'⟩ := k_setRooms (σ := ρ) (D := D) (k := k) (n := dRo L k) ok v hC hH hk3 (by omega)
      rw [hRo k hk3, if_neg (Nat.lt_irrefl k)] at c1
      have hR' : kRest D (zUp (zNoT D) 13 k (dRo L k)) := ⟨fun t _ => ⟨kRm_o (by decide) (by decide), kRm_o (by decide) (by decide)⟩, fun e _ => kRm_o (by decide) (by decide)⟩
      obtain ⟨D', σ', g1, g2, g3, g4, g5, g6, g7, g8, g9, g10⟩ := ih (k + 1) _ ρ' (by omega) (kCh_t q q') v' hC' hH' ((kRm_o (by decide) (by decide)).trans hN) ⟨(kRm_o (by decide) (by decide)).trans hW.1, rfl⟩ (fun i hi => by
        show zUp (zNoT D) 13 k (dRo L k) 13 i = _
        rw [kRm_e]
        by_cases x : i = k
        · rw [if_pos x, if_pos (by omega), x]
        · rw [if_neg x, show D 13 i = _ from hRo i hi]
          by_cases y : i < k
          · rw [if_pos y, if_pos (by omega)]
          · rw [if_neg y, if_neg (by omega)]) (fun t ht => ((hR'.1 t ht).1).trans (hTc t ht))
      refine ⟨D', σ', g1, g2, g3, g4, g5, g6, g7, g8, kRest_t hR' g9, t_L_isMade_2 ⟨fun x => absurd x (nI_ge hk3 (by decide)), fun _ => ⟨z_in hk3 (by decide), ?_⟩⟩⟩
      rw [nI_clamp (by omega), rk k hk3]
      refine ⟨_, _, c1, fun _ => ?_, fun x => absurd rfl x⟩
      rw [nI_add]
      exact g10
  obtain ⟨D', σ', g1, g2, g3, g4, g5, g6, g7, g8, g9, g10⟩ := key 3 0 D σ (by decide) (kCh_r σ) v hC hH hN hW (fun i hi => by rw [if_neg (Nat.not_lt_zero i)]; exact hRo i hi) hTc
  exact ⟨D', σ', c_L_isMade ok g10, g1, g2, g3, g4, g5, g6, g7, g8, g9⟩
end L14
