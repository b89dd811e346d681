/-! P59, THE LAW 8: areTaken -/
/-- what areTaken leaves alone -/
def kN (σ σ' : sj_S) : Prop := (∀ b, (b = 33 ∨ (46 ≤ b ∧ b ≤ 51) ∨ (57 ≤ b ∧ b ≤ 67) ∨ 69 ≤ b) → σ' b = σ b) ∧ (∀ k, k ≠ 3 → σ' 30 k = σ 30 k) ∧ ∀ k, k ≠ 0 → σ' 56 k = σ 56 k
theorem kN_r (σ : sj_S) : kN σ σ := ⟨fun _ _ => rfl, fun _ _ => rfl, fun _ _ => rfl⟩
theorem kN_t {σ σ1 σ2 : sj_S} (h : kN σ σ1) (g : kN σ1 σ2) : kN σ σ2 := ⟨fun b hb => (g.1 b hb).trans (h.1 b hb), fun k hk => (g.2.1 k hk).trans (h.2.1 k hk), fun k hk => (g.2.2 k hk).trans (h.2.2 k hk)⟩
theorem kN_q {σ σ' : sj_S} (h : kQ σ σ') : kN σ σ' := ⟨fun b hb => h b (by omega), fun k _ => by rw [h 30 (by omega)], fun k _ => by rw [h 56 (by omega)]⟩
theorem kN_c {σ σ' : sj_S} (h : kCh σ σ') : kN σ σ' := ⟨fun b hb => h.1 b (by omega) (by omega) (by omega) (by omega) (by omega), h.2, fun k _ => by rw [h.1 56 (by decide) (by decide) (by decide) (by decide) (by decide)]⟩
theorem kN_g {σ σ' : sj_S} (h : kG σ σ') : kN σ σ' := ⟨fun b hb => h.1 b (by omega), h.2, fun k _ => by rw [h.1 56 (by omega)]⟩
theorem kN_68 {σ : sj_S} {i : Nat} {x : Int32} : kN σ (sj_st σ 68 i x) := ⟨fun b hb => z_stn (by omega), fun k _ => by rw [z_stn (by decide)], fun k _ => by rw [z_stn (by decide)]⟩
theorem kN_x (σ : sj_S) (x : Int32) : kN σ (sj_st σ 56 0 x) := ⟨fun b hb => z_stn (by omega), fun k _ => by rw [z_stn (by decide)], fun k hk => z_sti hk⟩
theorem kN_rd {σ σ' : sj_S} {r : Nat} (h : kN σ σ') (g : zRd σ r) : zRd σ' r := ⟨by rw [h.2.1 7 (by decide)]; exact g.1, by rw [h.1 33 (by omega)]; exact g.2⟩
theorem lN_R {D : zD} {σ σ' : sj_S} (hL : lR D σ) (q : kN σ σ') : lR D σ' := lR_e hL (fun b hb => q.1 b (by
  have : ∀ b, b ∈ [57, 58, 59, 60, 61, 63, 64, 65, 66, 67] → 57 ≤ b ∧ b ≤ 67 := by decide
  have := this b hb
  omega)) (q.2.2 13 (by decide)) (q.2.2 14 (by decide))
theorem lN_A {D : zD} {T : Nat → Nat} {σ σ' : sj_S} (hA : lA D T σ) (q : kN σ σ') : lA D T σ' := lA_e hA (q.1 62 (by omega))
theorem lR_14 {D : zD} {σ : sj_S} {t n : Nat} (h : lR D σ) : lR (zUp D 14 t n) σ := h
theorem lA_14 {D : zD} {T : Nat → Nat} {σ : sj_S} {t n : Nat} (h : lA D T σ) : lA (zUp D 14 t n) T σ := h
section L8
variable {G : sj_G} {σ : sj_S} {D : zD} {T : Nat → Nat}
theorem l_illJ (ok : sj_ok G) (hO : sj_ad G 70 = sj_ad G 0) : ∀ k t d (D : zD) (ρ : sj_S), t * 6 + d + k = 36 → t ≤ 6 → d ≤ 5 → (t = 6 → d = 0) → lR D ρ → lA D T ρ → kW D T ρ →
    (∀ t' d', t' < 6 → d' < 5 → (5 * t' + d' < 5 * t + d → ρ 68 (5 * t' + d') = if (dIll D t').testBit d' then nI 1 else nI 0) ∧ (5 * t + d ≤ 5 * t' + d' → (dIll D t').testBit d' = false)) →
    ∃ (D' : zD) (ρ' : sj_S), (∀ f, f ≠ 14 → ∀ j, D' f j = D f j) ∧ kN ρ ρ' ∧ lR D' ρ' ∧ lA D' T ρ' ∧ kW D' T ρ' ∧ lI D' ρ' ∧
      ∀ R : sj_R, sj_J G 44 me_L_areTaken R 78 [.ref (sj_ad G 56), .int (nI 0), .int (nI 0), .null, .null, .null, .null, .null, .null, .null, .null] ρ' [] → sj_J G 44 me_L_areTaken R (if t = 6 then 2 else 10) (if t = 6 then [.ref (sj_ad G 56), .int (nI 6), .null, .null, .null, .null, .null, .null, .null, .null, .null] else [.ref (sj_ad G 56), .int (nI t), .int (nI d), .null, .null, .null, .null, .null, .null, .null, .null]) ρ [] := by
  intro k
  induction k with
  | zero =>
    intro t d D ρ hk ht hd h6 hL hA hW hI
    obtain rfl : t = 6 := by omega
    obtain rfl := h6 rfl
    refine ⟨D, ρ, fun _ _ _ => rfl, kN_r ρ, hL, hA, hW, fun t' d' h1 h2 => (hI t' d' h1 h2).1 (by omega), fun R hR => ?_⟩
    rw [if_pos rfl, if_pos rfl]
    exact t_L_areTaken_2 hO ⟨fun _ => hR, fun q => absurd (nI_le (Nat.le_refl 6) (by decide)) q⟩
  | succ k ih =>
    intro t d D ρ hk ht hd h6 hL hA hW hI
    have ht6 : t < 6 := by
      by_cases e : t = 6
      · have := h6 e
        omega
      · omega
    by_cases e5 : d = 5
    · -- the next teacher
      subst e5
      obtain ⟨D', ρ', a1, a2, a3, a4, a5, a6, a7⟩ := ih (t + 1) 0 D ρ (by omega) (by omega) (by omega) (fun _ => rfl) hL hA hW (fun t' d' h1 h2 => ⟨fun q => (hI t' d' h1 h2).1 (by omega), fun q => (hI t' d' h1 h2).2 (by omega)⟩)
      refine ⟨D', ρ', a1, a2, a3, a4, a5, a6, fun R hR => ?_⟩
      rw [if_neg (by omega), if_neg (by omega)]
      refine t_L_areTaken_10 hO ⟨fun _ => ?_, fun q => absurd (nI_le (Nat.le_refl 5) (by decide)) q⟩
      have nx := a7 R hR
      rw [nI_add]
      by_cases e6 : t + 1 = 6
      · rw [if_pos e6, if_pos e6] at nx
        rw [e6]
        exact nx
      · rw [if_neg e6, if_neg e6] at nx
        exact t_L_areTaken_2 hO ⟨fun q => absurd q (nI_ge (by omega) (by decide)), fun _ => nx⟩
    · have hd5 : d < 5 := by omega
      obtain ⟨n, x, hn, hnx⟩ := l_next (σ := ρ) ok (n := 3) (by decide) (by decide)
      obtain ⟨b, hb⟩ : ∃ b : Bool, (if nI n = 0 then nI 1 else nI 0) = (if b then nI 1 else nI 0) := by
        by_cases e : nI n = 0
        · exact ⟨true, by rw [if_pos e]; rfl⟩
        · exact ⟨false, by rw [if_neg e]; rfl⟩
      generalize e1 : sj_st ρ 56 0 x = ρ1 at hnx
      generalize e2 : sj_st ρ1 68 (5 * t + d) (if b then nI 1 else nI 0) = ρ2
      have q1 : kN ρ ρ1 := by rw [← e1]; exact kN_x ρ x
      have q2 : kN ρ ρ2 := by rw [← e2]; exact kN_t q1 kN_68
      have W2 : kW D T ρ2 := kW_e hW (by rw [← e2, z_stn (by decide), ← e1, z_stn (by decide)]) (by rw [← e2, z_stn (by decide), ← e1, z_stn (by decide)]) (by rw [← e2, z_stn (by decide), ← e1, z_stn (by decide)])
      obtain ⟨ρ3, hs, W3, c3⟩ := k_setIll (σ := ρ2) ok W2 b ht6 hd5
      have q3 := kN_t q2 (kN_c c3)
      have old := (hI t d ht6 hd5).2 (Nat.le_refl _)
      rw [old] at hs
      have v := hW.1
      have x32 := (v.2.2.2.2.2.1 t ht6).2
      have e68 : ∀ i, ρ3 68 i = if i = 5 * t + d then (if b then nI 1 else nI 0) else ρ 68 i := fun i => by
        rw [c3.1 68 (by decide) (by decide) (by decide) (by decide) (by decide), ← e2]
        by_cases q : i = 5 * t + d
        · rw [if_pos q, q, z_ste]
        · rw [if_neg q, z_sti q, ← e1, z_stn (by decide)]
      obtain ⟨D', ρ', a1, a2, a3, a4, a5, a6, a7⟩ := ih t (d + 1) (zUp D 14 t (zSetN (dIll D t) d b)) ρ3 (by omega) ht (by omega) (fun e => by omega) (lR_14 (lN_R hL q3)) (lA_14 (lN_A hA q3)) W3 (fun t' d' h1 h2 => by
        have el : dIll (zUp D 14 t (zSetN (dIll D t) d b)) t' = if t' = t then zSetN (dIll D t) d b else dIll D t' := rfl
        rw [el, e68]
        obtain ⟨g1, g2⟩ := hI t' d' h1 h2
        by_cases et : t' = t
        · subst et
          rw [if_pos rfl, z_setNb5 x32 hd5 h2]
          by_cases ed : d' = d
          · subst ed
            rw [if_pos rfl, if_pos rfl]
            exact ⟨fun _ => rfl, fun q => absurd q (by omega)⟩
          · rw [if_neg ed, if_neg (by omega)]
            exact ⟨fun q => g1 (by omega), fun q => g2 (by omega)⟩
        · rw [if_neg et, if_neg (by omega)]
          exact ⟨fun q => g1 (by omega), fun q => g2 (by omega)⟩)
      refine ⟨D', ρ', fun f hf j => ?_, kN_t q3 a2, a3, a4, a5, a6, fun R hR => ?_⟩
      · rw [a1 f hf j]
        exact if_neg hf
      · rw [if_neg (by omega), if_neg (by omega)]
        have nx := a7 R hR
        rw [if_neg (by omega), if_neg (by omega)] at nx
        refine t_L_areTaken_10 hO ⟨fun q => absurd q (nI_ge (by omega) (by decide)), fun _ => ⟨_, _, hnx, ?_⟩⟩
        unfold wp_L_areTaken_37
        rw [pk_mul, nI_add, nI_clamp (by omega), hb, e2]
        have e4 : ρ2 68 (5 * t + d) = if b then nI 1 else nI 0 := by rw [← e2, z_ste]
        rw [e4]
        refine ⟨z_in (by omega) (by decide), by cases b <;> decide, z_in (by omega) (by decide), _, _, hs, fun _ => ?_, fun q => absurd z_00 q⟩
        rw [nI_add]
        exact nx
theorem q_cnt_part {N P : Nat → Bool} : ∀ n, q_cnt (fun o => N o && P o) n + q_cnt (fun o => N o && !P o) n = q_cnt N n := by
  intro n
  induction n with
  | zero => rfl
  | succ n ih =>
    rw [q_cnt_s, q_cnt_s, q_cnt_s, ← ih]
    cases N n <;> cases P n <;> simp <;> omega
def lSv (D : zD) (T : Nat → Nat) (s : Nat) : Nat → Nat := q_cnt (fun o => zNe D T s o && decide (lG D T s (q_cnt (zNe D T s) o) < 6))
def lLf (D : zD) (T : Nat → Nat) (s : Nat) : Nat → Nat := q_cnt (fun o => zNe D T s o && !decide (lG D T s (q_cnt (zNe D T s) o) < 6))
theorem lSv_N (h9 : dN D ≤ 9) {s : Nat} : lSv D T s (dN D) = zSv2 D T s ∧ lLf D T s (dN D) = zNm9 D T s - zSv2 D T s := by
  have h1 : lSv D T s (dN D) = zSv2 D T s := by
    have h := q_cnt_pos (N := zNe D T s) (P := fun i => decide (lG D T s i < 6)) (dN D)
    rw [zNe_9 h9] at h
    exact h.trans zCt_m
  have h2 := q_cnt_part (N := zNe D T s) (P := fun o => decide (lG D T s (q_cnt (zNe D T s) o) < 6)) (dN D)
  rw [zNe_9 h9] at h2
  have h2 : lSv D T s (dN D) + lLf D T s (dN D) = zNm9 D T s := h2
  exact ⟨h1, by omega⟩
theorem l_slotL (ok : sj_ok G) (hO : sj_ad G 70 = sj_ad G 0) (h : kT D T σ) (hTc : ∀ t, t < 6 → dTch D t = 63) (hL : lR D σ) (hA : lA D T σ) (hI : lI D σ) {s d a n0 f0 : Nat} (hs : s < 20) (hd : s / 4 = d) (ha : a < 1000) (hn : n0 < 1000) (hf : f0 < 1000) : ∀ k l u (ρ : sj_S), l + k = dN D → kQ σ ρ → u < 64 → (∀ t, t < 6 → (u.testBit t = true ↔ ∃ i, i < q_cnt (zNe D T s) l ∧ lG D T s i = t)) →
    ∃ ρ', kQ σ ρ' ∧ ∀ R : sj_R, sj_J G 44 me_L_areTaken R 93 [.ref (sj_ad G 56), .int (nI (a + zSv2 D T s)), .int (nI d), .int (nI (n0 + zNm9 D T s)), .int (nI (f0 + (zNm9 D T s - zSv2 D T s))), .int (nI (s + 1)), .null, .null, .null, .null, .null] ρ' [] →
      sj_J G 44 me_L_areTaken R 112 [.ref (sj_ad G 56), .int (nI a), .int (nI d), .int (nI (n0 + q_cnt (zNe D T s) l)), .int (nI (f0 + lLf D T s l)), .int (nI s), .int (nI u), .int (nI (lSv D T s l)), .int (nI l), .null, .null] ρ [] := by
  have v := h.1
  have h9 := v.1
  obtain ⟨sv1, sv2⟩ := lSv_N (D := D) (T := T) h9 (s := s)
  have hm9 : zNm9 D T s ≤ 9 := q_cnt_le _ 9
  intro k
  induction k with
  | zero =>
    intro l u ρ hl q hu hU
    obtain rfl : l = dN D := by omega
    have Lρ := lQ hL q
    have hmo := l_mostOf (σ := ρ) ok v hTc Lρ (lQA hA q) (fun t d h1 h2 => by rw [q 68 (by omega)]; exact hI t d h1 h2) hs (dN D) 0 30 0 (fun _ => true) (by omega) (by omega) (by decide) (fun t _ => by rw [Nat.zero_testBit]; rfl)
    have e0 : q_cnt (zNe D T s) 0 = 0 := rfl
    rw [e0, Nat.sub_zero] at hmo
    refine ⟨ρ, q, fun R hR => t_L_areTaken_112 hO ⟨fun _ => ⟨_, _, hmo, fun _ => ?_, fun x => ?_⟩, fun x => ?_⟩⟩
    · rw [nI_add, nI_add, sv1, sv2, zNe_9 h9]
      exact hR
    · rw [sv1] at x
      exact absurd rfl x
    · rw [Lρ.1] at x
      exact absurd (nI_le (Nat.le_refl _) (by omega)) x
  | succ k ih =>
    intro l u ρ hl q hu hU
    have hlN : l < dN D := by omega
    obtain ⟨ρ1, hsub, qs⟩ := k_substitute (σ := ρ) ok (kT_q h q) hlN hs
    have q1 := kQ_t q qs
    have L1 := lQ hL q1
    have A1 := lQA hA q1
    have I1 : lI D ρ1 := fun t d h1 h2 => by rw [q1 68 (by omega)]; exact hI t d h1 h2
    have hon := l_isOn (σ := ρ1) ok v L1 A1 hlN (by omega : s < 2 ^ 20)
    obtain ⟨-, c2, -, -, -⟩ := L1.2.2.1 l hlN
    have t6 := (v.2.2.2.1 l hlN).2.1
    have hcell := I1 (dTe D l) d t6 (by omega)
    have hli : vp_in (nI l) 9 := z_in (by omega) (by decide)
    have hne : zNe D T s l = (zTk D T l s && (dIll D (dTe D l)).testBit d) := by
      unfold zNe
      rw [decide_eq_true hlN, Bool.true_and, hd]
    have hx10 : (if (if zTk D T l s then nI 1 else nI 0) = 0 then nI 0 else if (if (dIll D (dTe D l)).testBit d then nI 1 else nI 0) = 0 then nI 0 else nI 1) = (if zNe D T s l then nI 1 else nI 0) := by
      rw [hne]
      cases zTk D T l s <;> cases (dIll D (dTe D l)).testBit d <;> decide
    have en : q_cnt (zNe D T s) (l + 1) = q_cnt (zNe D T s) l + (if zNe D T s l then 1 else 0) := rfl
    have es : lSv D T s (l + 1) = lSv D T s l + (if (zNe D T s l && decide (lG D T s (q_cnt (zNe D T s) l) < 6)) then 1 else 0) := rfl
    have ef : lLf D T s (l + 1) = lLf D T s l + (if (zNe D T s l && !decide (lG D T s (q_cnt (zNe D T s) l) < 6)) then 1 else 0) := rfl
    have start : ∀ R : sj_R, wp_L_areTaken_169 G R (nI a) (nI d) (nI (n0 + q_cnt (zNe D T s) l)) (nI (f0 + lLf D T s l)) (nI s) (nI u) (nI (lSv D T s l)) (nI l) (zTkr D T s l) (if zNe D T s l then nI 1 else nI 0) ρ1 → sj_J G 44 me_L_areTaken R 112 [.ref (sj_ad G 56), .int (nI a), .int (nI d), .int (nI (n0 + q_cnt (zNe D T s) l)), .int (nI (f0 + lLf D T s l)), .int (nI s), .int (nI u), .int (nI (lSv D T s l)), .int (nI l), .null, .null] ρ [] := fun R hw => by
      refine t_L_areTaken_112 hO ⟨fun x => ?_, fun _ => ⟨_, _, hsub, _, _, hon, ?_, ?_⟩⟩
      · rw [q 56 (by omega), hL.1] at x
        exact absurd x (nI_ge (by omega) (by omega))
      · intro _
        rw [nI_clamp (by omega), c2, pk_mul, nI_add]
        exact ⟨hli, z_in (by omega) (by decide)⟩
      · rw [nI_clamp (by omega), c2, pk_mul, nI_add, nI_clamp (by omega), hcell, hx10]
        exact hw
    cases hz : zNe D T s l
    · -- not needed
      rw [hz] at en es ef start
      rw [if_neg (by decide), Nat.add_zero] at en
      rw [Bool.false_and, if_neg (by decide), Nat.add_zero] at es ef
      obtain ⟨ρ', g1, g2⟩ := ih (l + 1) u ρ1 (by omega) q1 hu (by rw [en]; exact hU)
      rw [en, es, ef] at g2
      refine ⟨ρ', g1, fun R hR => start R ?_⟩
      have e9 : zTkr D T s l = -1 := by
        unfold zTkr
        rw [if_neg (fun x => by rw [hz] at x; cases x.1)]
      unfold wp_L_areTaken_169 wp_L_areTaken_182
      rw [e9, if_neg (by decide : ¬ (false = true)), if_pos nI_0, if_pos nI_0, nI_add, Nat.add_zero]
      refine ⟨fun x => absurd rfl x, fun _ => ?_⟩
      unfold wp_L_areTaken_255
      rw [nI_add, Nat.add_zero, nI_add]
      exact g2 R hR
    · -- needed
      rw [hz] at en es ef start
      rw [if_pos rfl] at en
      rw [Bool.true_and] at es ef
      have hidx := q_cnt_lt (P := zNe D T s) (n := dN D) hlN hz
      rw [zNe_9 h9] at hidx
      have hidx9 : q_cnt (zNe D T s) l < 9 := by omega
      have hsl : lSv D T s l ≤ 9 := Nat.le_trans (q_cnt_le _ l) (by omega)
      have hfl : lLf D T s l ≤ 9 := Nat.le_trans (q_cnt_le _ l) (by omega)
      by_cases h6 : lG D T s (q_cnt (zNe D T s) l) < 6
      · rw [decide_eq_true h6, if_pos rfl] at es
        rw [decide_eq_true h6, if_neg (by decide), Nat.add_zero] at ef
        have e9 : zTkr D T s l = nI (lG D T s (q_cnt (zNe D T s) l)) := by
          unfold zTkr
          rw [if_pos ⟨hz, h6⟩]
        obtain ⟨w1, w2⟩ := zG_val (C := zCC D T s) (m := zNm9 D T s) (q_cnt (zNe D T s) l + 1) (q_cnt (zNe D T s) l) (by omega) h6
        have hfit : zFit D T s (lG D T s (q_cnt (zNe D T s) l)) = true := by
          rw [zCC_eq (by omega) hz, lCap v hTc hlN h6] at w1
          exact w1
        generalize eg : lG D T s (q_cnt (zNe D T s) l) = g at *
        have eg' : zGg (zCC D T s) (zNm9 D T s) (q_cnt (zNe D T s) l) = g := eg
        have hct := l_canTake (σ := ρ1) ok v L1 A1 I1 h6 hs
        rw [hfit, if_pos rfl] at hct
        have hbit : u.testBit g = false := by
          cases hb : u.testBit g
          · rfl
          · obtain ⟨i, i1, i2⟩ := (hU g h6).mp hb
            exact absurd (i2.trans eg'.symm) (w2 i i1)
        obtain ⟨ρ', g1, g2⟩ := ih (l + 1) (u ||| 2 ^ g) ρ1 (by omega) q1 (by
          have h : ∀ t, t < 6 → 2 ^ t < 2 ^ 6 := by decide
          exact Nat.or_lt_two_pow (n := 6) hu (h g h6)) (fun t ht => by
          rw [zS_bit, Bool.or_eq_true, hU t ht, decide_eq_true_eq, en]
          constructor
          · rintro (⟨i, i1, i2⟩ | e)
            · exact ⟨i, by omega, i2⟩
            · exact ⟨q_cnt (zNe D T s) l, by omega, by rw [← e]; exact eg⟩
          · rintro ⟨i, i1, i2⟩
            by_cases e : i = q_cnt (zNe D T s) l
            · subst e
              exact Or.inr (eg.symm.trans i2)
            · exact Or.inl ⟨i, by omega, i2⟩)
        rw [en, es, ef] at g2
        refine ⟨ρ', g1, fun R hR => start R ?_⟩
        have hg1 : ¬ nI g = -1 := z_kn1 g (by omega)
        unfold wp_L_areTaken_169 wp_L_areTaken_182
        rw [e9, if_pos rfl, if_neg (by decide : ¬ nI 1 = 0), if_neg (by decide : ¬ nI 1 = 0), if_neg hg1, nI_add]
        refine ⟨fun _ => ⟨fun x => absurd x z_10, fun _ => ⟨_, _, hct, fun x => absurd x z_10, fun _ => ⟨fun _ => ?_, fun x => ?_⟩⟩⟩, fun x => absurd x hg1⟩
        · unfold wp_L_areTaken_255
          rw [nI_add, Nat.add_zero, nI_add, nI_add, z_set1 (by omega)]
          exact g2 R hR
        · have hb0 : ((nI u >>> (nI g &&& 31)) &&& nI 1) = 0 := by
            rw [z_bit (by omega), z_bn _ _ (by omega)]
            exact hbit
          rw [hb0] at x
          exact absurd x.symm z_10
      · rw [decide_eq_false h6, if_neg (by decide), Nat.add_zero] at es
        rw [decide_eq_false h6, if_pos (by decide)] at ef
        have e9 : zTkr D T s l = -1 := by
          unfold zTkr
          rw [if_neg (fun x => h6 x.2)]
        have hg6 : lG D T s (q_cnt (zNe D T s) l) ≤ 6 := zGg_6
        obtain ⟨ρ', g1, g2⟩ := ih (l + 1) u ρ1 (by omega) q1 hu (fun t ht => by
          rw [hU t ht, en]
          constructor
          · rintro ⟨i, i1, i2⟩
            exact ⟨i, by omega, i2⟩
          · rintro ⟨i, i1, i2⟩
            by_cases e : i = q_cnt (zNe D T s) l
            · subst e
              omega
            · exact ⟨i, by omega, i2⟩)
        rw [en, es, ef] at g2
        refine ⟨ρ', g1, fun R hR => start R ?_⟩
        unfold wp_L_areTaken_169 wp_L_areTaken_182
        rw [e9, if_pos rfl, if_neg (by decide : ¬ nI 1 = 0), if_neg (by decide : ¬ nI 1 = 0), if_pos rfl, nI_add]
        refine ⟨fun x => absurd rfl x, fun _ => ?_⟩
        unfold wp_L_areTaken_255
        rw [nI_add, nI_add]
        exact g2 R hR
theorem zSumN_lt {f : Nat → Nat} {c : Nat} (n : Nat) (h : ∀ i, i < n → f i ≤ c) : zSumN f n ≤ c * n := zSumN_le n h
theorem l_dayJ (ok : sj_ok G) (hO : sj_ad G 70 = sj_ad G 0) (h : kT D T σ) (hTc : ∀ t, t < 6 → dTch D t = 63) (hL : lR D σ) (hA : lA D T σ) (hI : lI D σ) {d : Nat} (hd : d < 5) : ∀ k j (ρ : sj_S), j + k = 4 → kQ σ ρ →
    ∃ ρ', kQ σ ρ' ∧ ∀ R : sj_R, sj_J G 44 me_L_areTaken R 78 [.ref (sj_ad G 56), .int (nI (zSumN (zSv2 D T) (4 * (d + 1)))), .int (nI (d + 1)), .null, .null, .null, .null, .null, .null, .null, .null] ρ' [] →
      sj_J G 44 me_L_areTaken R 93 [.ref (sj_ad G 56), .int (nI (zSumN (zSv2 D T) (4 * d + j))), .int (nI d), .int (nI (zSumN (fun i => zNm9 D T (4 * d + i)) j)), .int (nI (zSumN (fun i => zNm9 D T (4 * d + i) - zSv2 D T (4 * d + i)) j)), .int (nI (4 * d + j)), .null, .null, .null, .null, .null] ρ [] := by
  have v := h.1
  have h9 := v.1
  have b1 : ∀ s, zSv2 D T s ≤ 9 := fun s => Nat.le_trans zSv2_le (q_cnt_le _ 9)
  have b2 : ∀ s, zNm9 D T s ≤ 9 := fun s => q_cnt_le _ 9
  have e4 : nI 4 * nI d + nI 4 = nI (4 * d + 4) := by rw [pk_mul, nI_add]
  intro k
  induction k with
  | zero =>
    intro j ρ hj q
    obtain rfl : j = 4 := by omega
    obtain ⟨ρ1, i1, i2⟩ := k_ill (σ := ρ) ok (kT_q h q) false hd
    obtain ⟨ρ2, i3, i4⟩ := k_ill (σ := ρ1) ok (kT_q h (kQ_t q i2)) true hd
    have n1 : zSm (zIl D T false) 4 (d * 4) 0 = zSumN (fun i => zNm9 D T (4 * d + i)) 4 := by
      rw [zSm_eq, Nat.zero_add, Nat.mul_comm d 4]
      rfl
    have n2 : zSm (zIl D T true) 4 (d * 4) 0 = zSumN (fun i => zNm9 D T (4 * d + i) - zSv2 D T (4 * d + i)) 4 := by
      rw [zSm_eq, Nat.zero_add, Nat.mul_comm d 4]
      rfl
    refine ⟨ρ2, kQ_t (kQ_t q i2) i4, fun R hR => t_L_areTaken_93 hO ⟨fun _ => ⟨_, _, i1, fun x => ?_, fun _ => ⟨_, _, i3, fun _ => ?_, fun x => ?_⟩⟩, fun x => ?_⟩⟩
    · rw [n1] at x
      exact absurd rfl x
    · rw [nI_add]
      exact hR
    · rw [n2] at x
      exact absurd rfl x
    · rw [e4] at x
      exact absurd (nI_le (Nat.le_refl _) (by omega)) x
  | succ k ih =>
    intro j ρ hj q
    have l1 := zSumN_lt (f := zSv2 D T) (c := 9) (4 * d + j) (fun i _ => b1 i)
    have l2 := zSumN_lt (f := fun i => zNm9 D T (4 * d + i)) (c := 9) j (fun i _ => b2 _)
    have l3 := zSumN_lt (f := fun i => zNm9 D T (4 * d + i) - zSv2 D T (4 * d + i)) (c := 9) j (fun i _ => by have := b2 (4 * d + i); omega)
    obtain ⟨ρ1, g1, g2⟩ := l_slotL (s := 4 * d + j) (d := d) (a := zSumN (zSv2 D T) (4 * d + j)) (n0 := zSumN (fun i => zNm9 D T (4 * d + i)) j) (f0 := zSumN (fun i => zNm9 D T (4 * d + i) - zSv2 D T (4 * d + i)) j) ok hO h hTc hL hA hI (by omega) (by omega) (by omega) (by omega) (by omega) (dN D) 0 0 ρ (by omega) q (by decide) (fun t _ => by
      rw [Nat.zero_testBit]
      exact ⟨fun x => (by cases x), fun ⟨i, i1, _⟩ => absurd i1 (Nat.not_lt_zero i)⟩)
    obtain ⟨ρ', g3, g4⟩ := ih (j + 1) ρ1 (by omega) g1
    refine ⟨ρ', g3, fun R hR => t_L_areTaken_93 hO ⟨fun x => ?_, fun _ => g2 R (g4 R hR)⟩⟩
    rw [e4] at x
    exact absurd x (nI_ge (by omega) (by omega))
theorem l_areTaken (ok : sj_ok G) (hO : sj_ad G 70 = sj_ad G 0) (h : kT D T σ) (hH : kH σ) (hTc : ∀ t, t < 6 → dTch D t = 63) (h0 : ∀ t d, t < 6 → d < 5 → (dIll D t).testBit d = false) (hL : lR D σ) (hA : lA D T σ) :
    ∃ (D' : zD) (σ' : sj_S), sj_C G 44 me_L_areTaken [.ref (sj_ad G 56)] σ (.ok (nI 1), σ') ∧ (∀ f, f ≠ 14 → ∀ j, D' f j = D f j) ∧ kN σ σ' ∧ kW D' T σ' ∧ lR D' σ' := by
  obtain ⟨D', ρ, a1, a2, a3, a4, a5, a6, a7⟩ := l_illJ (T := T) ok hO 36 0 0 D σ (by decide) (by decide) (by decide) (fun e => absurd e (by decide)) hL hA (kT_W h hH) (fun t d ht hd => ⟨fun q => absurd q (Nat.not_lt_zero _), fun _ => h0 t d ht hd⟩)
  have hT : kT D' T ρ := kW_T a5 (by rw [show dT D' = D' 2 0 from rfl, a1 2 (by decide)]; exact h.2.2.1)
  have hTc' : ∀ t, t < 6 → dTch D' t = 63 := fun t ht => by rw [show dTch D' t = D' 12 t from rfl, a1 12 (by decide)]; exact hTc t ht
  have b1 : ∀ s, zSv2 D' T s ≤ 9 := fun s => Nat.le_trans zSv2_le (q_cnt_le _ 9)
  have lall := zSumN_lt (f := zSv2 D' T) (c := 9) 20 (fun i _ => b1 i)
  -- who takes how many
  have htk : ∀ t, zSumN (fun t => zSm (zTq D' T t) 20 0 0) t = zSumN (fun t => zSumN (fun s => zTq D' T t s) 20) t := fun t => zSumN_congr t (fun i _ => by
    rw [zSm_eq, Nat.zero_add]
    exact zSumN_congr 20 (fun s _ => by rw [Nat.zero_add]))
  have hsum : zSumN (fun t => zSm (zTq D' T t) 20 0 0) 6 = zSumN (zSv2 D' T) 20 := by
    rw [htk, lSum_swap]
    exact zSumN_congr 20 (fun s _ => lTakes)
  have mono : ∀ k t, zSumN (fun t => zSm (zTq D' T t) 20 0 0) t ≤ zSumN (fun t => zSm (zTq D' T t) 20 0 0) (t + k) := by
    intro k
    induction k with
    | zero => intro t; exact Nat.le_refl _
    | succ k ih => intro t; exact Nat.le_trans (ih t) (Nat.le_add_right _ _)
  have takes : ∀ k t (χ : sj_S), t + k = 6 → kQ ρ χ → ∃ σ', kQ ρ σ' ∧ sj_J G 44 me_L_areTaken (.ok (nI 1), σ') 324 [.ref (sj_ad G 56), .int (nI (zSumN (zSv2 D' T) 20 - zSumN (fun t => zSm (zTq D' T t) 20 0 0) t)), .int (nI t), .null, .null, .null, .null, .null, .null, .null, .null] χ [] := by
    intro k
    induction k with
    | zero =>
      intro t χ ht q
      obtain rfl : t = 6 := by omega
      refine ⟨χ, q, t_L_areTaken_324 hO ⟨fun _ => ?_, fun x => absurd (nI_le (Nat.le_refl 6) (by decide)) x⟩⟩
      unfold wp_L_areTaken_356
      rw [hsum, Nat.sub_self, if_pos nI_0]
      exact ⟨rfl, Or.inr rfl⟩
    | succ k ih =>
      intro t χ ht q
      obtain ⟨χ1, c1, c2⟩ := k_takes (σ := χ) ok (kT_q hT q) (by omega : t < 6)
      obtain ⟨σ', g1, g2⟩ := ih (t + 1) χ1 (by omega) (kQ_t q c2)
      refine ⟨σ', g1, t_L_areTaken_324 hO ⟨fun x => absurd x (nI_ge (by omega) (by decide)), fun _ => ⟨_, _, c1, ?_⟩⟩⟩
      have m1 := mono (6 - (t + 1)) (t + 1)
      rw [show t + 1 + (6 - (t + 1)) = 6 by omega, hsum] at m1
      have e1 : zSumN (fun t => zSm (zTq D' T t) 20 0 0) (t + 1) = zSumN (fun t => zSm (zTq D' T t) 20 0 0) t + zSm (zTq D' T t) 20 0 0 := rfl
      rw [pk_sub (by omega), nI_add, show zSumN (zSv2 D' T) 20 - zSumN (fun t => zSm (zTq D' T t) 20 0 0) t - zSm (zTq D' T t) 20 0 0 = zSumN (zSv2 D' T) 20 - zSumN (fun t => zSm (zTq D' T t) 20 0 0) (t + 1) by omega]
      exact g2
  have days : ∀ k d (χ : sj_S), d + k = 5 → kQ ρ χ → ∃ σ', kQ ρ σ' ∧ sj_J G 44 me_L_areTaken (.ok (nI 1), σ') 78 [.ref (sj_ad G 56), .int (nI (zSumN (zSv2 D' T) (4 * d))), .int (nI d), .null, .null, .null, .null, .null, .null, .null, .null] χ [] := by
    intro k
    induction k with
    | zero =>
      intro d χ hd q
      obtain rfl : d = 5 := by omega
      obtain ⟨σ', g1, g2⟩ := takes 6 0 χ (by decide) q
      exact ⟨σ', g1, t_L_areTaken_78 hO ⟨fun _ => g2, fun x => absurd (nI_le (Nat.le_refl 5) (by decide)) x⟩⟩
    | succ k ih =>
      intro d χ hd q
      obtain ⟨χ1, c1, c2⟩ := l_dayJ (σ := ρ) ok hO hT hTc' a3 a4 a6 (by omega : d < 5) 4 0 χ (by decide) q
      obtain ⟨σ', g1, g2⟩ := ih (d + 1) χ1 (by omega) c1
      refine ⟨σ', g1, t_L_areTaken_78 hO ⟨fun x => absurd x (nI_ge (by omega) (by decide)), fun _ => ?_⟩⟩
      rw [pk_mul]
      exact c2 _ g2
  obtain ⟨σ', g1, g2⟩ := days 5 0 ρ (by decide) (kQ_r ρ)
  have hJ := a7 _ g2
  rw [if_neg (by decide), if_neg (by decide)] at hJ
  have e0 : ¬ nI 6 ≤ nI 0 := nI_ge (by decide) (by decide)
  exact ⟨D', σ', c_L_areTaken ok hO (t_L_areTaken_2 hO ⟨fun x => absurd x e0, fun _ => hJ⟩), a1, kN_t a2 (kN_q g1), kW_q a5 g1, lQ a3 g1⟩
end L8
