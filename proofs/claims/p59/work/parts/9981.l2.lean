/-! P59, THE LAW 2: isRight, isGood -/
/-- what isRight asks -/
def lRt (D : zD) (T : Nat → Nat) : Prop := zRtH D (fun _ => false) T
section L2
variable {G : sj_G} {σ : sj_S} {D : zD} {T : Nat → Nat}
theorem l_meet {l o : Nat} (hd : dDb D l ≤ 1) (he : dDb D o ≤ 1) (h1 : T l < 20) (h2 : T o < 20) : (if nI (T o + (1 + dDb D o)) ≤ nI (T l) then nI 0 else if nI (T l + (1 + dDb D l)) ≤ nI (T o) then nI 0 else nI 1) = (if zMeet D T l o then nI 1 else nI 0) := by
  have em : zMeet D T l o = true ↔ T l < T o + (1 + dDb D o) ∧ T o < T l + (1 + dDb D l) := by
    unfold zMeet
    rw [Bool.or_eq_true, Bool.and_eq_true, decide_eq_true_eq, zTk_or, zTk_or]
    omega
  by_cases a : T o + (1 + dDb D o) ≤ T l
  · rw [if_pos (nI_le a (by omega)), if_neg (by rw [em]; omega)]
  · rw [if_neg (nI_ge (by omega) (by omega))]
    by_cases b : T l + (1 + dDb D l) ≤ T o
    · rw [if_pos (nI_le b (by omega)), if_neg (by rw [em]; omega)]
    · rw [if_neg (nI_ge (by omega) (by omega)), if_pos (by rw [em]; omega)]
theorem l_zk {K k : Nat} (hk : k < 3) (hK : K ≤ 3) : zk K = nI k ↔ K = k + 1 := by
  have h : ∀ K, K < 4 → ∀ k, k < 3 → (zk K = nI k ↔ K = k + 1) := by decide +kernel
  exact h K (by omega) k hk
/-- two lessons of a right table -/
def lTw (D : zD) (T : Nat → Nat) (l o : Nat) : Prop := ((dG D l = dG D o ∨ dTe D l = dTe D o) → zMeet D T l o = false) ∧ (dG D l = dG D o → dSu D l = dSu D o → T l / 4 ≠ T o / 4)
def lCt (D : zD) (T : Nat → Nat) (k i : Nat) : Nat := q_cnt (fun o => decide (dKi D o = k + 1) && zTk D T o i) (dN D)
theorem lRt_iff (h20 : ∀ l, l < dN D → T l < 20) (v : okD D) : lRt D T ↔ (∀ l, l < dN D → T l % 4 + (1 + dDb D l) ≤ 4) ∧ (∀ l o, l < dN D → o < l → lTw D T l o) ∧ ∀ i k, i < 20 → k < 3 → lCt D T k i ≤ dRo D k := by
  have hdb : ∀ l, l < dN D → dDb D l ≤ 1 := fun l hl => (v.2.2.2.1 l hl).2.2.2.2
  constructor
  · rintro ⟨h1, h2, h3, -, h5⟩
    refine ⟨fun l hl => ?_, fun l o hl ho => ⟨h2 l o hl ho, h3 l o hl ho⟩, fun i k hi hk => ?_⟩
    · have := (h1 l hl).2
      have := hdb l hl
      omega
    · by_cases h0 : lCt D T k i = 0
      · rw [h0]; exact Nat.zero_le _
      · obtain ⟨l, hl, hp⟩ := l_cex (dN D) (Nat.pos_of_ne_zero h0)
        rw [Bool.and_eq_true, decide_eq_true_eq] at hp
        have := h5 l i hl (by omega) hp.2
        rw [hp.1] at this
        exact this
  · rintro ⟨h1, h2, h3⟩
    refine ⟨fun l hl => ⟨h20 l hl, ?_⟩, fun l o hl ho => (h2 l o hl ho).1, fun l o hl ho => (h2 l o hl ho).2, fun w _ hw => (by cases hw), fun l i hl hk ht => ?_⟩
    · have := h1 l hl
      omega
    · have hi : i < 20 := by
        have a := h20 l hl
        have b := h1 l hl
        rcases zTk_or.mp ht with e | ⟨e1, e2⟩ <;> omega
      have hK := (v.2.2.2.1 l hl).2.2.2.1
      have := h3 i (dKi D l - 1) hi (by omega)
      unfold lCt at this
      rw [show dKi D l - 1 + 1 = dKi D l by omega] at this
      exact this
theorem l_isRight (ok : sj_ok G) (v : okD D) (hL : lR D σ) (hA : lA D T σ) : ∃ b : Bool, sj_C G 3 me_L_isRight [.ref (sj_ad G 56)] σ (.ok (if b then nI 1 else nI 0), σ) ∧ (b = true ↔ lRt D T) := by
  have h9 := v.1
  have hiff := lRt_iff (D := D) (T := T) (fun l hl => (hA l hl).2) v
  have hin : ∀ l, l < dN D → vp_in (nI l) 9 := fun l hl => z_in (by omega) (by decide)
  -- the rooms
  have cnt : ∀ i kk, i < 20 → kk < 3 → ∀ k l, l + k = dN D → ∀ R : sj_R, (dRo D kk < lCt D T kk i → R = (.ok (nI 0), σ)) → (lCt D T kk i ≤ dRo D kk → sj_J G 3 me_L_isRight R 197 [.ref (sj_ad G 56), .int (nI i), .int (nI (kk + 1)), .null, .null] σ []) →
      sj_J G 3 me_L_isRight R 207 [.ref (sj_ad G 56), .int (nI i), .int (nI kk), .int (nI (q_cnt (fun o => decide (dKi D o = kk + 1) && zTk D T o i) l)), .int (nI l)] σ [] := by
    intro i kk hi hkk k
    induction k with
    | zero =>
      intro l hl R r0 r1
      obtain rfl : l = dN D := by omega
      have hle : lCt D T kk i ≤ 9 := Nat.le_trans (q_cnt_le _ _) h9
      have hro := v.2.2.2.2.2.2.1 kk hkk
      refine t_L_isRight_207 ⟨fun _ => ⟨z_in hkk (by decide), ?_, ?_⟩, fun q => ?_⟩
      · rw [nI_clamp (by omega), hL.2.2.2.2 kk hkk, nI_add]
        intro q
        refine r1 ?_
        by_cases e : lCt D T kk i ≤ dRo D kk
        · exact e
        · exact absurd q (nI_ge (show dRo D kk < lCt D T kk i by omega) (show lCt D T kk i < 2 ^ 31 by omega))
      · rw [nI_clamp (by omega), hL.2.2.2.2 kk hkk]
        intro q
        refine r0 ?_
        by_cases e : lCt D T kk i ≤ dRo D kk
        · exact absurd (nI_le e (by omega)) q
        · omega
      · rw [hL.1] at q
        exact absurd (nI_le (Nat.le_refl _) (by omega)) q
    | succ k ih =>
      intro l hl R r0 r1
      have hlN : l < dN D := by omega
      obtain ⟨-, -, -, c4, -⟩ := hL.2.2.1 l hlN
      have hK := (v.2.2.2.1 l hlN).2.2.2.1
      have hle : q_cnt (fun o => decide (dKi D o = kk + 1) && zTk D T o i) l ≤ 9 := Nat.le_trans (q_cnt_le _ _) (by omega)
      have nx := ih (l + 1) (by omega) R r0 r1
      rw [q_cnt_s] at nx
      refine t_L_isRight_207 ⟨fun q => ?_, fun _ => ⟨hin l hlN, ?_, ?_⟩⟩
      · rw [hL.1] at q
        exact absurd q (nI_ge (by omega) (by omega))
      · rw [nI_clamp (by omega), c4]
        intro q
        unfold wp_L_isRight_242 wp_L_isRight_243
        rw [nI_add, nI_add]
        rw [decide_eq_false (fun e => q ((l_zk hkk hK).mpr e)), Bool.false_and, if_neg (by decide)] at nx
        exact nx
      · rw [nI_clamp (by omega), c4]
        intro q
        have e1 := (l_zk hkk hK).mp q
        rw [decide_eq_true e1, Bool.true_and] at nx
        have hon := l_isOn (σ := σ) ok v hL hA hlN (by omega : i < 2 ^ 20)
        refine ⟨_, _, hon, ?_⟩
        unfold wp_L_isRight_243
        cases ht : zTk D T l i
        · rw [ht, if_neg (by decide)] at nx
          rw [if_pos (show (if false = true then nI 1 else nI 0) = 0 from nI_0), nI_add, nI_add]
          exact nx
        · rw [ht, if_pos rfl] at nx
          rw [if_neg (show ¬ (if true = true then nI 1 else nI 0) = 0 by decide), nI_add, nI_add]
          exact nx
  have rooms : ∀ k i kk, i * 3 + kk + k = 60 → kk ≤ 3 → i < 20 → (∀ i' k', i' * 3 + k' < i * 3 + kk → k' < 3 → lCt D T k' i' ≤ dRo D k') →
      ∃ b : Bool, sj_J G 3 me_L_isRight (.ok (if b then nI 1 else nI 0), σ) 197 [.ref (sj_ad G 56), .int (nI i), .int (nI kk), .null, .null] σ [] ∧ (b = true ↔ ∀ i k, i < 20 → k < 3 → lCt D T k i ≤ dRo D k) := by
    intro k
    induction k using Nat.strongRecOn with
    | ind k ih =>
      intro i kk hk h3 hi hall
      by_cases e3 : kk = 3
      · -- the next slot
        subst e3
        by_cases e20 : i = 19
        · subst e20
          refine ⟨true, t_L_isRight_197 ⟨fun _ => t_L_isRight_189 ⟨fun _ => rfl, fun q => ?_⟩, fun q => absurd (nI_le (Nat.le_refl 3) (by decide)) q⟩, fun _ i' k' hi' hk' => hall i' k' (by omega) hk', fun _ => rfl⟩
          rw [nI_add] at q
          exact absurd (nI_le (Nat.le_refl 20) (by decide)) q
        · -- the slot's first kind
          by_cases hle : lCt D T 0 (i + 1) ≤ dRo D 0
          · obtain ⟨b, h1, h2⟩ := ih (k - 1) (by omega) (i + 1) 1 (by omega) (by omega) (by omega) (fun i' k' hlt hk' => by
              by_cases q : i' * 3 + k' < i * 3 + 3
              · exact hall i' k' q hk'
              · obtain rfl : i' = i + 1 := by omega
                obtain rfl : k' = 0 := by omega
                exact hle)
            refine ⟨b, t_L_isRight_197 ⟨fun _ => t_L_isRight_189 ⟨fun q => ?_, fun _ => ?_⟩, fun q => absurd (nI_le (Nat.le_refl 3) (by decide)) q⟩, h2⟩
            · rw [nI_add] at q
              exact absurd q (nI_ge (by omega) (by decide))
            · rw [nI_add]
              refine t_L_isRight_197 ⟨fun q => absurd q (nI_ge (by decide) (by decide)), fun _ => cnt (i + 1) 0 (by omega) (by decide) (dN D) 0 (by omega) _ (fun q => absurd hle (by omega)) (fun _ => h1)⟩
          · refine ⟨false, t_L_isRight_197 ⟨fun _ => t_L_isRight_189 ⟨fun q => ?_, fun _ => ?_⟩, fun q => absurd (nI_le (Nat.le_refl 3) (by decide)) q⟩, fun q => (by cases q), fun q => absurd (q (i + 1) 0 (by omega) (by decide)) hle⟩
            · rw [nI_add] at q
              exact absurd q (nI_ge (by omega) (by decide))
            · rw [nI_add]
              refine t_L_isRight_197 ⟨fun q => absurd q (nI_ge (by decide) (by decide)), fun _ => cnt (i + 1) 0 (by omega) (by decide) (dN D) 0 (by omega) _ (fun _ => rfl) (fun q => absurd q hle)⟩
      · have hnk : ¬ nI 3 ≤ nI kk := nI_ge (by omega) (by decide)
        by_cases hle : lCt D T kk i ≤ dRo D kk
        · obtain ⟨b, h1, h2⟩ := ih (k - 1) (by omega) i (kk + 1) (by omega) (by omega) hi (fun i' k' hlt hk' => by
            by_cases q : i' * 3 + k' < i * 3 + kk
            · exact hall i' k' q hk'
            · obtain rfl : i' = i := by omega
              obtain rfl : k' = kk := by omega
              exact hle)
          exact ⟨b, t_L_isRight_197 ⟨fun q => absurd q hnk, fun _ => cnt i kk hi (by omega) (dN D) 0 (by omega) _ (fun q => absurd hle (by omega)) (fun _ => h1)⟩, h2⟩
        · exact ⟨false, t_L_isRight_197 ⟨fun q => absurd q hnk, fun _ => cnt i kk hi (by omega) (dN D) 0 (by omega) _ (fun _ => rfl) (fun q => absurd q hle)⟩, fun q => (by cases q), fun q => absurd (q i kk hi (by omega)) hle⟩
  -- the pairs
  have pair : ∀ l, l < dN D → ∀ k o, o + k = l → (∀ o', o' < o → lTw D T l o') → ∀ R : sj_R, ((∃ o', o' < l ∧ ¬ lTw D T l o') → R = (.ok (nI 0), σ)) → ((∀ o', o' < l → lTw D T l o') → sj_J G 3 me_L_isRight R 2 [.ref (sj_ad G 56), .int (nI (l + 1)), .null, .null, .null] σ []) →
      sj_J G 3 me_L_isRight R 33 [.ref (sj_ad G 56), .int (nI l), .int (nI o), .null, .null] σ [] := by
    intro l hl k
    induction k with
    | zero =>
      intro o ho hall R r0 r1
      obtain rfl : o = l := by omega
      refine t_L_isRight_33 ⟨fun _ => ?_, fun q => absurd (nI_le (Nat.le_refl _) (by omega)) q⟩
      rw [nI_add]
      exact r1 hall
    | succ k ih =>
      intro o ho hall R r0 r1
      have hoN : o < dN D := by omega
      obtain ⟨a1, a2, a3, -, a5⟩ := hL.2.2.1 l hl
      obtain ⟨b1, b2, b3, -, b5⟩ := hL.2.2.1 o hoN
      obtain ⟨g1, g2, g3, -, g5⟩ := v.2.2.2.1 l hl
      obtain ⟨i1, i2, i3, -, i5⟩ := v.2.2.2.1 o hoN
      obtain ⟨t1, t2⟩ := hA l hl
      obtain ⟨u1, u2⟩ := hA o hoN
      have hl9 := hin l hl
      have ho9 := hin o hoN
      have bad : ¬ lTw D T l o → wp_L_isRight_173 G R σ := fun q => r0 ⟨o, by omega, q⟩
      have good : lTw D T l o → wp_L_isRight_175 G R (nI l) (nI o) σ := fun q => by
        unfold wp_L_isRight_175
        rw [nI_add]
        exact ih (o + 1) (by omega) (fun o' ho' => by
          by_cases e : o' = o
          · rw [e]; exact q
          · exact hall o' (by omega)) R r0 r1
      refine t_L_isRight_33 ⟨fun q => absurd q (nI_ge (by omega) (by omega)), fun _ => ⟨hl9, ho9, ho9, fun _ => ⟨ho9, hl9, hl9⟩, ?_⟩⟩
      rw [nI_clamp (by omega), nI_clamp (by omega), t1, u1, a5, b5, nI_add, nI_add, l_meet g5 i5 t2 u2]
      refine ⟨hl9, ho9, ?_⟩
      rw [nI_clamp (by omega), nI_clamp (by omega), a1, b1]
      have e134 : ∀ s, s = (if dG D l = dG D o then nI 1 else nI 0) → ((dG D l = dG D o ∨ dTe D l = dTe D o) → zMeet D T l o = false) → wp_L_isRight_134 G R (nI l) (nI o) s σ := fun s hs hm => by
        refine ⟨fun q => good ⟨hm, fun e => ?_⟩, fun q => ⟨hl9, ho9, ?_, ?_⟩⟩
        · rw [hs, if_pos e] at q
          exact absurd q z_10
        · rw [nI_clamp (by omega), nI_clamp (by omega), a3, b3]
          exact fun q => good ⟨hm, fun _ e => absurd (by rw [e]) q⟩
        · rw [nI_clamp (by omega), nI_clamp (by omega), a3, b3, t1, u1, pk_div (by omega) (by decide) (by decide), pk_div (by omega) (by decide) (by decide)]
          intro es
          have es := (nI_eq (by omega) (by omega)).mp es
          refine ⟨hl9, ho9, fun q => good ⟨hm, fun _ _ e => absurd (by rw [e]) q⟩, fun q2 => bad (fun h => ?_)⟩
          have eg : dG D l = dG D o := by
            by_cases e : dG D l = dG D o
            · exact e
            · rw [hs, if_neg e] at q
              exact absurd nI_0 q
          exact h.2 eg es ((nI_eq (by omega) (by omega)).mp q2)
      have es : (if nI (dG D l) = nI (dG D o) then nI 1 else nI 0) = (if dG D l = dG D o then nI 1 else nI 0) := by
        by_cases e : dG D l = dG D o
        · rw [if_pos e, if_pos (by rw [e])]
        · rw [if_neg e, if_neg (fun q => e ((nI_eq (by omega) (by omega)).mp q))]
      rw [es]
      cases hm : zMeet D T l o
      · exact ⟨fun _ => e134 _ rfl (fun _ => hm), fun q => absurd nI_0 q⟩
      · refine ⟨fun q => absurd q z_10, fun _ => ⟨fun q => bad (fun h => ?_), fun q => ⟨hl9, ho9, ?_, ?_⟩⟩⟩
        · have eg : dG D l = dG D o := by
            by_cases e : dG D l = dG D o
            · exact e
            · rw [if_neg e] at q
              exact absurd nI_0 q
          have := h.1 (Or.inl eg)
          rw [hm] at this
          cases this
        · rw [nI_clamp (by omega), nI_clamp (by omega), a2, b2]
          intro q2
          refine bad (fun h => ?_)
          have := h.1 (Or.inr ((nI_eq (by omega) (by omega)).mp q2))
          rw [hm] at this
          cases this
        · rw [nI_clamp (by omega), nI_clamp (by omega), a2, b2]
          intro q2
          refine e134 _ rfl (fun h => ?_)
          rcases h with h | h
          · rw [if_pos h] at q
            exact absurd q z_10
          · exact absurd (by rw [h]) q2
  have key : ∀ k l, l + k = dN D → (∀ l', l' < l → T l' % 4 + (1 + dDb D l') ≤ 4) → (∀ l' o, l' < l → o < l' → lTw D T l' o) →
      ∃ b : Bool, sj_J G 3 me_L_isRight (.ok (if b then nI 1 else nI 0), σ) 2 [.ref (sj_ad G 56), .int (nI l), .null, .null, .null] σ [] ∧ (b = true ↔ lRt D T) := by
    intro k
    induction k with
    | zero =>
      intro l hl h1 h2
      obtain rfl : l = dN D := by omega
      have hrest : ∀ b : Bool, (b = true ↔ ∀ i k, i < 20 → k < 3 → lCt D T k i ≤ dRo D k) → (b = true ↔ lRt D T) := fun b hb => by
        rw [hb, hiff]
        exact ⟨fun q => ⟨h1, fun l o hl ho => h2 l o hl ho, q⟩, fun q => q.2.2⟩
      have n20 : ¬ nI 20 ≤ nI 0 := nI_ge (by decide) (by decide)
      have nN : ¬ ¬ (σ 56 13) ≤ nI (dN D) := fun q => by
        rw [hL.1] at q
        exact q (nI_le (Nat.le_refl _) (by omega))
      obtain ⟨b, e1, e2⟩ := rooms 60 0 0 (by decide) (by decide) (by decide) (fun i' k' h => absurd h (Nat.not_lt_zero _))
      exact ⟨b, t_L_isRight_2 ⟨fun _ => t_L_isRight_189 ⟨fun q => absurd q n20, fun _ => e1⟩, fun q => absurd q nN⟩, hrest b e2⟩
    | succ k ih =>
      intro l hl h1 h2
      have hlN : l < dN D := by omega
      obtain ⟨-, -, -, -, a5⟩ := hL.2.2.1 l hlN
      have hdb := (v.2.2.2.1 l hlN).2.2.2.2
      obtain ⟨t1, t2⟩ := hA l hlN
      have hl9 := hin l hlN
      have nN : ¬ (σ 56 13) ≤ nI l := by rw [hL.1]; exact nI_ge (by omega) (by omega)
      have hcell : (σ 62 (nI l).toNatClampNeg - σ 62 (nI l).toNatClampNeg / nI 4 * nI 4) + σ 61 (nI l).toNatClampNeg = nI (T l % 4 + (1 + dDb D l)) := by
        rw [nI_clamp (by omega), t1, a5, z_rem (by omega) (by decide) (by decide), nI_add]
      by_cases h4 : T l % 4 + (1 + dDb D l) ≤ 4
      · by_cases hall : ∀ o', o' < l → lTw D T l o'
        · obtain ⟨b, e1, e2⟩ := ih (l + 1) (by omega) (fun l' hl' => by
            by_cases e : l' = l
            · rw [e]; exact h4
            · exact h1 l' (by omega)) (fun l' o hl' ho => by
            by_cases e : l' = l
            · subst e; exact hall o ho
            · exact h2 l' o (by omega) ho)
          refine ⟨b, t_L_isRight_2 ⟨fun q => absurd q nN, fun _ => ⟨hl9, hl9, fun _ => pair l hlN l 0 (by omega) (fun o' ho' => absurd ho' (Nat.not_lt_zero _)) _ (fun ⟨o', x1, x2⟩ => absurd (hall o' x1) x2) (fun _ => e1), fun q => ?_⟩⟩, e2⟩
          rw [hcell] at q
          exact absurd (nI_le h4 (by decide)) q
        · refine ⟨false, t_L_isRight_2 ⟨fun q => absurd q nN, fun _ => ⟨hl9, hl9, fun _ => pair l hlN l 0 (by omega) (fun o' ho' => absurd ho' (Nat.not_lt_zero _)) _ (fun _ => rfl) (fun q => absurd q hall), fun _ => rfl⟩⟩, fun q => (by cases q), fun q => absurd (fun o' ho' => (hiff.mp q).2.1 l o' hlN ho') hall⟩
      · refine ⟨false, t_L_isRight_2 ⟨fun q => absurd q nN, fun _ => ⟨hl9, hl9, fun q => ?_, fun _ => rfl⟩⟩, fun q => (by cases q), fun q => absurd ((hiff.mp q).1 l hlN) h4⟩
        rw [hcell] at q
        exact absurd q (nI_ge (by omega) (by omega))
  obtain ⟨b, e1, e2⟩ := key (dN D) 0 (by omega) (fun l' h => absurd h (Nat.not_lt_zero _)) (fun l' o h => absurd h (Nat.not_lt_zero _))
  exact ⟨b, c_L_isRight ok e1, e2⟩
theorem l_isGood (ok : sj_ok G) (v : okD D) (hL : lR D σ) (hA : lA D T σ) : ∃ b : Bool, sj_C G 4 me_L_isGood [.ref (sj_ad G 56)] σ (.ok (if b then nI 1 else nI 0), σ) ∧ (b = true ↔ zRtH D (zHd D) T) := by
  have h12 := v.2.1
  obtain ⟨b0, hc, hb0⟩ := l_isRight (σ := σ) ok v hL hA
  have hiff : zRtH D (zHd D) T ↔ lRt D T ∧ ∀ w, w < dW D → dWe D w = 0 → zFul D T w = true := by
    unfold lRt zRtH zHd
    constructor
    · rintro ⟨h1, h2, h3, h4, h5⟩
      exact ⟨⟨h1, h2, h3, fun w _ q => (by cases q), h5⟩, fun w hw e => h4 w hw (decide_eq_true e)⟩
    · rintro ⟨⟨h1, h2, h3, -, h5⟩, h4⟩
      exact ⟨h1, h2, h3, fun w hw e => h4 w hw (of_decide_eq_true e), h5⟩
  have key : lRt D T → ∀ k w, w + k = dW D → (∀ w', w' < w → dWe D w' = 0 → zFul D T w' = true) → ∃ b : Bool, sj_J G 4 me_L_isGood (.ok (if b then nI 1 else nI 0), σ) 11 [.ref (sj_ad G 56), .int (nI w)] σ [] ∧ (b = true ↔ zRtH D (zHd D) T) := by
    intro hr k
    induction k with
    | zero =>
      intro w hw hall
      obtain rfl : w = dW D := by omega
      refine ⟨true, t_L_isGood_11 ⟨fun _ => rfl, fun q => ?_⟩, fun _ => hiff.mpr ⟨hr, hall⟩, fun _ => rfl⟩
      rw [hL.2.1] at q
      exact absurd (nI_le (Nat.le_refl _) (by omega)) q
    | succ k ih =>
      intro w hw hall
      have hwN : w < dW D := by omega
      obtain ⟨-, -, -, q4⟩ := hL.2.2.2.1 w hwN
      have hwe := (v.2.2.2.2.1 w hwN).2.1
      have nN : ¬ (σ 56 14) ≤ nI w := by rw [hL.2.1]; exact nI_ge (by omega) (by omega)
      have on : (dWe D w = 0 → zFul D T w = true) → ∃ b : Bool, wp_L_isGood_38 G (.ok (if b then nI 1 else nI 0), σ) (nI w) σ ∧ (b = true ↔ zRtH D (zHd D) T) := fun g => by
        obtain ⟨b, e1, e2⟩ := ih (w + 1) (by omega) (fun w' hw' => by
          by_cases e : w' = w
          · rw [e]; exact g
          · exact hall w' (by omega))
        refine ⟨b, ?_, e2⟩
        unfold wp_L_isGood_38
        rw [nI_add]
        exact e1
      have hh := l_holdsW (σ := σ) ok v hL hA hwN
      by_cases e0 : dWe D w = 0
      · cases hf : zFul D T w
        · rw [hf] at hh
          refine ⟨false, t_L_isGood_11 ⟨fun q => absurd q nN, fun _ => ⟨z_in (by omega) (by decide), fun q => ?_, fun _ => ⟨_, _, hh, fun q => absurd z_00 q, fun _ => rfl⟩⟩⟩, fun q => (by cases q), fun q => ?_⟩
          · rw [nI_clamp (by omega), q4, e0] at q
            exact absurd nI_0 q
          · have := (hiff.mp q).2 w hwN e0
            rw [hf] at this
            cases this
        · rw [hf] at hh
          obtain ⟨b, e1, e2⟩ := on (fun _ => hf)
          refine ⟨b, t_L_isGood_11 ⟨fun q => absurd q nN, fun _ => ⟨z_in (by omega) (by decide), fun _ => e1, fun _ => ⟨_, _, hh, fun _ => e1, fun q => absurd q z_10⟩⟩⟩, e2⟩
      · obtain ⟨b, e1, e2⟩ := on (fun q => absurd q e0)
        refine ⟨b, t_L_isGood_11 ⟨fun q => absurd q nN, fun _ => ⟨z_in (by omega) (by decide), fun _ => e1, fun q => ?_⟩⟩, e2⟩
        rw [nI_clamp (by omega), q4] at q
        exact absurd q (nI_ne0 (by omega) (by omega))
  cases hb : b0
  · rw [hb] at hc
    refine ⟨false, c_L_isGood ok ⟨_, _, hc, fun q => absurd z_00 q, fun _ => rfl⟩, fun q => (by cases q), fun q => ?_⟩
    rw [hb0.mpr (hiff.mp q).1] at hb
    cases hb
  · rw [hb] at hc
    obtain ⟨b, e1, e2⟩ := key (hb0.mp hb) (dW D) 0 (by omega) (fun w' h => absurd h (Nat.not_lt_zero _))
    exact ⟨b, c_L_isGood ok ⟨_, _, hc, fun _ => e1, fun q => absurd q z_10⟩, e2⟩
end L2
