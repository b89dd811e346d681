/-! P59, THE LAW 6: the best move -/
/-- a move or a swap -/
def lCa (D : zD) (T U : Nat → Nat) : Prop := (∃ l s, l < dN D ∧ s < 20 ∧ U = zMv T l s) ∨ ∃ i l, i < l ∧ l < dN D ∧ U = zSw T i l
/-- the best so far, those of a set being tried -/
def lBs (D : zD) (T : Nat → Nat) (S : (Nat → Nat) → Prop) (b : Nat) : Prop := b ≤ zCost D T ∧ (b = zCost D T ∨ ∃ U, lCa D T U ∧ zRi D (zHd D) U ∧ b = zCost D U) ∧ ∀ U, S U → zRi D (zHd D) U → b ≤ zCost D U
theorem lBs_no {D : zD} {T U : Nat → Nat} {S : (Nat → Nat) → Prop} {b : Nat} (h : lBs D T S b) (hU : ¬ zRi D (zHd D) U) : lBs D T (fun V => S V ∨ V = U) b :=
  ⟨h.1, h.2.1, fun V hV hR => by
    rcases hV with q | q
    · exact h.2.2 V q hR
    · rw [q] at hR; exact absurd hR hU⟩
theorem lBs_ok {D : zD} {T U : Nat → Nat} {S : (Nat → Nat) → Prop} {b : Nat} (h : lBs D T S b) (hC : lCa D T U) (hU : zRi D (zHd D) U) : lBs D T (fun V => S V ∨ V = U) (if zCost D U < b then zCost D U else b) := by
  obtain ⟨h1, h2, h3⟩ := h
  by_cases q : zCost D U < b
  · rw [if_pos q]
    refine ⟨by omega, Or.inr ⟨U, hC, hU, rfl⟩, fun V hV hR => ?_⟩
    rcases hV with x | x
    · have := h3 V x hR
      omega
    · rw [x]; exact Nat.le_refl _
  · rw [if_neg q]
    refine ⟨h1, h2, fun V hV hR => ?_⟩
    rcases hV with x | x
    · exact h3 V x hR
    · rw [x]; omega
theorem lBs_mono {D : zD} {T : Nat → Nat} {S S' : (Nat → Nat) → Prop} {b : Nat} (h : lBs D T S b) (hS : ∀ U, S' U → S U) : lBs D T S' b := ⟨h.1, h.2.1, fun U hU hR => h.2.2 U (hS U hU) hR⟩
theorem lBs_uni {D : zD} {T : Nat → Nat} {a b : Nat} (h : lBs D T (lCa D T) a) (g : lBs D T (lCa D T) b) : a = b := by
  obtain ⟨h1, h2, h3⟩ := h
  obtain ⟨g1, g2, g3⟩ := g
  have x : a ≤ b := by
    rcases g2 with q | ⟨U, u1, u2, u3⟩
    · omega
    · rw [u3]; exact h3 U u1 u2
  have y : b ≤ a := by
    rcases h2 with q | ⟨U, u1, u2, u3⟩
    · omega
    · rw [u3]; exact g3 U u1 u2
  omega
theorem zTry_1 {D : zD} {T : Nat → Nat} {st : zMS} {k a b : Nat} {g : Bool} : (zTry D T st k a b g).1 ≤ st.1 := by
  unfold zTry
  split
  · rename_i q
    exact Nat.le_of_lt q.2
  · exact Nat.le_refl _
theorem zTry_g {D : zD} {T : Nat → Nat} {st : zMS} {k a b : Nat} {g : Bool} (h : g = true) : (zTry D T st k a b g).1 ≤ zCost D (zTb T k a b) := by
  unfold zTry
  by_cases q : zCost D (zTb T k a b) < st.1
  · rw [if_pos ⟨h, q⟩]
    exact Nat.le_refl _
  · rw [if_neg (fun x => q x.2)]
    omega
theorem zS1_m {D : zD} {T : Nat → Nat} {l : Nat} {st : zMS} : ∀ s, (zS1 D T l st s).1 ≤ st.1 ∧ ∀ i, i < s → i ≠ T l → zRb D (zHd D) (zMv T l i) = true → (zS1 D T l st s).1 ≤ zCost D (zMv T l i) := by
  intro s
  induction s with
  | zero => exact ⟨Nat.le_refl _, fun i hi => absurd hi (Nat.not_lt_zero i)⟩
  | succ s ih =>
    obtain ⟨h1, h2⟩ := ih
    have e : zS1 D T l st (s + 1) = zTry D T (zS1 D T l st s) 1 l s (!decide (s = T l) && zRb D (zHd D) (zMv T l s)) := rfl
    rw [e]
    refine ⟨Nat.le_trans zTry_1 h1, fun i hi hne hg => ?_⟩
    by_cases q : i = s
    · subst q
      exact zTry_g (k := 1) (by rw [decide_eq_false hne, hg]; rfl)
    · exact Nat.le_trans zTry_1 (h2 i (by omega) hne hg)
theorem zS2_m {D : zD} {T : Nat → Nat} : ∀ l, ∀ k i, k < l → i < 20 → i ≠ T k → zRb D (zHd D) (zMv T k i) = true → (zS2 D T l).1 ≤ zCost D (zMv T k i) := by
  intro l
  induction l with
  | zero => intro k i hk; exact absurd hk (Nat.not_lt_zero k)
  | succ l ih =>
    intro k i hk hi hne hg
    have e : zS2 D T (l + 1) = zS1 D T l (zS2 D T l) 20 := rfl
    rw [e]
    by_cases q : k = l
    · subst q
      exact (zS1_m 20).2 i hi hne hg
    · exact Nat.le_trans (zS1_m 20).1 (ih k i (by omega) hi hne hg)
theorem zW1_m {D : zD} {T : Nat → Nat} {l : Nat} {st : zMS} : ∀ n, (zW1 D T l st n).1 ≤ st.1 ∧ ∀ i, i < n → zRb D (zHd D) (zSw T l (l + 1 + i)) = true → (zW1 D T l st n).1 ≤ zCost D (zSw T l (l + 1 + i)) := by
  intro n
  induction n with
  | zero => exact ⟨Nat.le_refl _, fun i hi => absurd hi (Nat.not_lt_zero i)⟩
  | succ n ih =>
    obtain ⟨h1, h2⟩ := ih
    have e : zW1 D T l st (n + 1) = zTry D T (zW1 D T l st n) 2 l (l + 1 + n) (zRb D (zHd D) (zSw T l (l + 1 + n))) := rfl
    rw [e]
    refine ⟨Nat.le_trans zTry_1 h1, fun i hi hg => ?_⟩
    by_cases q : i = n
    · subst q
      exact zTry_g (k := 2) hg
    · exact Nat.le_trans zTry_1 (h2 i (by omega) hg)
theorem zW2_m {D : zD} {T : Nat → Nat} : ∀ l, (zW2 D T l).1 ≤ (zS2 D T (dN D)).1 ∧ ∀ k o, k < l → k < o → o < dN D → zRb D (zHd D) (zSw T k o) = true → (zW2 D T l).1 ≤ zCost D (zSw T k o) := by
  intro l
  induction l with
  | zero => exact ⟨Nat.le_refl _, fun k o hk => absurd hk (Nat.not_lt_zero k)⟩
  | succ l ih =>
    obtain ⟨h1, h2⟩ := ih
    have e : zW2 D T (l + 1) = zW1 D T l (zW2 D T l) (dN D - (l + 1)) := rfl
    rw [e]
    refine ⟨Nat.le_trans (zW1_m _).1 h1, fun k o hk hko ho hg => ?_⟩
    by_cases q : k = l
    · subst q
      have := (zW1_m (D := D) (T := T) (l := k) (st := zW2 D T k) (dN D - (k + 1))).2 (o - (k + 1)) (by omega)
      rw [show k + 1 + (o - (k + 1)) = o by omega] at this
      exact this hg
    · exact Nat.le_trans (zW1_m _).1 (h2 k o (by omega) hko ho hg)
/-- the class's best is the best -/
theorem zSw_c (T : Nat → Nat) (a b : Nat) : zSw T a b = zSw T b a := by
  funext i
  unfold zSw
  by_cases e : i = b
  · rw [if_pos e]
    by_cases q : i = a
    · rw [if_pos q, ← e, ← q]
    · rw [if_neg q, if_pos e]
  · rw [if_neg e]
    by_cases q : i = a
    · rw [if_pos q, if_pos q]
    · rw [if_neg q, if_neg q, if_neg e]
theorem zW2_best {D : zD} {T : Nat → Nat} : lBs D T (lCa D T) (zW2 D T (dN D)).1 := by
  have hv := zW2_v (D := D) (T := T) (dN D) (Nat.le_refl _)
  have hle := zSv_le hv
  refine ⟨hle, ?_, fun U hU hR => ?_⟩
  · rcases hv with ⟨-, h⟩ | ⟨hk, ha, hb1, hb2, hcost, hlt, hgood⟩
    · exact Or.inl h
    · refine Or.inr ⟨_, ?_, zRb_iff.mp hgood, hcost⟩
      rcases hk with e | e
      · rw [e]
        exact Or.inl ⟨_, _, ha, hb1 e, rfl⟩
      · rw [e]
        obtain ⟨c1, c2⟩ := hb2 e
        show lCa D T (zSw T _ _)
        by_cases q : (zW2 D T (dN D)).2.2.1 < (zW2 D T (dN D)).2.2.2
        · exact Or.inr ⟨_, _, q, c1, rfl⟩
        · rw [zSw_c]
          exact Or.inr ⟨_, _, by omega, ha, rfl⟩
  · have hg := zRb_iff.mpr hR
    rcases hU with ⟨l, s, hl, hs, rfl⟩ | ⟨i, l, hil, hl, rfl⟩
    · by_cases e : s = T l
      · rw [e, zMv_self]
        exact hle
      · exact Nat.le_trans (zW2_m (dN D)).1 (zS2_m (dN D) l s hl hs e hg)
    · exact (zW2_m (dN D)).2 i l (by omega) hil hl hg
section L6
variable {G : sj_G} {σ : sj_S} {D : zD} {T : Nat → Nat}
theorem nI_min {a b : Nat} (ha : a < 2 ^ 31) (hb : b < 2 ^ 31) : (if nI a < nI b then nI a else nI b) = nI (if a < b then a else b) := by
  by_cases q : a < b
  · rw [if_pos q, if_pos (nI_lt q hb)]
  · rw [if_neg q, if_neg (nI_nlt (by omega) ha)]
/-- all moves and swaps of one round -/
theorem l_round (ok : sj_ok G) (hO : sj_ad G 70 = sj_ad G 0) (v : okD D) (hL : lR D σ) (hA : lA D T σ) {x1 : Int32} {R : sj_R}
    (hR : ∀ b, lBs D T (lCa D T) b → sj_J G 12 me_L_isImproved R 18 [.ref (sj_ad G 56), .int x1, .int (nI (zCost D T)), .int (nI b), .int (nI (dN D)), .null, .null, .null] σ []) :
    ∀ k l b, l + k = dN D → lBs D T (fun U => (∃ l' s, l' < l ∧ s < 20 ∧ U = zMv T l' s) ∨ ∃ i l', i < l' ∧ l' < l ∧ U = zSw T i l') b →
      sj_J G 12 me_L_isImproved R 18 [.ref (sj_ad G 56), .int x1, .int (nI (zCost D T)), .int (nI b), .int (nI l), .null, .null, .null] σ [] := by
  have h9 := v.1
  have hin : ∀ l, l < dN D → vp_in (nI l) 9 := fun l hl => z_in (by omega) (by decide)
  have cT := zCost_lt (T := T) v
  intro k
  induction k with
  | zero =>
    intro l b hl hb
    obtain rfl : l = dN D := by omega
    exact hR b (lBs_mono hb (fun U hU => hU))
  | succ k ih =>
    intro l b hl hb
    have hlN : l < dN D := by omega
    have Lρ : ∀ χ : sj_S, (∀ c, c ≠ 62 → χ c = σ c) → lR D χ := fun χ e => lM hL (kM_62 e)
    -- the swaps
    have swaps : ∀ j i b, i + j = l → lBs D T (fun U => ((∃ l' s, l' < l + 1 ∧ s < 20 ∧ U = zMv T l' s) ∨ ∃ i l', i < l' ∧ l' < l ∧ U = zSw T i l') ∨ ∃ i', i' < i ∧ U = zSw T i' l) b →
        sj_J G 12 me_L_isImproved R 89 [.ref (sj_ad G 56), .int x1, .int (nI (zCost D T)), .int (nI b), .int (nI l), .int (nI (T l)), .int (nI i), .null] σ [] := by
      intro j
      induction j with
      | zero =>
        intro i b hi hb
        obtain rfl : i = l := by omega
        refine t_L_isImproved_89 hO ⟨fun _ => ?_, fun q => absurd (nI_le (Nat.le_refl _) (by omega)) q⟩
        rw [nI_add]
        refine ih (i + 1) b (by omega) (lBs_mono hb (fun U hU => ?_))
        rcases hU with q | ⟨a, l', q1, q2, q3⟩
        · exact Or.inl (Or.inl q)
        · by_cases e : l' = i
          · subst e
            exact Or.inr ⟨a, q1, q3⟩
          · exact Or.inl (Or.inr ⟨a, l', q1, by omega, q3⟩)
      | succ j ihj =>
        intro i b hi hb
        have hiN : i < dN D := by omega
        have hbl := hb.1
        obtain ⟨a1, a2⟩ := hA i hiN
        obtain ⟨b1, b2⟩ := hA l hlN
        have hne : i ≠ l := by omega
        have aU : lA D (zSw T i l) (sj_st (sj_st σ 62 i (nI (T l))) 62 l (nI (T i))) := fun o ho => by
          unfold zSw
          by_cases e : o = l
          · subst e
            rw [z_ste, if_pos rfl]
            exact ⟨rfl, a2⟩
          · rw [z_sti e, if_neg e]
            by_cases e2 : o = i
            · subst e2
              rw [z_ste, if_pos rfl]
              exact ⟨rfl, b2⟩
            · rw [z_sti e2, if_neg e2]
              exact hA o ho
        have n62 : ∀ c, c ≠ 62 → sj_st (sj_st σ 62 i (nI (T l))) 62 l (nI (T i)) c = σ c := fun c hc => by rw [z_stn hc, z_stn hc]
        have hg := l_good (σ := sj_st (sj_st σ 62 i (nI (T l))) 62 l (nI (T i))) ok v (Lρ _ n62) aU
        have on : ∀ b', lBs D T (fun U => ((∃ l' s, l' < l + 1 ∧ s < 20 ∧ U = zMv T l' s) ∨ ∃ i l', i < l' ∧ l' < l ∧ U = zSw T i l') ∨ ∃ i', i' < i + 1 ∧ U = zSw T i' l) b' → wp_L_isImproved_139 G R x1 (nI (zCost D T)) (nI b') (nI l) (nI (T l)) (nI i) (nI (T i)) (sj_st (sj_st σ 62 i (nI (T l))) 62 l (nI (T i))) := fun b' hb' => by
          refine ⟨hin i hiN, hin l hlN, ?_⟩
          rw [nI_clamp (by omega), nI_clamp (by omega), nI_add]
          have eb : sj_st (sj_st (sj_st (sj_st σ 62 i (nI (T l))) 62 l (nI (T i))) 62 i (nI (T i))) 62 l (nI (T l)) = σ := by
            funext c x
            by_cases ec : c = 62
            · subst ec
              by_cases e : x = l
              · subst e
                rw [z_ste, b1]
              · rw [z_sti e]
                by_cases e2 : x = i
                · subst e2
                  rw [z_ste, a1]
                · rw [z_sti e2, z_sti e, z_sti e2]
            · rw [z_stn ec, z_stn ec, z_stn ec, z_stn ec]
          rw [eb]
          exact ihj (i + 1) b' (by omega) hb'
        refine t_L_isImproved_89 hO ⟨fun q => absurd q (nI_ge (by omega) (by omega)), fun _ => ⟨hin i hiN, hin i hiN, hin l hlN, ?_⟩⟩
        rw [nI_clamp (by omega), nI_clamp (by omega), a1]
        have hset : ∀ b', lBs D T (fun V => (((∃ l' s, l' < l + 1 ∧ s < 20 ∧ V = zMv T l' s) ∨ ∃ i l', i < l' ∧ l' < l ∧ V = zSw T i l') ∨ ∃ i', i' < i ∧ V = zSw T i' l) ∨ V = zSw T i l) b' → lBs D T (fun U => ((∃ l' s, l' < l + 1 ∧ s < 20 ∧ U = zMv T l' s) ∨ ∃ i l', i < l' ∧ l' < l ∧ U = zSw T i l') ∨ ∃ i', i' < i + 1 ∧ U = zSw T i' l) b' := fun b' hb' => lBs_mono hb' (fun U hU => by
          rcases hU with q | ⟨i', q1, q2⟩
          · exact Or.inl (Or.inl q)
          · by_cases e : i' = i
            · subst e; exact Or.inr q2
            · exact Or.inl (Or.inr ⟨i', by omega, q2⟩))
        cases hz : zRb D (zHd D) (zSw T i l)
        · rw [hz] at hg
          refine ⟨_, _, hg, fun _ => on b (hset b (lBs_no hb (fun q => by rw [zRb_iff.mpr q] at hz; cases hz))), fun q => absurd z_00 q⟩
        · rw [hz] at hg
          have hc := l_cost (σ := sj_st (sj_st σ 62 i (nI (T l))) 62 l (nI (T i))) ok v (Lρ _ n62) aU
          have cU := zCost_lt (T := zSw T i l) v
          refine ⟨_, _, hg, fun q => absurd q z_10, fun _ => ⟨_, _, hc, ?_⟩⟩
          rw [nI_min (by omega) (by omega)]
          exact on _ (hset _ (lBs_ok hb (Or.inr ⟨i, l, by omega, hlN, rfl⟩) (zRb_iff.mp hz)))
    -- the moves
    have moves : ∀ j s (χ : sj_S) b, s + j = 20 → (∀ c, c ≠ 62 → χ c = σ c) → (∀ o, o ≠ l → χ 62 o = σ 62 o) → lBs D T (fun U => ((∃ l' s, l' < l ∧ s < 20 ∧ U = zMv T l' s) ∨ ∃ i l', i < l' ∧ l' < l ∧ U = zSw T i l') ∨ ∃ s', s' < s ∧ U = zMv T l s') b →
        sj_J G 12 me_L_isImproved R 39 [.ref (sj_ad G 56), .int x1, .int (nI (zCost D T)), .int (nI b), .int (nI l), .int (nI (T l)), .int (nI s), .null] χ [] := by
      intro j
      induction j with
      | zero =>
        intro s χ b hs c1 c2 hb
        obtain rfl : s = 20 := by omega
        refine t_L_isImproved_39 hO ⟨fun _ => ⟨hin l hlN, ?_⟩, fun q => absurd (nI_le (Nat.le_refl 20) (by decide)) q⟩
        rw [nI_clamp (by omega)]
        have eb : sj_st χ 62 l (nI (T l)) = σ := by
          funext c x
          by_cases ec : c = 62
          · subst ec
            by_cases e : x = l
            · subst e
              rw [z_ste, (hA x hlN).1]
            · rw [z_sti e, c2 x e]
          · rw [z_stn ec, c1 c ec]
        rw [eb]
        refine swaps l 0 b (by omega) (lBs_mono hb (fun U hU => ?_))
        · rcases hU with (⟨l', s, q1, q2, q3⟩ | q) | ⟨i', q1, -⟩
          · by_cases e : l' = l
            · subst e
              exact Or.inr ⟨s, q2, q3⟩
            · exact Or.inl (Or.inl ⟨l', s, by omega, q2, q3⟩)
          · exact Or.inl (Or.inr q)
          · exact absurd q1 (Nat.not_lt_zero i')
      | succ j ihj =>
        intro s χ b hs c1 c2 hb
        have hbl := hb.1
        have aU : lA D (zMv T l s) (sj_st χ 62 l (nI s)) := fun o ho => by
          unfold zMv
          by_cases e : o = l
          · subst e
            rw [z_ste, if_pos rfl]
            exact ⟨rfl, by omega⟩
          · rw [z_sti e, if_neg e]
            rw [c2 o e]
            exact hA o ho
        have n62 : ∀ c, c ≠ 62 → sj_st χ 62 l (nI s) c = σ c := fun c hc => by rw [z_stn hc, c1 c hc]
        have hg := l_good (σ := sj_st χ 62 l (nI s)) ok v (Lρ _ n62) aU
        have on : ∀ b', lBs D T (fun U => ((∃ l' s, l' < l ∧ s < 20 ∧ U = zMv T l' s) ∨ ∃ i l', i < l' ∧ l' < l ∧ U = zSw T i l') ∨ ∃ s', s' < s + 1 ∧ U = zMv T l s') b' → wp_L_isImproved_71 G R x1 (nI (zCost D T)) (nI b') (nI l) (nI (T l)) (nI s) (sj_st χ 62 l (nI s)) := fun b' hb' => by
          unfold wp_L_isImproved_71
          rw [nI_add]
          exact ihj (s + 1) _ b' (by omega) n62 (fun o ho => by rw [z_sti ho]; exact c2 o ho) hb'
        have hset : ∀ b', lBs D T (fun V => (((∃ l' s, l' < l ∧ s < 20 ∧ V = zMv T l' s) ∨ ∃ i l', i < l' ∧ l' < l ∧ V = zSw T i l') ∨ ∃ s', s' < s ∧ V = zMv T l s') ∨ V = zMv T l s) b' → lBs D T (fun U => ((∃ l' s, l' < l ∧ s < 20 ∧ U = zMv T l' s) ∨ ∃ i l', i < l' ∧ l' < l ∧ U = zSw T i l') ∨ ∃ s', s' < s + 1 ∧ U = zMv T l s') b' := fun b' hb' => lBs_mono hb' (fun U hU => by
          rcases hU with q | ⟨i', q1, q2⟩
          · exact Or.inl (Or.inl q)
          · by_cases e : i' = s
            · subst e; exact Or.inr q2
            · exact Or.inl (Or.inr ⟨i', by omega, q2⟩))
        refine t_L_isImproved_39 hO ⟨fun q => absurd q (nI_ge (by omega) (by decide)), fun _ => ⟨hin l hlN, ?_⟩⟩
        rw [nI_clamp (by omega)]
        cases hz : zRb D (zHd D) (zMv T l s)
        · rw [hz] at hg
          refine ⟨_, _, hg, fun _ => on b (hset b (lBs_no hb (fun q => by rw [zRb_iff.mpr q] at hz; cases hz))), fun q => absurd z_00 q⟩
        · rw [hz] at hg
          have hc := l_cost (σ := sj_st χ 62 l (nI s)) ok v (Lρ _ n62) aU
          have cU := zCost_lt (T := zMv T l s) v
          refine ⟨_, _, hg, fun q => absurd q z_10, fun _ => ⟨_, _, hc, ?_⟩⟩
          rw [nI_min (by omega) (by omega)]
          exact on _ (hset _ (lBs_ok hb (Or.inl ⟨l, s, hlN, by omega, rfl⟩) (zRb_iff.mp hz)))
    refine t_L_isImproved_18 hO ⟨fun q => ?_, fun _ => ⟨hin l hlN, ?_⟩⟩
    · rw [hL.1] at q
      exact absurd q (nI_ge (by omega) (by omega))
    · rw [nI_clamp (by omega), (hA l hlN).1]
      refine moves 20 0 σ b (by decide) (fun _ _ => rfl) (fun _ _ => rfl) (lBs_mono hb (fun U hU => ?_))
      rcases hU with q | ⟨s', q, -⟩
      · exact q
      · exact absurd q (Nat.not_lt_zero s')
theorem l_isImproved (ok : sj_ok G) (hO : sj_ad G 70 = sj_ad G 0) (h : kT D T σ) (hH : kH σ) (hL : lR D σ) (hA : lA D T σ) : ∃ (T' : Nat → Nat) (σ' : sj_S), sj_C G 12 me_L_isImproved [.ref (sj_ad G 56)] σ (.ok (nI 1), σ') ∧ kM σ σ' ∧ kT D T' σ' ∧ kH σ' ∧ lA D T' σ' := by
  have v := h.1
  have h9 := v.1
  have key : ∀ k r (ρ : sj_S) (T : Nat → Nat), r + k = 6 → kM σ ρ → kT D T ρ → kH ρ → lR D ρ → lA D T ρ →
      ∃ (T' : Nat → Nat) (σ' : sj_S), sj_J G 12 me_L_isImproved (.ok (nI 1), σ') 2 [.ref (sj_ad G 56), .int (nI r), .null, .null, .null, .null, .null, .null] ρ [] ∧ kM σ σ' ∧ kT D T' σ' ∧ kH σ' ∧ lA D T' σ' := by
    intro k
    induction k with
    | zero =>
      intro r ρ T hr m1 hT hH hL hA
      obtain rfl : r = 6 := by omega
      exact ⟨T, ρ, t_L_isImproved_2 hO ⟨fun _ => rfl, fun q => absurd (nI_le (Nat.le_refl 6) (by decide)) q⟩, m1, hT, hH, hA⟩
    | succ k ih =>
      intro r ρ T hr m1 hT hH hL hA
      have cT := zCost_lt (T := T) v
      have hbest := zW2_best (D := D) (T := T)
      obtain ⟨T1, ρ1, ρ2, i1, i2, i3, i4, i5, i6, i7, i8⟩ := k_improve (σ := ρ) ok hT hH
      generalize eW : (zW2 D T (dN D)).1 = W at i1 i6 i7 i8 hbest
      obtain ⟨ρ3, j1, j2, j3⟩ := l_looks (σ := ρ2) ok hO v i5.2.1 i5.2.2.1 (lM hL (kM_t (kM_q i2) (kM_c i3)))
      have m3 : kM ρ ρ3 := kM_t (kM_t (kM_q i2) (kM_c i3)) (kM_62 j2)
      have hT3 : kT D T1 ρ3 := kT_e i5 (j2 2 (by decide)) (j2 3 (by decide))
      have hH3 : kH ρ3 := kH_e i4 (j2 4 (by decide))
      have hL3 : lR D ρ3 := lM hL m3
      have hA3 : lA D T1 ρ3 := fun l hl => by
        obtain ⟨a, b⟩ := i5.2.2.2.1 l hl
        exact ⟨(j3 l hl).trans a, b⟩
      have hg := l_good (σ := ρ3) ok v hL3 hA3
      rw [zRb_iff.mpr hT3.2.2.2.2, if_pos rfl] at hg
      have hc3 := l_cost (σ := ρ3) ok v hL3 hA3
      rw [i6] at hc3
      have ho3 := k_cost (σ := ρ3) ok hT3
      rw [i6] at ho3
      -- the round's end, whatever follows
      have fin : ∀ R : sj_R, (zCost D T ≠ W → sj_J G 12 me_L_isImproved R 2 [.ref (sj_ad G 56), .int (nI (r + 1)), .null, .null, .null, .null, .null, .null] ρ3 []) → (zCost D T = W → R = (.ok (nI 1), ρ3)) → sj_J G 12 me_L_isImproved R 2 [.ref (sj_ad G 56), .int (nI r), .null, .null, .null, .null, .null, .null] ρ [] := by
        intro R f1 f2
        refine t_L_isImproved_2 hO ⟨fun q => absurd q (nI_ge (by omega) (by decide)), fun _ => ⟨_, _, l_cost ok v hL hA, ?_⟩⟩
        refine l_round ok hO v hL hA (fun b hb => ?_) (dN D) 0 (zCost D T) (by omega) ⟨Nat.le_refl _, Or.inl rfl, fun U hU => ?_⟩
        · obtain rfl : b = W := lBs_uni hb hbest
          have hk1 := k_checksum1 (σ := ρ) ok v hT.2.1 hT.2.2.1 (fun l hl => (hT.2.2.2.1 l hl).1)
          have hk3 := k_checksum1 (σ := ρ3) ok v hT3.2.1 hT3.2.2.1 (fun l hl => (hT3.2.2.2.1 l hl).1)
          refine t_L_isImproved_18 hO ⟨fun _ => ⟨_, _, hk1, _, _, i1, fun _ => ⟨_, j1, _, _, hg, fun q => absurd q z_10, fun _ => ⟨_, _, hc3, fun q => absurd rfl q, fun _ => ⟨_, _, ho3, fun _ => ⟨fun q => ?_, fun q => ⟨_, _, hk3, ?_⟩⟩, fun q => absurd rfl q⟩⟩⟩, fun q => ?_⟩, fun q => ?_⟩
          · rw [nI_add]
            refine f1 (fun e => q ?_)
            rw [e, Nat.sub_self, nI_0]
          · have e : zCost D T = b := by
              by_cases e : zCost D T = b
              · exact e
              · exact absurd q (nI_ne0 (by omega) (by omega))
            unfold wp_L_isImproved_251
            rw [i8 e.symm, if_pos rfl]
            exact ⟨f2 e, Or.inr rfl⟩
          · rw [pk_sub i7] at q
            exact absurd rfl q
          · rw [hL.1] at q
            exact absurd (nI_le (Nat.le_refl _) (by omega)) q
        · rcases hU with ⟨l', s, q, -⟩ | ⟨i, l', -, q, -⟩
          · exact absurd q (Nat.not_lt_zero _)
          · exact absurd q (Nat.not_lt_zero _)
      by_cases e : zCost D T = W
      · exact ⟨T1, ρ3, fin _ (fun q => absurd e q) (fun _ => rfl), kM_t m1 m3, hT3, hH3, hA3⟩
      · obtain ⟨T', σ', e1, e2⟩ := ih (r + 1) ρ3 T1 (by omega) (kM_t m1 m3) hT3 hH3 hL3 hA3
        exact ⟨T', σ', fin _ (fun _ => e1) (fun q => absurd q e), e2⟩
  obtain ⟨T', σ', e1, e2⟩ := key 6 0 σ T (by decide) (kM_r σ) h hH hL hA
  exact ⟨T', σ', c_L_isImproved ok hO e1, e2⟩
end L6
