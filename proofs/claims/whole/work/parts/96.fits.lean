/-! THE REFERENCE'S SEARCH 2: fits -/
/-- l stands with those ahead -/
def zFt (D : zD) (H : Nat → Bool) (T : Nat → Nat) (l : Nat) : Prop := zSt D H l (T l) = true ∧ (∀ o, o < l → zPr D H l (T l) o (T o) = true) ∧ zRm D T l (T l) l = true
/-- no right table with those of w where they are has l ahead of t -/
def zEl (D : zD) (H : Nat → Bool) (T : Nat → Nat) (l t w : Nat) : Prop := ∀ V, zRi D H V → (∀ o, o < l → w.testBit o = true → V o = T o) → t ≤ V l
theorem zFt_congr {D : zD} {H : Nat → Bool} {T T' : Nat → Nat} {l : Nat} (h : ∀ o, o ≤ l → T o = T' o) (f : zFt D H T l) : zFt D H T' l := by
  obtain ⟨f1, f2, f3⟩ := f
  rw [h l (Nat.le_refl l)] at f1
  refine ⟨f1, fun o ho => by rw [← h l (Nat.le_refl l), ← h o (by omega)]; exact f2 o ho, ?_⟩
  rw [zRm_iff] at f3 ⊢
  have e : ∀ i, zCn D T' l i l = zCn D T l i l := fun i => q_cnt_congr l (fun o ho => by
    unfold zTk
    rw [h o (by omega)])
  rw [← h l (Nat.le_refl l), e, e]
  exact f3
theorem zEl_congr {D : zD} {H : Nat → Bool} {T T' : Nat → Nat} {l t w : Nat} (h : ∀ o, o < l → T o = T' o) (f : zEl D H T l t w) : zEl D H T' l t w := fun V hV hw => f V hV (fun o ho hb => (hw o ho hb).trans (h o ho).symm)
/-- without a place for l: its set grows -/
def zBk (D : zD) (T : Nat → Nat) (l W : Nat) : Nat → Nat
  | 0 => W
  | o + 1 => if decide (dKi D o = dKi D l) && zMt (dDb D l) (T l) (dDb D o) (T o) then zBk D T l W o ||| 2 ^ o else zBk D T l W o
theorem zBk_bit {D : zD} {T : Nat → Nat} {l W i : Nat} : ∀ n, (zBk D T l W n).testBit i = (W.testBit i || (decide (i < n) && (decide (dKi D i = dKi D l) && zMt (dDb D l) (T l) (dDb D i) (T i)))) := by
  intro n
  induction n with
  | zero => show W.testBit i = _; rw [decide_eq_false (Nat.not_lt_zero i)]; simp
  | succ n ih =>
    show (if decide (dKi D n = dKi D l) && zMt (dDb D l) (T l) (dDb D n) (T n) then zBk D T l W n ||| 2 ^ n else zBk D T l W n).testBit i = _
    by_cases e : i = n
    · subst e
      cases q : (decide (dKi D i = dKi D l) && zMt (dDb D l) (T l) (dDb D i) (T i))
      · rw [if_neg (by decide), ih, q, Bool.and_false, Bool.and_false]
      · rw [if_pos rfl, zS_bit, decide_eq_true (rfl : i = i), decide_eq_true (by omega : i < i + 1)]; simp
    · rw [decide_eq_decide.mpr (by omega : i < n + 1 ↔ i < n), ← ih]
      split
      · rw [zS_bit, decide_eq_false (fun x => e x.symm), Bool.or_false]
      · rfl
theorem z_or2 {l W o : Nat} (hW : W < 2 ^ l) (ho : o < l) : W ||| 2 ^ o < 2 ^ l := Nat.or_lt_two_pow hW (Nat.pow_lt_pow_right (by omega) ho)
theorem zBk_lt {D : zD} {T : Nat → Nat} {l W : Nat} (hW : W < 2 ^ l) : ∀ n, n ≤ l → zBk D T l W n < 2 ^ l := by
  intro n
  induction n with
  | zero => intro _; exact hW
  | succ n ih =>
    intro hn
    show (if decide (dKi D n = dKi D l) && zMt (dDb D l) (T l) (dDb D n) (T n) then zBk D T l W n ||| 2 ^ n else zBk D T l W n) < 2 ^ l
    split
    · exact z_or2 (ih (by omega)) (by omega)
    · exact ih (by omega)
/-- too few rooms: no right table has l there with these where they are -/
theorem zBk_no {D : zD} {H : Nat → Bool} {T V : Nat → Nat} {l W : Nat} (hl : l < dN D) (h : zRm D T l (T l) l = false) (r : zRi D H V) (hw : ∀ o, o < l → (zBk D T l W l).testBit o = true → V o = T o) : V l ≠ T l := by
  intro e
  have hv := (r l hl).2.2.1
  rw [← Bool.not_eq_true, zRm_iff] at h
  refine h (fun hk => ?_)
  rw [zRm_iff] at hv
  obtain ⟨v1, v2⟩ := hv hk
  have hc : ∀ i, (i = T l ∨ dDb D l = 1 ∧ i = T l + 1) → zCn D T l i l ≤ zCn D V l i (dN D) := fun i hi => by
    unfold zCn
    refine Nat.le_trans (q_cnt_mon l (r := fun o => !decide (o = l) && (decide (dKi D o = dKi D l) && zTk D V o i)) (fun o ho hp => ?_)) (q_cnt_mono (dN D) (by omega))
    simp only [Bool.and_eq_true, Bool.not_eq_true', decide_eq_false_iff_not, decide_eq_true_eq] at hp ⊢
    obtain ⟨p1, p2, p3⟩ := hp
    refine ⟨p1, p2, ?_⟩
    have hm : zMt (dDb D l) (T l) (dDb D o) (T o) = true := by
      unfold zMt
      rw [zTk_td] at p3
      rw [Bool.or_eq_true, Bool.and_eq_true, decide_eq_true_eq]
      rcases hi with x | ⟨x1, x2⟩
      · rw [x] at p3; exact Or.inl p3
      · rw [x2] at p3; exact Or.inr ⟨x1, p3⟩
    have := hw o ho (by rw [zBk_bit, decide_eq_true ho, decide_eq_true p2, hm]; simp)
    unfold zTk at p3 ⊢
    rw [this]
    exact p3
  rw [e] at v1 v2
  refine ⟨?_, fun hd => ?_⟩
  · have := hc (T l) (Or.inl rfl)
    omega
  · have := hc (T l + 1) (Or.inr ⟨hd, rfl⟩)
    have := v2 hd
    omega
section ZFI
variable {G : sj_G} {σ : sj_S} {D : zD} {U : Nat → Bool} {T : Nat → Nat}
theorem y_fits (ok : sj_ok G) (hM : repM D (σ 57)) (v : okD D) (hU : zUo D U (σ 60)) {l W : Nat} (hl : l < dN D) (hT : ∀ o, o ≤ l → σ 59 o = nI (T o) ∧ T o < 20) (h61 : σ 61 l = nI W) (hW : W < 2 ^ l) :
    ∃ (b : Bool) (W' : Nat), sj_C G 6 me_X12_fits [.ref (sj_ad G 56), .int (nI l)] σ (.ok (if b then nI 1 else nI 0), sj_st σ 61 l (nI W')) ∧ W' < 2 ^ l ∧ (∀ i, W.testBit i = true → W'.testBit i = true) ∧ (b = true → zFt D (zHu D U) T l) ∧
      (b = false → ∀ V, zRi D (zHu D U) V → (∀ o, o < l → W'.testBit o = true → V o = T o) → V l ≠ T l) := by
  have h9 := v.1
  have hin : vp_in (nI l) 9 := z_in (by omega) (by decide)
  have kl : (nI l).toNatClampNeg = l := nI_clamp (by omega)
  have hself : sj_st σ 61 l (nI W) = σ := by rw [← h61, z_st_self]
  have c1 := y_canStand (T := T) ok hM v hU hl (hT l (Nat.le_refl l))
  cases s1 : zSt D (zHu D U) l (T l)
  · rw [s1] at c1
    refine ⟨false, W, c_X12_fits ok ⟨_, _, c1, fun q => absurd z_00 q, fun _ => by rw [hself]; rfl⟩, hW, fun i h => h, fun q => (by cases q), fun _ V hV _ e => ?_⟩
    have := (hV l hl).2.1
    rw [e, s1] at this
    cases this
  · rw [s1] at c1
    -- room
    have hr := y_hasRoom (T := T) ok hM v hl (Nat.le_of_lt hl) (hT l (Nat.le_refl l)) (fun o ho _ => hT o (by omega))
    -- those in the way when there is no room
    have key62 : ∀ (R : sj_R), R = (.ok (nI 0), sj_st σ 61 l (nI (zBk D T l W l))) → ∀ k o, o + k = l → sj_J G 6 me_X12_fits R 62 [.ref (sj_ad G 56), .int (nI l), .int (nI o)] (sj_st σ 61 l (nI (zBk D T l W o))) [] := by
      intro R hR k
      induction k with
      | zero =>
        intro o ho
        obtain rfl : o = l := by omega
        exact t_X12_fits_62 ⟨fun _ => hR, fun q => absurd (nI_le (Nat.le_refl _) (by omega)) q⟩
      | succ k ih =>
        intro o ho
        obtain ⟨-, -, -, g4, -⟩ := hM.2.2.2.1 l hl
        obtain ⟨-, -, -, f4, -⟩ := hM.2.2.2.1 o (by omega)
        obtain ⟨-, -, -, p4, -⟩ := v.2.2.2.1 l hl
        obtain ⟨-, -, -, q4, -⟩ := v.2.2.2.1 o (by omega)
        have n57 : sj_st σ 61 l (nI (zBk D T l W o)) 57 = σ 57 := z_stn (by decide)
        have n59 : sj_st σ 61 l (nI (zBk D T l W o)) 59 = σ 59 := z_stn (by decide)
        have hd := y_doMeet (T := T) (σ := sj_st σ 61 l (nI (zBk D T l W o))) ok (by rw [n57]; exact hM) v hl (show o < dN D by omega) (by rw [n59]; exact hT l (Nat.le_refl l)) (by rw [n59]; exact hT o (by omega))
        have e27 : sj_st σ 61 l (nI (zBk D T l W o)) 57 ((nI 27) + (nI o)).toNatClampNeg = zk (dKi D o) := by rw [n57, nI_add, nI_clamp (by omega)]; exact f4
        have e27l : sj_st σ 61 l (nI (zBk D T l W o)) 57 ((nI 27) + (nI l)).toNatClampNeg = zk (dKi D l) := by rw [n57, nI_add, nI_clamp (by omega)]; exact g4
        have eb : zBk D T l W (o + 1) = if decide (dKi D o = dKi D l) && zMt (dDb D l) (T l) (dDb D o) (T o) then zBk D T l W o ||| 2 ^ o else zBk D T l W o := rfl
        have hJ := ih (o + 1) (by omega)
        rw [eb] at hJ
        refine t_X12_fits_62 ⟨fun q => absurd q (nI_ge (by omega) (by omega)), fun _ => ⟨hin, by rw [nI_add]; exact z_in (by omega) (by decide), by rw [nI_add]; exact z_in (by omega) (by decide), fun q => ?_, fun q => ⟨_, _, hd, ?_⟩⟩⟩
        · rw [e27, e27l, zk_eq q4 p4] at q
          unfold wp_X12_fits_110 wp_X12_fits_111
          rw [kl, z_ste, nx_or, Nat.or_zero, z_stst, nI_add]
          rw [decide_eq_false q, Bool.false_and, if_neg (by decide)] at hJ
          exact ⟨hin, hJ⟩
        · rw [e27, e27l, zk_eq q4 p4] at q
          unfold wp_X12_fits_111
          rw [kl, z_ste, z_stst, nI_add]
          rw [decide_eq_true q, Bool.true_and] at hJ
          refine ⟨hin, ?_⟩
          cases hm : zMt (dDb D l) (T l) (dDb D o) (T o)
          · rw [hm, if_neg (by decide)] at hJ
            rw [if_pos (show (if false = true then nI 1 else nI 0) = 0 from z_00), nx_or, Nat.or_zero]
            exact hJ
          · rw [hm, if_pos rfl] at hJ
            rw [if_neg (show ¬ (if true = true then nI 1 else nI 0) = 0 from z_10), z_set1 (by omega)]
            exact hJ
    -- one by one
    have key : ∀ k o, o + k = l → (∀ o', o' < o → zPr D (zHu D U) l (T l) o' (T o') = true) → ∃ (b : Bool) (W' : Nat), sj_J G 6 me_X12_fits (.ok (if b then nI 1 else nI 0), sj_st σ 61 l (nI W')) 12 [.ref (sj_ad G 56), .int (nI l), .int (nI o)] σ [] ∧ W' < 2 ^ l ∧ (∀ i, W.testBit i = true → W'.testBit i = true) ∧ (b = true → zFt D (zHu D U) T l) ∧
      (b = false → ∀ V, zRi D (zHu D U) V → (∀ o, o < l → W'.testBit o = true → V o = T o) → V l ≠ T l) := by
      intro k
      induction k with
      | zero =>
        intro o ho hp
        obtain rfl : o = l := by omega
        cases s2 : zRm D T o (T o) o
        · rw [s2] at hr
          refine ⟨false, zBk D T o W o, t_X12_fits_12 ⟨fun _ => ⟨_, _, hr, fun _ => ?_, fun q => absurd z_00 q⟩, fun q => absurd (nI_le (Nat.le_refl _) (by omega)) q⟩, zBk_lt hW o (Nat.le_refl o), fun i h => by rw [zBk_bit, h]; rfl, fun q => (by cases q), fun _ V hV hw => zBk_no hl s2 hV hw⟩
          have := key62 _ rfl o 0 (by omega)
          have e0 : zBk D T o W 0 = W := rfl
          rw [e0, hself] at this
          exact this
        · rw [s2] at hr
          exact ⟨true, W, t_X12_fits_12 ⟨fun _ => ⟨_, _, hr, fun q => absurd q z_10, fun _ => by rw [hself]; rfl⟩, fun q => absurd (nI_le (Nat.le_refl _) (by omega)) q⟩, hW, fun i h => h, fun _ => ⟨s1, hp, s2⟩, fun q => (by cases q)⟩
      | succ k ih =>
        intro o ho hp
        have c2 := y_canStandBoth (T := T) ok hM v hU hl (show o < dN D by omega) (hT l (Nat.le_refl l)) (hT o (by omega))
        have nl : ¬ nI l ≤ nI o := nI_ge (by omega) (by omega)
        cases s3 : zPr D (zHu D U) l (T l) o (T o)
        · rw [s3] at c2
          refine ⟨false, W ||| 2 ^ o, t_X12_fits_12 ⟨fun q => absurd q nl, fun _ => ⟨_, _, c2, fun _ => ⟨hin, hin, ?_⟩, fun q => absurd z_00 q⟩⟩, z_or2 hW (by omega), fun i h => by rw [zS_bit, h]; rfl, fun q => (by cases q), fun _ V hV hw e => ?_⟩
          · rw [kl, h61, z_set1 (by omega)]; rfl
          · have := (hV l hl).2.2.2 o (by omega)
            rw [e, hw o (by omega) (by rw [zS_bit, decide_eq_true rfl, Bool.or_true]), s3] at this
            cases this
        · rw [s3] at c2
          obtain ⟨b, W', b1, b2⟩ := ih (o + 1) (by omega) (fun o' ho' => by
            by_cases e : o' = o
            · subst e; exact s3
            · exact hp o' (by omega))
          refine ⟨b, W', t_X12_fits_12 ⟨fun q => absurd q nl, fun _ => ⟨_, _, c2, fun q => absurd q z_10, fun _ => ?_⟩⟩, b2⟩
          rw [nI_add]
          exact b1
    obtain ⟨b, W', b1, b2⟩ := key l 0 (by omega) (fun o' ho' => absurd ho' (Nat.not_lt_zero o'))
    exact ⟨b, W', c_X12_fits ok ⟨_, _, c1, fun _ => b1, fun q => absurd q z_10⟩, b2⟩
end ZFI
