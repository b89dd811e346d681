/-! MODEL: a lesson, a pair, rooms, a right table -/
section ZM5
variable {G : sj_G} {σ : sj_S} {D : zD} {T : Nat → Nat}
theorem y_isAt1 (ok : sj_ok G) (hM : repM D (σ 57)) (v : okD D) {l i : Nat} (hT1 : σ 59 l = nI (T l) ∧ T l < 40) (hl : l < dN D) (hi : i < 2 ^ 31) : sj_C G 3 me_X12_isAt [.ref (sj_ad G 56), .int (nI l), .int (nI i)] σ (.ok (if zTk D T l i then nI 1 else nI 0), σ) := by
  have h9 := v.1
  obtain ⟨t1, t2⟩ := hT1
  refine c_X12_isAt ok ?_
  unfold wp_X12_isAt_0 wp_X12_isAt_30 wp_X12_isAt_35
  rw [nI_clamp (by omega), t1]
  have e1 : (nI (T l) = nI i) = (T l = i) := by rw [nI_eq (by omega) hi]
  have e2 : (nI (T l) + nI 1 = nI i) = (T l + 1 = i) := by rw [nI_add, nI_eq (by omega) hi]
  refine ⟨z_in (by omega) (by decide), fun h => ?_, fun h => ?_⟩
  · rw [e1] at h
    subst h
    simp [zTk]
  · rw [e1] at h
    refine ⟨_, _, y_isDouble ok hM v hl, fun _ => z_in (by omega) (by decide), ?_, ?_⟩
    · rw [t1]
      simp only [e2]
      have hne : ¬ i = T l := fun q => h q.symm
      by_cases hd : dDb D l = 1
      · by_cases h1 : T l + 1 = i
        · subst h1; simp [zTk, hd, show ¬ nI 1 = 0 by decide]
        · have h1' : ¬ i = T l + 1 := fun q => h1 q.symm
          simp [zTk, hd, hne, h1, h1']
      · simp [zTk, hd, hne, show nI 0 = 0 from nI_0]
    · repeat' split
      all_goals first | exact Or.inl rfl | exact Or.inr rfl
theorem y_holdsForTwo1 (ok : sj_ok G) (hM : repM D (σ 57)) (v : okD D) {w : Nat} (hA1 : σ 59 (D 9 w) = nI (T (D 9 w)) ∧ T (D 9 w) < 20) (hB1 : σ 59 (D 10 w) = nI (T (D 10 w)) ∧ T (D 10 w) < 20) (hw : w < dW D) (h4 : 4 ≤ D 8 w) : sj_C G 2 me_X12_holdsForTwo [.ref (sj_ad G 56), .int (nI w)] σ (.ok (if zFul D T w then nI 1 else nI 0), σ) := by
  have h9 : D 0 0 ≤ 9 := v.1
  have h12 := v.2.1
  obtain ⟨e8, e9, e10, -⟩ := hM.2.2.2.2.1 w hw
  have e8 : σ 57 (45 + w) = nI (D 8 w) := e8
  have e9 : σ 57 (57 + w) = nI (D 9 w) := e9
  have e10 : σ 57 (69 + w) = nI (D 10 w) := e10
  obtain ⟨b1, b2, b3, b4, b5⟩ := okD_a v hw
  have ha : D 9 w < D 0 0 := b4 (by omega)
  have hb : D 10 w < D 0 0 := b5 h4
  obtain ⟨t1, t2⟩ := hA1
  obtain ⟨u1, u2⟩ := hB1
  have ef : zFul D T w = (if D 8 w = 4 then decide (T (D 9 w) / 4 = T (D 10 w) / 4) else if D 8 w = 5 then !decide (T (D 9 w) / 4 = T (D 10 w) / 4) else decide (T (D 9 w) < T (D 10 w))) := by
    unfold zFul
    rw [if_neg (show ¬ dSo D w = 0 from fun q => absurd (show D 8 w = 0 from q) (by omega)), if_neg (show ¬ dSo D w = 1 from fun q => absurd (show D 8 w = 1 from q) (by omega)), if_neg (show ¬ dSo D w = 2 from fun q => absurd (show D 8 w = 2 from q) (by omega)), if_neg (show ¬ dSo D w = 3 from fun q => absurd (show D 8 w = 3 from q) (by omega))]
  have k45 : (nI (45 + w)).toNatClampNeg = 45 + w := nI_clamp (by omega)
  have k57 : (nI (57 + w)).toNatClampNeg = 57 + w := nI_clamp (by omega)
  have k69 : (nI (69 + w)).toNatClampNeg = 69 + w := nI_clamp (by omega)
  have ka : (nI (D 9 w)).toNatClampNeg = D 9 w := nI_clamp (by omega)
  have kb : (nI (D 10 w)).toNatClampNeg = D 10 w := nI_clamp (by omega)
  refine c_X12_holdsForTwo ok ?_
  unfold wp_X12_holdsForTwo_0 wp_X12_holdsForTwo_97
  simp only [nI_add, k45, k57, k69, e8, e9, e10, ka, kb, t1, u1, z_d4 t2, z_d4 u2]
  refine ⟨z_in (by omega) (by decide), z_in (by omega) (by decide), z_in (by omega) (by decide), z_in (by omega) (by decide), z_in (by omega) (by decide), ?_⟩
  have c4 : (nI (D 8 w) = nI 4) = (D 8 w = 4) := by rw [nI_eq (by omega) (by decide)]
  have c5 : (nI (D 8 w) = nI 5) = (D 8 w = 5) := by rw [nI_eq (by omega) (by decide)]
  have cd : (nI (T (D 9 w) / 4) = nI (T (D 10 w) / 4)) = (T (D 9 w) / 4 = T (D 10 w) / 4) := by rw [nI_eq (by omega) (by omega)]
  simp only [c4, c5, cd, ef]
  have e3 : (if D 8 w = 4 then (if T (D 9 w) / 4 = T (D 10 w) / 4 then nI 1 else nI 0) else if D 8 w = 5 then (if T (D 9 w) / 4 = T (D 10 w) / 4 then nI 0 else nI 1) else if nI (T (D 10 w)) ≤ nI (T (D 9 w)) then nI 0 else nI 1) = if (if D 8 w = 4 then decide (T (D 9 w) / 4 = T (D 10 w) / 4) else if D 8 w = 5 then !decide (T (D 9 w) / 4 = T (D 10 w) / 4) else decide (T (D 9 w) < T (D 10 w))) = true then nI 1 else nI 0 := by
    by_cases q4 : D 8 w = 4
    · rw [if_pos q4, if_pos q4]
      by_cases r : T (D 9 w) / 4 = T (D 10 w) / 4
      · rw [if_pos r, decide_eq_true r]; rfl
      · rw [if_neg r, decide_eq_false r]; rfl
    · rw [if_neg q4, if_neg q4]
      by_cases q5 : D 8 w = 5
      · rw [if_pos q5, if_pos q5]
        by_cases r : T (D 9 w) / 4 = T (D 10 w) / 4
        · rw [if_pos r, decide_eq_true r]; rfl
        · rw [if_neg r, decide_eq_false r]; rfl
      · rw [if_neg q5, if_neg q5]
        by_cases r : T (D 9 w) < T (D 10 w)
        · rw [if_neg (nI_ge r (by omega)), decide_eq_true r]; rfl
        · rw [if_pos (show nI (T (D 10 w)) ≤ nI (T (D 9 w)) from nI_le (by omega) (by omega)), decide_eq_false r]; rfl
  rw [e3]
  exact ⟨rfl, z_01 _⟩
theorem y_holdsFor1 (ok : sj_ok G) (hM : repM D (σ 57)) (v : okD D) {w l : Nat} (hT1 : σ 59 l = nI (T l) ∧ T l < 20) (hw : w < dW D) (hl : l < dN D) (h3 : D 8 w ≤ 3) : sj_C G 4 me_X12_holdsFor [.ref (sj_ad G 56), .int (nI w), .int (nI l)] σ (.ok (if zF1 D T w l then nI 1 else nI 0), σ) := by
  have h9 := v.1
  have h12 := v.2.1
  obtain ⟨e8, e9, e10, -⟩ := hM.2.2.2.2.1 w hw
  have e8 : σ 57 (45 + w) = nI (D 8 w) := e8
  have e9 : σ 57 (57 + w) = nI (D 9 w) := e9
  have e10 : σ 57 (69 + w) = nI (D 10 w) := e10
  obtain ⟨b1, b2, b3, b4, b5⟩ := okD_a v hw
  obtain ⟨m0, m9, -⟩ := hM.2.2.2.1 l hl
  have m0 : σ 57 (0 + l) = nI (D 3 l) := m0
  have m9 : σ 57 (9 + l) = nI (D 4 l) := m9
  obtain ⟨g1, g2, -⟩ := v.2.2.2.1 l hl
  have g1 : D 3 l < 4 := g1
  have g2 : D 4 l < 6 := g2
  obtain ⟨t1, t2⟩ := hT1
  have k45 : (nI (45 + w)).toNatClampNeg = 45 + w := nI_clamp (by omega)
  have k57 : (nI (57 + w)).toNatClampNeg = 57 + w := nI_clamp (by omega)
  have k69 : (nI (69 + w)).toNatClampNeg = 69 + w := nI_clamp (by omega)
  have kl0 : (nI (0 + l)).toNatClampNeg = 0 + l := nI_clamp (by omega)
  have kl9 : (nI (9 + l)).toNatClampNeg = 9 + l := nI_clamp (by omega)
  have kl : (nI l).toNatClampNeg = l := nI_clamp (by omega)
  have hat := y_isAt1 (σ := σ) (T := T) (l := l) (i := D 10 w) ok hM v ⟨t1, by omega⟩ hl (by omega)
  have e : ∀ k, k < 7 → (nI (D 8 w) = nI k) = (D 8 w = k) := fun k hk => by rw [nI_eq (by omega) (by omega)]
  have c1 : (nI l = nI (D 9 w)) = (l = D 9 w) := by rw [nI_eq (by omega) (by omega)]
  refine c_X12_holdsFor ok ?_
  unfold wp_X12_holdsFor_0
  simp only [nI_add, k45, k57, k69, kl0, kl9, kl, e8, e9, e10, m0, m9, t1, z_d4 t2]
  refine ⟨z_in (by omega) (by decide), z_in (by omega) (by decide), z_in (by omega) (by decide), fun q => ?_, fun q => ?_, fun q => ?_, fun q => ?_, fun q0 q1 q2 q3 => ?_⟩
  · rw [e 0 (by decide)] at q
    have ef : zF1 D T w l = !(decide (D 4 l = D 9 w) && zTk D T l (D 10 w)) := by unfold zF1; rw [if_pos q]
    rw [ef]
    refine ⟨z_in (by omega) (by decide), fun r => ?_, fun r => ⟨_, _, hat, ?_⟩⟩
    · rw [nI_eq (by omega) (by omega)] at r
      rw [decide_eq_false r]
      exact ⟨rfl, Or.inr rfl⟩
    · rw [nI_eq (by omega) (by omega)] at r
      unfold wp_X12_holdsFor_88
      rw [decide_eq_true r, Bool.true_and, z_nb]
      exact ⟨rfl, z_01 _⟩
  · rw [e 1 (by decide)] at q
    have ef : zF1 D T w l = !(decide (D 3 l = D 9 w) && zTk D T l (D 10 w)) := by unfold zF1; rw [if_neg (by omega), if_pos q]
    rw [ef]
    refine ⟨z_in (by omega) (by decide), fun r => ?_, fun r => ⟨_, _, hat, ?_⟩⟩
    · rw [nI_eq (by omega) (by omega)] at r
      rw [decide_eq_false r]
      exact ⟨rfl, Or.inr rfl⟩
    · rw [nI_eq (by omega) (by omega)] at r
      unfold wp_X12_holdsFor_116
      rw [decide_eq_true r, Bool.true_and, z_nb]
      exact ⟨rfl, z_01 _⟩
  · rw [e 2 (by decide)] at q
    have ef : zF1 D T w l = !(decide (l = D 9 w) && decide (T l / 4 = D 10 w)) := by unfold zF1; rw [if_neg (by omega), if_neg (by omega), if_pos q]
    rw [ef]
    refine ⟨fun _ => z_in (by omega) (by decide), ?_⟩
    unfold wp_X12_holdsFor_140
    have c2 : (nI (T l / 4) = nI (D 10 w)) = (T l / 4 = D 10 w) := by rw [nI_eq (by omega) (by omega)]
    simp only [c1, c2]
    by_cases r : l = D 9 w
    · by_cases r2 : T l / 4 = D 10 w
      · simp [r2, ← r, z_nb]
      · simp [r2, ← r, z_nb]
    · simp [r]
  · rw [e 3 (by decide)] at q
    have ef : zF1 D T w l = (!decide (l = D 9 w) || decide (T l = D 10 w)) := by unfold zF1; rw [if_neg (by omega), if_neg (by omega), if_neg (by omega), if_pos q]
    rw [ef]
    refine ⟨fun _ => z_in (by omega) (by decide), ?_⟩
    unfold wp_X12_holdsFor_162
    have c2 : (nI (T l) = nI (D 10 w)) = (T l = D 10 w) := by rw [nI_eq (by omega) (by omega)]
    simp only [c1, c2]
    by_cases r : l = D 9 w
    · by_cases r2 : T l = D 10 w
      · simp [r2, ← r]
      · simp [r2, ← r]
    · simp [r]
  · rw [e 0 (by decide)] at q0
    rw [e 1 (by decide)] at q1
    rw [e 2 (by decide)] at q2
    rw [e 3 (by decide)] at q3
    omega
theorem q_any_mono {p : Nat → Bool} {i n : Nat} (h : q_any p i = true) (hi : i ≤ n) : q_any p n = true := by
  obtain ⟨j, h1, h2⟩ := (q_any_iff i).mp h
  exact (q_any_iff n).mpr ⟨j, by omega, h2⟩
def zHu (D : zD) (U : Nat → Bool) (w : Nat) : Bool := decide (dWe D w = 0) && !U w
/-- isOut[] holds U -/
def zUo (D : zD) (U : Nat → Bool) (f : Nat → Int32) : Prop := ∀ w, w < dW D → f w = if U w then nI 1 else nI 0
theorem y_isHard (ok : sj_ok G) (hM : repM D (σ 57)) (v : okD D) {U : Nat → Bool} (hU : zUo D U (σ 60)) {w : Nat} (hw : w < dW D) : sj_C G 2 me_X12_isHard [.ref (sj_ad G 56), .int (nI w)] σ (.ok (if zHu D U w then nI 1 else nI 0), σ) := by
  have h12 := v.2.1
  have h9 := (v.2.2.2.2.1 w hw).2.1
  have hm := (hM.2.2.2.2.1 w hw).2.2.2
  refine c_X12_isHard ok ?_
  unfold wp_X12_isHard_0 wp_X12_isHard_26
  rw [nI_add, nI_clamp (by omega), nI_clamp (by omega), hm, hU w hw]
  refine ⟨z_in (by omega) (by decide), fun _ => z_in (by omega) (by decide), ?_⟩
  have e : (if nI (dWe D w) = 0 then (if (if U w then nI 1 else nI 0) = 0 then nI 1 else nI 0) else nI 0) = if zHu D U w then nI 1 else nI 0 := by
    unfold zHu
    by_cases q : dWe D w = 0
    · rw [q, if_pos nI_0, decide_eq_true rfl]
      cases U w <;> decide
    · rw [if_neg (by rw [z_eq0 (by omega)]; exact q), decide_eq_false q]; rfl
  rw [e]
  exact ⟨rfl, z_01 _⟩
theorem y_doMeet (ok : sj_ok G) (hM : repM D (σ 57)) (v : okD D) {l o : Nat} (hl : l < dN D) (ho : o < dN D) (h1 : σ 59 l = nI (T l) ∧ T l < 20) (h2 : σ 59 o = nI (T o) ∧ T o < 20) : sj_C G 4 me_X12_doMeet [.ref (sj_ad G 56), .int (nI l), .int (nI o)] σ (.ok (if zMt (dDb D l) (T l) (dDb D o) (T o) then nI 1 else nI 0), σ) := by
  have h9 := v.1
  rw [← zMeet_mt]
  have a1 := y_isAt1 (σ := σ) (T := T) (i := T o) ok hM v ⟨h1.1, by omega⟩ hl (by omega)
  have a2 := y_isAt1 (σ := σ) (T := T) (i := T o + 1) ok hM v ⟨h1.1, by omega⟩ hl (by omega)
  refine c_X12_doMeet ok ?_
  unfold wp_X12_doMeet_0
  rw [nI_clamp (by omega), h2.1]
  refine ⟨z_in (by omega) (by decide), _, _, a1, fun q => ?_, fun q => ⟨_, _, y_isDouble ok hM v ho, fun q2 => ?_, fun q2 => ⟨z_in (by omega) (by decide), ?_⟩⟩⟩
  · unfold wp_X12_doMeet_38 wp_X12_doMeet_43 zMeet
    cases z : zTk D T l (T o)
    · rw [z] at q; exact absurd nI_0 q
    · exact ⟨rfl, Or.inr rfl⟩
  · unfold wp_X12_doMeet_42 wp_X12_doMeet_43 zMeet
    cases z : zTk D T l (T o)
    · by_cases d : dDb D o = 1
      · rw [if_pos d] at q2; exact absurd q2 z_10
      · rw [decide_eq_false d]
        exact ⟨rfl, Or.inl rfl⟩
    · rw [z] at q; exact absurd q z_10
  · rw [h2.1, nI_add]
    refine ⟨_, _, a2, ?_⟩
    unfold wp_X12_doMeet_43 zMeet
    cases z : zTk D T l (T o)
    · by_cases d : dDb D o = 1
      · rw [decide_eq_true d]
        cases zTk D T l (T o + 1)
        · exact ⟨rfl, Or.inl rfl⟩
        · exact ⟨rfl, Or.inr rfl⟩
      · rw [if_neg d] at q2; exact absurd nI_0 q2
    · rw [z] at q; exact absurd q z_10
theorem y_canStand (ok : sj_ok G) (hM : repM D (σ 57)) (v : okD D) {U : Nat → Bool} (hU : zUo D U (σ 60)) {l : Nat} (hl : l < dN D) (h1 : σ 59 l = nI (T l) ∧ T l < 20) : sj_C G 5 me_X12_canStand [.ref (sj_ad G 56), .int (nI l)] σ (.ok (if zSt D (zHu D U) l (T l) then nI 1 else nI 0), σ) := by
  have h9 := v.1
  have h12 := v.2.1
  have loop : (decide (dDb D l = 1) && decide (T l % 4 = 3)) = false → sj_J G 5 me_X12_canStand (.ok (if zSt D (zHu D U) l (T l) then nI 1 else nI 0), σ) 24 [.ref (sj_ad G 56), .int (nI l), .int (nI 0)] σ [] := by
    intro hd
    have es : zSt D (zHu D U) l (T l) = !q_any (fun w => zHu D U w && decide (dSo D w ≤ 3) && !zF1 D (fun _ => T l) w l) (dW D) := by
      unfold zSt
      rw [hd]; rfl
    rw [es]
    have key : ∀ j i, i + j = dW D → q_any (fun w => zHu D U w && decide (dSo D w ≤ 3) && !zF1 D (fun _ => T l) w l) i = false → sj_J G 5 me_X12_canStand (.ok (if !q_any (fun w => zHu D U w && decide (dSo D w ≤ 3) && !zF1 D (fun _ => T l) w l) (dW D) then nI 1 else nI 0), σ) 24 [.ref (sj_ad G 56), .int (nI l), .int (nI i)] σ [] := by
      intro j
      induction j with
      | zero =>
        intro i hi q
        have : i = dW D := by omega
        subst this
        refine t_X12_canStand_24 ⟨fun _ => ?_, fun r => ?_⟩
        · rw [q]; rfl
        · rw [hM.2.1] at r
          exact absurd (nI_le (by omega) (by omega)) r
      | succ j ih =>
        intro i hi q
        obtain ⟨v1, -⟩ := v.2.2.2.2.1 i (by omega)
        have eq1 : q_any (fun w => zHu D U w && decide (dSo D w ≤ 3) && !zF1 D (fun _ => T l) w l) (i + 1) = (q_any (fun w => zHu D U w && decide (dSo D w ≤ 3) && !zF1 D (fun _ => T l) w l) i || (zHu D U i && decide (dSo D i ≤ 3) && !zF1 D (fun _ => T l) i l)) := rfl
        rw [q, Bool.false_or] at eq1
        have nx : (zHu D U i && decide (dSo D i ≤ 3) && !zF1 D (fun _ => T l) i l) = false → wp_X12_canStand_70 G (.ok (if !q_any (fun w => zHu D U w && decide (dSo D w ≤ 3) && !zF1 D (fun _ => T l) w l) (dW D) then nI 1 else nI 0), σ) (nI l) (nI i) σ := fun z => by
          unfold wp_X12_canStand_70
          rw [nI_add]
          exact ih (i + 1) (by omega) (by rw [eq1]; exact z)
        have hm := (hM.2.2.2.2.1 i (by omega)).1
        refine t_X12_canStand_24 ⟨fun r => ?_, fun _ => ⟨_, _, y_isHard ok hM v hU (by omega : i < dW D), fun r => nx ?_, fun r => ?_⟩⟩
        · rw [hM.2.1] at r
          exact absurd r (nI_ge (by omega) (by omega))
        · cases z : zHu D U i
          · rfl
          · rw [z] at r; exact absurd r z_10
        · rw [nI_add, nI_clamp (by omega), hm]
          have hz : zHu D U i = true := by
            cases z : zHu D U i
            · rw [z] at r; exact absurd nI_0 r
            · rfl
          refine ⟨z_in (by omega) (by decide), _, _, y_isOfTwo ok (by omega), fun r2 => nx ?_, fun r2 => ?_⟩
          · by_cases s3 : dSo D i ≤ 3
            · rw [if_pos s3] at r2; exact absurd nI_0 r2
            · rw [decide_eq_false s3]; simp
          · have s3 : dSo D i ≤ 3 := by
              by_cases s3 : dSo D i ≤ 3
              · exact s3
              · rw [if_neg s3] at r2; exact absurd r2 z_10
            refine ⟨_, _, y_holdsFor1 (T := T) ok hM v h1 (by omega : i < dW D) hl s3, fun r3 => nx ?_, fun r3 => ?_⟩
            · rw [← zF1_c]
              cases z : zF1 D T i l
              · rw [z] at r3; exact absurd nI_0 r3
              · simp
            · have z : zF1 D (fun _ => T l) i l = false := by
                rw [← zF1_c]
                cases z : zF1 D T i l
                · rfl
                · rw [z] at r3; exact absurd r3 z_10
              rw [hz, decide_eq_true s3, z] at eq1
              rw [q_any_mono (n := dW D) (by rw [eq1]; rfl) (by omega)]
              rfl
    exact key (dW D) 0 (by omega) rfl
  refine c_X12_canStand ok ⟨_, _, y_isDouble ok hM v hl, fun q => ?_, fun q => ⟨z_in (by omega) (by decide), ?_⟩⟩
  · unfold wp_X12_canStand_22
    refine loop ?_
    by_cases d : dDb D l = 1
    · rw [if_pos d] at q; exact absurd q z_10
    · rw [decide_eq_false d]; rfl
  · have d : dDb D l = 1 := by
      by_cases d : dDb D l = 1
      · exact d
      · rw [if_neg d] at q; exact absurd nI_0 q
    rw [nI_clamp (by omega), h1.1, z_rem (by omega) (by decide) (by decide)]
    refine ⟨fun r => ?_, fun r => ?_⟩
    · rw [nI_eq (by omega) (by decide)] at r
      unfold wp_X12_canStand_22
      refine loop ?_
      rw [decide_eq_false r]; simp
    · rw [nI_eq (by omega) (by decide)] at r
      unfold zSt
      rw [decide_eq_true d, decide_eq_true r]; rfl
theorem zB4 (p1 p2 p3 p4 : Prop) [Decidable p1] [Decidable p2] [Decidable p3] [Decidable p4] : (if p1 then (if p2 then nI 1 else (if p3 then (if p4 then nI 1 else nI 0) else nI 0)) else (if p3 then (if p4 then nI 1 else nI 0) else nI 0)) = if (decide p1 && decide p2 || decide p3 && decide p4) then nI 1 else nI 0 := by
  by_cases x1 : p1 <;> by_cases x2 : p2 <;> by_cases x3 : p3 <;> by_cases x4 : p4 <;> simp [x1, x2, x3, x4]
theorem y_canStandBoth (ok : sj_ok G) (hM : repM D (σ 57)) (v : okD D) {U : Nat → Bool} (hU : zUo D U (σ 60)) {l o : Nat} (hl : l < dN D) (ho : o < dN D) (h1 : σ 59 l = nI (T l) ∧ T l < 20) (h2 : σ 59 o = nI (T o) ∧ T o < 20) : sj_C G 5 me_X12_canStandBoth [.ref (sj_ad G 56), .int (nI l), .int (nI o)] σ (.ok (if zPr D (zHu D U) l (T l) o (T o) then nI 1 else nI 0), σ) := by
  have h9 := v.1
  have h12 := v.2.1
  obtain ⟨m0, m1, m2, -⟩ := hM.2.2.2.1 l hl
  obtain ⟨n0, n1, n2, -⟩ := hM.2.2.2.1 o ho
  obtain ⟨g0, g1, g2, -⟩ := v.2.2.2.1 l hl
  obtain ⟨f0, f1, f2, -⟩ := v.2.2.2.1 o ho
  have ep : ∀ a c d : Bool, a = false → c = false → (!a && !c && d) = d := fun a c d ha hc => by rw [ha, hc]; rfl
  have loop : (zClash D l o && zMt (dDb D l) (T l) (dDb D o) (T o)) = false → (zLike D l o && decide (T l / 4 = T o / 4)) = false → wp_X12_canStandBoth_107 G (.ok (if zPr D (zHu D U) l (T l) o (T o) then nI 1 else nI 0), σ) (nI l) (nI o) σ := by
    intro hc hk
    unfold wp_X12_canStandBoth_107
    have es : zPr D (zHu D U) l (T l) o (T o) = !q_any (fun w => !zPw D (zHu D U) l (T l) o (T o) w) (dW D) := ep _ _ _ hc hk
    rw [es]
    have key : ∀ j i, i + j = dW D → q_any (fun w => !zPw D (zHu D U) l (T l) o (T o) w) i = false → sj_J G 5 me_X12_canStandBoth (.ok (if !q_any (fun w => !zPw D (zHu D U) l (T l) o (T o) w) (dW D) then nI 1 else nI 0), σ) 110 [.ref (sj_ad G 56), .int (nI l), .int (nI o), .null, .int (nI i), .null] σ [] := by
      intro j
      induction j with
      | zero =>
        intro i hi q
        have : i = dW D := by omega
        subst this
        refine t_X12_canStandBoth_110 ⟨fun _ => ?_, fun r => ?_⟩
        · rw [q]; rfl
        · rw [hM.2.1] at r
          exact absurd (nI_le (by omega) (by omega)) r
      | succ j ih =>
        intro i hi q
        obtain ⟨v1, -, -, -, -, -, v4⟩ := v.2.2.2.2.1 i (by omega)
        obtain ⟨b1, b2, b3, b4, b5⟩ := okD_a v (show i < dW D by omega)
        have eq1 : q_any (fun w => !zPw D (zHu D U) l (T l) o (T o) w) (i + 1) = (q_any (fun w => !zPw D (zHu D U) l (T l) o (T o) w) i || !zPw D (zHu D U) l (T l) o (T o) i) := rfl
        rw [q, Bool.false_or] at eq1
        have nx : zPw D (zHu D U) l (T l) o (T o) i = true → wp_X12_canStandBoth_230 G (.ok (if !q_any (fun w => !zPw D (zHu D U) l (T l) o (T o) w) (dW D) then nI 1 else nI 0), σ) (nI l) (nI o) (nI i) σ := fun z => by
          unfold wp_X12_canStandBoth_230
          rw [nI_add]
          exact ih (i + 1) (by omega) (by rw [eq1, z]; rfl)
        have hend : zPw D (zHu D U) l (T l) o (T o) i = false → ((.ok (if !q_any (fun w => !zPw D (zHu D U) l (T l) o (T o) w) (dW D) then nI 1 else nI 0), σ) : sj_R) = (.ok (nI 0), σ) := fun z => by
          rw [z] at eq1
          rw [q_any_mono (n := dW D) (by rw [eq1]; rfl) (by omega)]
          rfl
        obtain ⟨hm, hma, hmb, -⟩ := hM.2.2.2.2.1 i (by omega)
        have vin : ∀ x, x < 128 → vp_in (nI x) 128 := fun x hx => z_in hx (by decide)
        refine t_X12_canStandBoth_110 ⟨fun r => ?_, fun _ => ⟨_, _, y_isHard ok hM v hU (by omega : i < dW D), fun r => nx ?_, fun r => ?_⟩⟩
        · rw [hM.2.1] at r
          exact absurd r (nI_ge (by omega) (by omega))
        · unfold zPw
          cases z : zHu D U i
          · rfl
          · rw [z] at r; exact absurd r z_10
        · have hz : zHu D U i = true := by
            cases z : zHu D U i
            · rw [z] at r; exact absurd nI_0 r
            · rfl
          rw [nI_add, nI_add, nI_add, nI_clamp (by omega), nI_clamp (by omega), nI_clamp (by omega), hm]
          refine ⟨vin _ (by omega), _, _, y_isOfTwo ok (by omega), fun r2 => ?_, fun r2 => nx ?_⟩
          · have s4 : 4 ≤ dSo D i := by
              by_cases s3 : dSo D i ≤ 3
              · rw [if_pos s3] at r2; exact absurd nI_0 r2
              · omega
            obtain ⟨c1, c2, c3⟩ := v4 s4
            rw [hma, hmb]
            refine ⟨vin _ (by omega), fun _ => vin _ (by omega), fun _ _ => vin _ (by omega), fun _ => vin _ (by omega), fun _ _ => vin _ (by omega), fun _ _ _ => vin _ (by omega), ?_⟩
            have a1 : (nI (dA D i) = nI l) = (dA D i = l) := by rw [nI_eq (by omega) (by omega)]
            have a2 : (nI (dA D i) = nI o) = (dA D i = o) := by rw [nI_eq (by omega) (by omega)]
            have a3 : (nI (dB D i) = nI l) = (dB D i = l) := by rw [nI_eq (by omega) (by omega)]
            have a4 : (nI (dB D i) = nI o) = (dB D i = o) := by rw [nI_eq (by omega) (by omega)]
            simp only [a1, a2, a3, a4]
            have es : (if dA D i = l then (if dB D i = o then nI 1 else (if dA D i = o then (if dB D i = l then nI 1 else nI 0) else nI 0)) else (if dA D i = o then (if dB D i = l then nI 1 else nI 0) else nI 0)) = if zBoth l o (dA D i) (dB D i) then nI 1 else nI 0 := by
              exact zB4 _ _ _ _
            rw [es]
            unfold wp_X12_canStandBoth_212
            refine ⟨fun r3 => nx ?_, fun r3 => ?_⟩
            · have z : zBoth l o (dA D i) (dB D i) = false := by
                cases z : zBoth l o (dA D i) (dB D i)
                · rfl
                · rw [z] at r3; exact absurd r3 z_10
              unfold zBoth at z
              rw [Bool.or_eq_false_iff] at z
              unfold zPw
              rw [z.1, z.2]; simp
            · have z : zBoth l o (dA D i) (dB D i) = true := by
                cases z : zBoth l o (dA D i) (dB D i)
                · rw [z] at r3; exact absurd nI_0 r3
                · rfl
              have zz : (dA D i = l ∧ dB D i = o) ∨ (dA D i = o ∧ dB D i = l) := by
                unfold zBoth at z
                rw [Bool.or_eq_true, Bool.and_eq_true, Bool.and_eq_true, decide_eq_true_eq, decide_eq_true_eq, decide_eq_true_eq, decide_eq_true_eq] at z
                exact z
              have hA1 : σ 59 (D 9 i) = nI (T (D 9 i)) ∧ T (D 9 i) < 20 := by
                rcases zz with ⟨x1, -⟩ | ⟨x1, -⟩
                · rw [show D 9 i = l from x1]; exact h1
                · rw [show D 9 i = o from x1]; exact h2
              have hB1 : σ 59 (D 10 i) = nI (T (D 10 i)) ∧ T (D 10 i) < 20 := by
                rcases zz with ⟨-, x1⟩ | ⟨-, x1⟩
                · rw [show D 10 i = o from x1]; exact h2
                · rw [show D 10 i = l from x1]; exact h1
              have hne : l ≠ o := by
                rcases zz with ⟨x1, x2⟩ | ⟨x1, x2⟩ <;> omega
              have ef : zPw D (zHu D U) l (T l) o (T o) i = zFul D T i := by
                rw [zFul_two s4]
                unfold zPw
                rw [hz, decide_eq_true s4]
                rcases zz with ⟨x1, x2⟩ | ⟨x1, x2⟩
                · rw [x1, x2, decide_eq_true rfl, decide_eq_true rfl, decide_eq_false hne]; simp
                · rw [x1, x2, decide_eq_true rfl, decide_eq_true rfl, decide_eq_false hne.symm]; simp
              refine ⟨_, _, y_holdsForTwo1 (T := T) ok hM v hA1 hB1 (by omega : i < dW D) s4, fun r4 => nx ?_, fun r4 => hend ?_⟩
              · rw [ef]
                cases z : zFul D T i
                · rw [z] at r4; exact absurd nI_0 r4
                · rfl
              · rw [ef]
                cases z : zFul D T i
                · rfl
                · rw [z] at r4; exact absurd r4 z_10
          · have s3 : dSo D i ≤ 3 := by
              by_cases s3 : dSo D i ≤ 3
              · exact s3
              · rw [if_neg s3] at r2; exact absurd r2 z_10
            unfold zPw
            rw [decide_eq_false (by omega : ¬ 4 ≤ dSo D i)]; simp
    exact key (dW D) 0 (by omega) rfl
  have vin : ∀ x, x < 128 → vp_in (nI x) 128 := fun x hx => z_in hx (by decide)
  have vl : vp_in (nI l) 9 := z_in (by omega) (by decide)
  have vo : vp_in (nI o) 9 := z_in (by omega) (by decide)
  have k0l : (nI (0 + l)).toNatClampNeg = 0 + l := nI_clamp (by omega)
  have k0o : (nI (0 + o)).toNatClampNeg = 0 + o := nI_clamp (by omega)
  have k9l : (nI (9 + l)).toNatClampNeg = 9 + l := nI_clamp (by omega)
  have k9o : (nI (9 + o)).toNatClampNeg = 9 + o := nI_clamp (by omega)
  have k18l : (nI (18 + l)).toNatClampNeg = 18 + l := nI_clamp (by omega)
  have k18o : (nI (18 + o)).toNatClampNeg = 18 + o := nI_clamp (by omega)
  have kl : (nI l).toNatClampNeg = l := nI_clamp (by omega)
  have ko : (nI o).toNatClampNeg = o := nI_clamp (by omega)
  -- behind the meeting
  have like : ∀ s0 : Int32, s0 = (if dG D l = dG D o then nI 1 else nI 0) → (zClash D l o && zMt (dDb D l) (T l) (dDb D o) (T o)) = false → wp_X12_canStandBoth_61 G (.ok (if zPr D (zHu D U) l (T l) o (T o) then nI 1 else nI 0), σ) (nI l) (nI o) s0 σ := by
    intro s0 e0 hc
    subst e0
    refine ⟨fun q => loop hc ?_, fun q => ?_⟩
    · by_cases g : dG D l = dG D o
      · rw [if_pos g] at q; exact absurd q z_10
      · unfold zLike; rw [decide_eq_false g]; rfl
    · have g : dG D l = dG D o := by
        by_cases g : dG D l = dG D o
        · exact g
        · rw [if_neg g] at q; exact absurd nI_0 q
      simp only [nI_add, k18l, k18o, kl, ko, m2, n2, h1.1, h2.1, z_d4 h1.2, z_d4 h2.2]
      have c1 : (nI (dSu D l) = nI (dSu D o)) = (dSu D l = dSu D o) := by rw [nI_eq (by omega) (by omega)]
      have c2 : (nI (T l / 4) = nI (T o / 4)) = (T l / 4 = T o / 4) := by rw [nI_eq (by omega) (by omega)]
      simp only [c1, c2]
      refine ⟨vin _ (by omega), vin _ (by omega), fun r => loop hc ?_, fun r => ⟨vl, vo, fun r2 => loop hc ?_, fun r2 => ?_⟩⟩
      · unfold zLike; rw [decide_eq_false r]; simp
      · rw [decide_eq_false r2]; simp
      · unfold zPr zLike
        rw [decide_eq_true g, decide_eq_true r, decide_eq_true r2]; simp
  have meet : ∀ s0 : Int32, s0 = (if dG D l = dG D o then nI 1 else nI 0) → zClash D l o = true → wp_X12_canStandBoth_50 G (.ok (if zPr D (zHu D U) l (T l) o (T o) then nI 1 else nI 0), σ) (nI l) (nI o) s0 σ := by
    intro s0 e0 hc
    refine ⟨_, _, y_doMeet ok hM v hl ho h1 h2, fun q => like s0 e0 ?_, fun q => ?_⟩
    · cases z : zMt (dDb D l) (T l) (dDb D o) (T o)
      · simp
      · rw [z] at q; exact absurd q z_10
    · have z : zMt (dDb D l) (T l) (dDb D o) (T o) = true := by
        cases z : zMt (dDb D l) (T l) (dDb D o) (T o)
        · rw [z] at q; exact absurd nI_0 q
        · rfl
      unfold zPr
      rw [hc, z]; rfl
  refine c_X12_canStandBoth ok ?_
  unfold wp_X12_canStandBoth_0
  simp only [nI_add, k0l, k0o, m0, n0]
  have c0 : (nI (dG D l) = nI (dG D o)) = (dG D l = dG D o) := by rw [nI_eq (by omega) (by omega)]
  simp only [c0]
  refine ⟨vin _ (by omega), vin _ (by omega), fun q => ?_, fun q => ?_⟩
  · have g : dG D l = dG D o := by
      by_cases g : dG D l = dG D o
      · exact g
      · rw [if_neg g] at q; exact absurd nI_0 q
    exact meet _ rfl (by unfold zClash; rw [decide_eq_true g]; rfl)
  · have g : ¬ dG D l = dG D o := fun g => by rw [if_pos g] at q; exact absurd q z_10
    simp only [nI_add, k9l, k9o, m1, n1]
    have c1 : (nI (dTe D l) = nI (dTe D o)) = (dTe D l = dTe D o) := by rw [nI_eq (by omega) (by omega)]
    simp only [c1]
    refine ⟨vin _ (by omega), vin _ (by omega), fun r => like _ rfl ?_, fun r => meet _ rfl ?_⟩
    · unfold zClash; rw [decide_eq_false g, decide_eq_false r]; rfl
    · unfold zClash; rw [decide_eq_true r, Bool.or_true]
end ZM5
