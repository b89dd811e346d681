/-! exams: the greatest group -/
theorem q_any_or {p : Nat → Bool} {n : Nat} : q_any p (n + 1) = (q_any p n || p n) := rfl
def zBc (s : Nat) : Nat := q_cnt (fun i => s.testBit i) 8
def zIg (D : zD) (s : Nat) : Bool := !q_any (fun e => s.testBit e && q_any (fun o => s.testBit o && !(dAp D e).testBit o) e) 8
def zGb (D : zD) : Nat → Nat
  | 0 => 0
  | k + 1 => if zBc (zGb D k) < zBc (k + 1) ∧ zIg D (k + 1) = true then k + 1 else zGb D k
theorem zGb_le (D : zD) : ∀ k, zGb D k ≤ k := by
  intro k
  induction k with
  | zero => exact Nat.le_refl 0
  | succ k ih =>
    unfold zGb
    split
    · exact Nat.le_refl _
    · omega
theorem zIg_0 (D : zD) : zIg D 0 = true := by
  unfold zIg
  rw [Bool.not_eq_true', q_any_f]
  intro e he
  rw [Nat.zero_testBit]; rfl
theorem zGb_good (D : zD) : ∀ k, zIg D (zGb D k) = true := by
  intro k
  induction k with
  | zero => exact zIg_0 D
  | succ k ih =>
    unfold zGb
    split
    · rename_i h; exact h.2
    · exact ih
theorem zIg_2 {D : zD} (v : okD D) (s : Nat) : zIg D s = !q_any (fun e => s.testBit e && q_any (fun o => s.testBit o && !decide (o = e) && !(dAp D e).testBit o) 8) 8 := by
  have hs := v.2.2.2.2.2.2.2
  unfold zIg
  congr 1
  rw [Bool.eq_iff_iff, q_any_iff, q_any_iff]
  constructor
  · rintro ⟨e, he, h⟩
    rw [Bool.and_eq_true, q_any_iff] at h
    obtain ⟨h1, o, ho, h2⟩ := h
    rw [Bool.and_eq_true] at h2
    refine ⟨e, he, ?_⟩
    rw [Bool.and_eq_true, q_any_iff]
    refine ⟨h1, o, by omega, ?_⟩
    rw [h2.1, h2.2, decide_eq_false (by omega)]; rfl
  · rintro ⟨e, he, h⟩
    rw [Bool.and_eq_true, q_any_iff] at h
    obtain ⟨h1, o, ho, h2⟩ := h
    rw [Bool.and_eq_true, Bool.and_eq_true, Bool.not_eq_true', decide_eq_false_iff_not] at h2
    obtain ⟨⟨a1, a2⟩, a3⟩ := h2
    by_cases q : o < e
    · refine ⟨e, he, ?_⟩
      rw [Bool.and_eq_true, q_any_iff]
      exact ⟨h1, o, q, by rw [a1, a3]; rfl⟩
    · refine ⟨o, ho, ?_⟩
      rw [Bool.and_eq_true, q_any_iff]
      refine ⟨a1, e, by omega, ?_⟩
      rw [h1, ← (hs e he).2 o ho, a3]; rfl
theorem zBc_20 {s : Nat} (h : s < 256) : q_cnt (fun i => s.testBit i) 20 = zBc s := by
  rw [show (20 : Nat) = 8 + 12 from rfl, q_cnt_add]
  have : q_cnt (fun i => s.testBit (8 + i)) 12 = 0 := by
    have : ∀ n, q_cnt (fun i => s.testBit (8 + i)) n = 0 := by
      intro n
      induction n with
      | zero => rfl
      | succ n ih =>
        show q_cnt _ n + (if s.testBit (8 + n) then 1 else 0) = 0
        rw [ih, Nat.testBit_lt_two_pow (Nat.lt_of_lt_of_le h (Nat.pow_le_pow_right (n := 2) (by decide) (by omega : 8 ≤ 8 + n)))]; rfl
    exact this 12
  rw [this]; rfl
def zbI (b : Bool) : Int32 := if b then nI 1 else nI 0
theorem zbI_and (a b : Bool) : zbI a &&& zbI b = zbI (a && b) := by cases a <;> cases b <;> decide
theorem zbI_0 (b : Bool) : (zbI b = 0) = (b = false) := by cases b <;> simp [zbI, z_00, z_10]
section ZGR
variable {G : sj_G} {σ : sj_S} {D : zD}
theorem z_isGroup (ok : sj_ok G) (v : okD D) (hA : ∀ e, e < 8 → σ 2 (111 + e) = nI (dAp D e)) {s : Nat} (hs : s < 256) : sj_C G 3 me_X3_isGroup [.ref (sj_ad G 44), .ref (sj_ad G 1), .int (nI s)] σ (.ok (zbI (zIg D s)), σ) := by
  rw [zIg_2 v]
  refine c_X3_isGroup ok ?_
  have big : ∀ {a i : Nat}, a < 256 → 8 ≤ i → a.testBit i = false := fun ha hi => Nat.testBit_lt_two_pow (Nat.lt_of_lt_of_le ha (Nat.pow_le_pow_right (n := 2) (by decide) hi))
  generalize eP : (fun e => s.testBit e && q_any (fun o => s.testBit o && !decide (o = e) && !(dAp D e).testBit o) 8) = P
  have key : ∀ k i, i + k = 8 → q_any P i = false → sj_J G 3 me_X3_isGroup (.ok (zbI (!q_any P 8)), σ) 2 [.null, .ref (sj_ad G 1), .int (nI s), .int (nI i), .null] σ [] := by
    intro k
    induction k with
    | zero =>
      intro i hi hq
      obtain rfl : i = 8 := by omega
      refine t_X3_isGroup_2 ⟨fun _ => ?_, fun q => absurd (by decide) q⟩
      rw [hq]; rfl
    | succ k ih =>
      intro i hi hq
      have hgo : P i = false → wp_X3_isGroup_38 G (.ok (zbI (!q_any P 8)), σ) (nI s) (nI i) σ := fun h => by
        unfold wp_X3_isGroup_38
        rw [nI_add]
        exact ih (i + 1) (by omega) (by rw [q_any_or, hq, h]; rfl)
      have hb : ∀ j, j < 32 → bt (nI s &&& (((nI 1) <<< (nI i &&& 31)) ^^^ (-1))) j = (s.testBit j && !decide (j = i)) := fun j hj => by
        rw [b_and, z_bn _ _ hj, b_xor, z_shl1 (by omega) hj, b_m1 j hj]
        cases decide (j = i) <;> rfl
      have h1 : ((nI s &&& (((nI 1) <<< (nI i &&& 31)) ^^^ (-1))) = nI s) ↔ s.testBit i = false := by
        constructor
        · intro h
          have : bt (nI s &&& (((nI 1) <<< (nI i &&& 31)) ^^^ (-1))) i = bt (nI s) i := congrArg (fun x => bt x i) h
          rw [hb i (by omega), z_bn _ _ (by omega), decide_eq_true rfl] at this
          rw [← this]; cases s.testBit i <;> rfl
        · intro h
          refine b_ext (fun j hj => ?_)
          rw [hb j hj, z_bn _ _ hj]
          by_cases q : j = i
          · rw [q, h]; rfl
          · rw [decide_eq_false q]; simp
      refine t_X3_isGroup_2 ⟨fun q => absurd q (nI_ge (by omega) (by omega)), fun _ => ⟨fun q => hgo ?_, fun q => ⟨_, _, z_apartFrom ok (by omega), ?_⟩⟩⟩
      · rw [← eP]
        show (s.testBit i && _) = false
        rw [h1.mp q]; rfl
      · rw [h1, Bool.not_eq_false] at q
        rw [hA i (by omega)]
        have ha := (v.2.2.2.2.2.2.2 i (by omega)).1
        have hPi : P i = q_any (fun o => s.testBit o && !decide (o = i) && !(dAp D i).testBit o) 8 := by
          rw [← eP]
          show (s.testBit i && _) = _
          rw [q]; rfl
        have hb2 : ∀ j, j < 32 → bt ((nI s &&& (((nI 1) <<< (nI i &&& 31)) ^^^ (-1))) &&& (nI (dAp D i) ^^^ (-1))) j = (s.testBit j && !decide (j = i) && !(dAp D i).testBit j) := fun j hj => by
          rw [b_and, hb j hj, b_xor, z_bn _ _ hj, b_m1 j hj]
          cases (dAp D i).testBit j <;> rfl
        refine ⟨fun h => hgo ?_, fun h => ?_⟩
        · rw [hPi, q_any_f]
          intro o ho
          rw [← hb2 o (by omega), h]
          exact b_0 o
        · have : q_any P 8 = true := by
            rw [q_any_iff]
            refine ⟨i, by omega, ?_⟩
            rw [hPi]
            cases hx : q_any (fun o => s.testBit o && !decide (o = i) && !(dAp D i).testBit o) 8 with
            | true => rfl
            | false =>
              exfalso
              apply h
              rw [q_any_f] at hx
              refine b_ext (fun j hj => ?_)
              rw [hb2 j hj, b_0]
              by_cases q8 : j < 8
              · exact hx j q8
              · rw [big hs (by omega)]; rfl
          rw [this]; rfl
  exact key 8 0 (by omega) rfl
theorem z_greatestGroup (ok : sj_ok G) (v : okD D) (hA : ∀ e, e < 8 → σ 2 (111 + e) = nI (dAp D e)) : sj_C G 4 me_X3_greatestGroup [.ref (sj_ad G 44), .ref (sj_ad G 1)] σ (.ok (nI (zGb D 255)), σ) := by
  refine c_X3_greatestGroup ok ?_
  have key : ∀ k i, i + k = 255 → sj_J G 4 me_X3_greatestGroup (.ok (nI (zGb D 255)), σ) 4 [.ref (sj_ad G 44), .ref (sj_ad G 1), .int (nI (zGb D i)), .int (nI (i + 1))] σ [] := by
    intro k
    induction k with
    | zero =>
      intro i hi
      obtain rfl : i = 255 := by omega
      exact t_X3_greatestGroup_4 ⟨fun _ => rfl, fun q => absurd (by decide) q⟩
    | succ k ih =>
      intro i hi
      have hle := zGb_le D i
      have h1 := ih (i + 1) (by omega)
      have hb1 := z_bitCount (σ := σ) ok (n := i + 1) (by omega)
      have hb2 := z_bitCount (σ := σ) ok (n := zGb D i) (by omega)
      rw [zBc_20 (by omega)] at hb1 hb2
      have l1 : zBc (i + 1) ≤ 8 := q_cnt_le _ 8
      have l2 : zBc (zGb D i) ≤ 8 := q_cnt_le _ 8
      refine t_X3_greatestGroup_4 ⟨fun q => absurd q (nI_ge (by omega) (by omega)), fun _ => ⟨_, _, hb1, _, _, hb2, fun q => ?_, fun q => ⟨_, _, z_isGroup ok v hA (by omega), ?_⟩⟩⟩
      · rw [nI_leI (by omega) (by omega)] at q
        have : zGb D (i + 1) = zGb D i := by
          show (if _ then _ else _) = _
          rw [if_neg (by omega)]
        rw [this] at h1
        unfold wp_X3_greatestGroup_33
        rw [nI_add]; exact h1
      · rw [nI_leI (by omega) (by omega)] at q
        have : nI (zGb D (i + 1)) = if zbI (zIg D (i + 1)) = 0 then nI (zGb D i) else nI (i + 1) := by
          cases hz : zIg D (i + 1) with
          | true =>
            rw [if_neg (by decide : ¬ zbI true = 0)]
            show nI (if _ then _ else _) = _
            rw [if_pos ⟨by omega, hz⟩]
          | false =>
            rw [if_pos (by decide : zbI false = 0)]
            show nI (if _ then _ else _) = _
            rw [if_neg (fun h => absurd h.2 (by rw [hz]; decide))]
        rw [this] at h1
        unfold wp_X3_greatestGroup_33
        rw [nI_add]; exact h1
  exact key 255 0 (by omega)
end ZGR
