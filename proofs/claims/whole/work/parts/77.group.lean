/-! exams: the greatest group -/
theorem q_any_or {p : Nat → Bool} {n : Nat} : q_any p (n + 1) = (q_any p n || p n) := rfl
def zBc (s : Nat) : Nat := q_cnt (fun i => s.testBit i) 8
def zIg (D : zD) (s : Nat) : Bool := !q_any (fun e => s.testBit e && q_any (fun o => s.testBit o && !(dAp D e).testBit o) e) 8
def zGb (D : zD) : Nat → Nat
  | 0 => 0
  | k + 1 => if zBc (zGb D k) < zBc (k + 1) ∧ zIg D (k + 1) = true then k + 1 else zGb D k
theorem zGb_le (D : zD) : ∀ k, zGb D k ≤ k := by
  intro k
  induction k with
  | zero => exact Nat.le_refl 0
  | succ k ih =>
    unfold zGb
    split
    · exact Nat.le_refl _
    · omega
theorem zIg_0 (D : zD) : zIg D 0 = true := by
  unfold zIg
  rw [Bool.not_eq_true', q_any_f]
  intro e he
  rw [Nat.zero_testBit]; rfl
theorem zGb_good (D : zD) : ∀ k, zIg D (zGb D k) = true := by
  intro k
  induction k with
  | zero => exact zIg_0 D
  | succ k ih =>
    unfold zGb
    split
    · rename_i h; exact h.2
    · exact ih
theorem zIg_2 {D : zD} (v : okD D) (s : Nat) : zIg D s = !q_any (fun e => s.testBit e && q_any (fun o => s.testBit o && !decide (o = e) && !(dAp D e).testBit o) 8) 8 := by
  have hs := v.2.2.2.2.2.2.2
  unfold zIg
  congr 1
  rw [Bool.eq_iff_iff, q_any_iff, q_any_iff]
  constructor
  · rintro ⟨e, he, h⟩
    rw [Bool.and_eq_true, q_any_iff] at h
    obtain ⟨h1, o, ho, h2⟩ := h
    rw [Bool.and_eq_true] at h2
    refine ⟨e, he, ?_⟩
    rw [Bool.and_eq_true, q_any_iff]
    refine ⟨h1, o, by omega, ?_⟩
    rw [h2.1, h2.2, decide_eq_false (by omega)]; rfl
  · rintro ⟨e, he, h⟩
    rw [Bool.and_eq_true, q_any_iff] at h
    obtain ⟨h1, o, ho, h2⟩ := h
    rw [Bool.and_eq_true, Bool.and_eq_true, Bool.not_eq_true', decide_eq_false_iff_not] at h2
    obtain ⟨⟨a1, a2⟩, a3⟩ := h2
    by_cases q : o < e
    · refine ⟨e, he, ?_⟩
      rw [Bool.and_eq_true, q_any_iff]
      exact ⟨h1, o, q, by rw [a1, a3]; rfl⟩
    · refine ⟨o, ho, ?_⟩
      rw [Bool.and_eq_true, q_any_iff]
      refine ⟨a1, e, by omega, ?_⟩
      rw [h1, ← (hs e he).2 o ho, a3]; rfl
theorem zBc_20 {s : Nat} (h : s < 256) : q_cnt (fun i => s.testBit i) 20 = zBc s := by
  rw [show (20 : Nat) = 8 + 12 from rfl, q_cnt_add]
  have : q_cnt (fun i => s.testBit (8 + i)) 12 = 0 := by
    have : ∀ n, q_cnt (fun i => s.testBit (8 + i)) n = 0 := by
      intro n
      induction n with
      | zero => rfl
      | succ n ih =>
        show q_cnt _ n + (if s.testBit (8 + n) then 1 else 0) = 0
        rw [ih, Nat.testBit_lt_two_pow (Nat.lt_of_lt_of_le h (Nat.pow_le_pow_right (n := 2) (by decide) (by omega : 8 ≤ 8 + n)))]; rfl
    exact this 12
  rw [this]; rfl
def zbI (b : Bool) : Int32 := if b then nI 1 else nI 0
theorem zbI_and (a b : Bool) : zbI a &&& zbI b = zbI (a && b) := by cases a <;> cases b <;> decide
theorem zbI_0 (b : Bool) : (zbI b = 0) = (b = false) := by cases b <;> simp [zbI, z_00, z_10]
section ZGR
variable {G : sj_G} {σ : sj_S} {D : zD}
theorem z_isGroup (ok : sj_ok G) (v : okD D) (hA : ∀ e, e < 8 → σ 2 (111 + e) = nI (dAp D e)) {s : Nat} (hs : s < 256) : sj_C G 3 me_X3_isGroup [.ref (sj_ad G 44), .ref (sj_ad G 1), .int (nI s)] σ (.ok (zbI (zIg D s)), σ) := by
  rw [zIg_2 v]
  refine c_X3_isGroup ok ?_
  have big : ∀ {a i : Nat}, a < 256 → 8 ≤ i → a.testBit i = false := fun ha hi => Nat.testBit_lt_two_pow (Nat.lt_of_lt_of_le ha (Nat.pow_le_pow_right (n := 2) (by decide) hi))
  generalize eP : (fun e => s.testBit e && q_any (fun o => s.testBit o && !decide (o = e) && !(dAp D e).testBit o) 8) = P
  have key : ∀ k i, i + k = 8 → q_any P i = false → sj_J G 3 me_X3_isGroup (.ok (zbI (!q_any P 8)), σ) 2 [.null, .ref (sj_ad G 1), .int (nI s), .int (nI i), .null] σ [] := by
    intro k
    induction k with
    | zero =>
      intro i hi hq
      obtain rfl : i = 8 := by omega
      refine t_X3_isGroup_2 ⟨fun _ => ?_, fun q => absurd (by decide) q⟩
      rw [hq]; rfl
    | succ k ih =>
      intro i hi hq
      have hgo : P i = false → wp_X3_isGroup_38 G (.ok (zbI (!q_any P 8)), σ) (nI s) (nI i) σ := fun h => by
        unfold wp_X3_isGroup_38
        rw [nI_add]
        exact ih (i + 1) (by omega) (by rw [q_any_or, hq, h]; rfl)
      have hb : ∀ j, j < 32 → bt (nI s &&& (((nI 1) <<< (nI i &&& 31)) ^^^ (-1))) j = (s.testBit j && !decide (j = i)) := fun j hj => by
        rw [b_and, z_bn _ _ hj, b_xor, z_shl1 (by omega) hj, b_m1 j hj]
        cases decide (j = i) <;> rfl
      have h1 : ((nI s &&& (((nI 1) <<< (nI i &&& 31)) ^^^ (-1))) = nI s) ↔ s.testBit i = false := by
        constructor
        · intro h
          have : bt (nI s &&& (((nI 1) <<< (nI i &&& 31)) ^^^ (-1))) i = bt (nI s) i := congrArg (fun x => bt x i) h
          rw [hb i (by omega), z_bn _ _ (by omega), decide_eq_true rfl] at this
          rw [← this]; cases s.testBit i <;> rfl
        · intro h
          refine b_ext (fun j hj => ?_)
          rw [hb j hj, z_bn _ _ hj]
          by_cases q : j = i
          · rw [q, h]; rfl
          · rw [decide_eq_false q]; simp
      refine t_X3_isGroup_2 ⟨fun q => absurd q (nI_ge (by omega) (by omega)), fun _ => ⟨fun q => hgo ?_, fun q => ⟨_, _, z_apartFrom ok (by omega), ?_⟩⟩⟩
      · rw [← eP]
        show (s.testBit i && _) = false
        rw [h1.mp q]; rfl
      · rw [h1, Bool.not_eq_false] at q
        rw [hA i (by omega)]
        have ha := (v.2.2.2.2.2.2.2 i (by omega)).1
        have hPi : P i = q_any (fun o => s.testBit o && !decide (o = i) && !(dAp D i).testBit o) 8 := by
          rw [← eP]
          show (s.testBit i && _) = _
          rw [q]; rfl
        have hb2 : ∀ j, j < 32 → bt ((nI s &&& (((nI 1) <<< (nI i &&& 31)) ^^^ (-1))) &&& (nI (dAp D i) ^^^ (-1))) j = (s.testBit j && !decide (j = i) && !(dAp D i).testBit j) := fun j hj => by
          rw [b_and, hb j hj, b_xor, z_bn _ _ hj, b_m1 j hj]
          cases (dAp D i).testBit j <;> rfl
        refine ⟨fun h => hgo ?_, fun h => ?_⟩
        · rw [hPi, q_any_f]
          intro o ho
          rw [← hb2 o (by omega), h]
          exact b_0 o
        · have : q_any P 8 = true := by
            rw [q_any_iff]
            refine ⟨i, by omega, ?_⟩
            rw [hPi]
            cases hx : q_any (fun o => s.testBit o && !decide (o = i) && !(dAp D i).testBit o) 8 with
            | true => rfl
            | false =>
              exfalso
              apply h
              rw [q_any_f] at hx
              refine b_ext (fun j hj => ?_)
              rw [hb2 j hj, b_0]
              by_cases q8 : j < 8
              · exact hx j q8
              · rw [big hs (by omega)]; rfl
          rw [this]; rfl
  exact key 8 0 (by omega) rfl
theorem z_greatestGroup (ok : sj_ok G) (v : okD D) (hA : ∀ e, e < 8 → σ 2 (111 + e) = nI (dAp D e)) : sj_C G 4 me_X3_greatestGroup [.ref (sj_ad G 44), .ref (sj_ad G 1)] σ (.ok (nI (zGb D 255)), σ) := by
  refine c_X3_greatestGroup ok ?_
  have key : ∀ k i, i + k = 255 → sj_J G 4 me_X3_greatestGroup (.ok (nI (zGb D 255)), σ) 4 [.ref (sj_ad G 44), .ref (sj_ad G 1), .int (nI (zGb D i)), .int (nI (i + 1))] σ [] := by
    intro k
    induction k with
    | zero =>
      intro i hi
      obtain rfl : i = 255 := by omega
      exact t_X3_greatestGroup_4 ⟨fun _ => rfl, fun q => absurd (by decide) q⟩
    | succ k ih =>
      intro i hi
      have hle := zGb_le D i
      have h1 := ih (i + 1) (by omega)
      have hb1 := z_bitCount (σ := σ) ok (n := i + 1) (by omega)
      have hb2 := z_bitCount (σ := σ) ok (n := zGb D i) (by omega)
      rw [zBc_20 (by omega)] at hb1 hb2
      have l1 : zBc (i + 1) ≤ 8 := q_cnt_le _ 8
      have l2 : zBc (zGb D i) ≤ 8 := q_cnt_le _ 8
      refine t_X3_greatestGroup_4 ⟨fun q => absurd q (nI_ge (by omega) (by omega)), fun _ => ⟨_, _, hb1, _, _, hb2, fun q => ?_, fun q => ⟨_, _, z_isGroup ok v hA (by omega), ?_⟩⟩⟩
      · rw [nI_leI (by omega) (by omega)] at q
        have : zGb D (i + 1) = zGb D i := by
          show (if _ then _ else _) = _
          rw [if_neg (by omega)]
        rw [this] at h1
        unfold wp_X3_greatestGroup_33
        rw [nI_add]; exact h1
      · rw [nI_leI (by omega) (by omega)] at q
        have : nI (zGb D (i + 1)) = if zbI (zIg D (i + 1)) = 0 then nI (zGb D i) else nI (i + 1) := by
          cases hz : zIg D (i + 1) with
          | true =>
            rw [if_neg (by decide : ¬ zbI true = 0)]
            show nI (if _ then _ else _) = _
            rw [if_pos ⟨by omega, hz⟩]
          | false =>
            rw [if_pos (by decide : zbI false = 0)]
            show nI (if _ then _ else _) = _
            rw [if_neg (fun h => absurd h.2 (by rw [hz]; decide))]
        rw [this] at h1
        unfold wp_X3_greatestGroup_33
        rw [nI_add]; exact h1
  exact key 255 0 (by omega)
theorem y_group (ok : sj_ok G) (hA : ∀ e, e < 8 → σ 57 (108 + e) = nI (dAp D e)) : sj_C G 3 me_X12_group [.ref (sj_ad G 56)] σ (.ok (nI (zGb D 255)), sj_st σ 56 0 (nI 0)) := by
  generalize eτ : sj_st σ 56 0 (nI 0) = τ
  have hA : ∀ e, e < 8 → τ 57 (108 + e) = nI (dAp D e) := fun e he => by
    rw [← eτ, z_stn (by decide)]; exact hA e he
  refine c_X12_group ok ?_
  unfold wp_X12_group_0
  rw [eτ]
  generalize eR : ((.ok (nI (zGb D 255)), τ) : sj_R) = R
  -- one set
  have one : ∀ (b s : Nat), s < 256 → b < 256 →
      sj_J G 3 me_X12_group R 11 [.ref (sj_ad G 56), .int (nI (if zBc b < zBc s ∧ zIg D s = true then s else b)), .int (nI (zBc (if zBc b < zBc s ∧ zIg D s = true then s else b))), .int (nI (s + 1)), .null, .null, .null, .null] τ [] →
      sj_J G 3 me_X12_group R 27 [.ref (sj_ad G 56), .int (nI b), .int (nI (zBc b)), .int (nI s), .int (nI 0), .int (nI 1), .int (nI 0), .null] τ [] := by
    intro b s hs hbb hend
    generalize eP : (fun e => s.testBit e && q_any (fun o => s.testBit o && !(dAp D e).testBit o) e) = P
    have hP : ∀ e, P e = (s.testBit e && q_any (fun o => s.testBit o && !(dAp D e).testBit o) e) := fun e => by rw [← eP]
    have outer : ∀ k e, e + k = 8 → sj_J G 3 me_X12_group R 27 [.ref (sj_ad G 56), .int (nI b), .int (nI (zBc b)), .int (nI s), .int (nI (q_cnt (fun i => s.testBit i) e)), .int (zbI (!q_any P e)), .int (nI e), .null] τ [] := by
      intro k
      induction k with
      | zero =>
        intro e he
        obtain rfl : e = 8 := by omega
        refine t_X12_group_27 ⟨fun _ => ?_, fun q => absurd (by decide) q⟩
        have hz : zIg D s = !q_any P 8 := by rw [← eP]; rfl
        unfold wp_X12_group_120
        rw [← hz, nI_add]
        have l1 : zBc s ≤ 8 := q_cnt_le _ 8
        have l2 : zBc b ≤ 8 := q_cnt_le _ 8
        cases hi : zIg D s with
        | false =>
          rw [if_pos (by decide : zbI false = 0), if_pos (by decide : zbI false = 0)]
          rw [if_neg (fun h => absurd h.2 (by rw [hi]; decide))] at hend
          exact hend
        | true =>
          rw [if_neg (by decide : ¬ zbI true = 0), if_neg (by decide : ¬ zbI true = 0)]
          by_cases q : zBc b < zBc s
          · rw [if_pos ⟨q, hi⟩] at hend
            have q2 : nI (zBc b) < nI (q_cnt (fun i => s.testBit i) 8) := nI_lt q (Nat.lt_of_le_of_lt l1 (by decide))
            rw [if_pos q2, if_pos q2]
            exact hend
          · rw [if_neg (fun h => q h.1)] at hend
            have q2 : ¬ nI (zBc b) < nI (q_cnt (fun i => s.testBit i) 8) := nI_nlt (Nat.le_of_not_lt q) (by omega)
            rw [if_neg q2, if_neg q2]
            exact hend
      | succ k ih =>
        intro e he
        have h1 := ih (e + 1) (by omega)
        have hcn : q_cnt (fun i => s.testBit i) e ≤ e := q_cnt_le _ e
        refine t_X12_group_27 ⟨fun q => absurd q (nI_ge (by omega) (by omega)), fun _ => ⟨fun q => ?_, fun q => ?_⟩⟩
        · rw [z_bit (by omega), z_bn _ _ (by omega), Bool.not_eq_false] at q
          have hcc : q_cnt (fun i => s.testBit i) (e + 1) = q_cnt (fun i => s.testBit i) e + 1 := by
            show q_cnt _ e + (if s.testBit e then 1 else 0) = _
            rw [q]; rfl
          have hPe : P e = q_any (fun o => s.testBit o && !(dAp D e).testBit o) e := by rw [hP, q]; rfl
          rw [nI_add]
          have inner : ∀ k o, o + k = e → sj_J G 3 me_X12_group R 52 [.ref (sj_ad G 56), .int (nI b), .int (nI (zBc b)), .int (nI s), .int (nI (q_cnt (fun i => s.testBit i) e + 1)), .int (zbI (!q_any P e && !q_any (fun o => s.testBit o && !(dAp D e).testBit o) o)), .int (nI e), .int (nI o)] τ [] := by
            intro k
            induction k with
            | zero =>
              intro o ho
              obtain rfl : o = e := by omega
              refine t_X12_group_52 ⟨fun _ => ?_, fun q => absurd (nI_le (by omega) (by omega)) q⟩
              unfold wp_X12_group_95
              rw [nI_add, ← hcc, ← hPe]
              rw [q_any_or, Bool.not_or] at h1
              exact h1
            | succ k ihk =>
              intro o ho
              have h2 := ihk (o + 1) (by omega)
              have ha := y_areApart (σ := τ) ok (t := e) (d := o) (by omega) (by omega)
              rw [hA e (by omega), z_bn _ _ (by omega)] at ha
              refine t_X12_group_52 ⟨fun q => absurd q (nI_ge (by omega) (by omega)), fun _ => ⟨fun q => ?_, fun q => ⟨_, _, ha, ?_⟩⟩⟩
              · rw [z_bit (by omega), z_bn _ _ (by omega)] at q
                unfold wp_X12_group_81 wp_X12_group_86
                rw [nI_add, show (nI 1) = zbI true from rfl, zbI_and, Bool.and_true]
                rw [q_any_or, q] at h2
                simpa using h2
              · rw [z_bit (by omega), z_bn _ _ (by omega), Bool.not_eq_false] at q
                unfold wp_X12_group_86
                have : (if (if (dAp D e).testBit o = true then nI 1 else nI 0) = 0 then nI 0 else nI 1) = zbI ((dAp D e).testBit o) := by
                  cases (dAp D e).testBit o <;> decide
                rw [nI_add, this, zbI_and]
                rw [q_any_or, q] at h2
                have e1 : (!q_any P e && !(q_any (fun o => s.testBit o && !(dAp D e).testBit o) o || (true && !(dAp D e).testBit o))) = (!q_any P e && !q_any (fun o => s.testBit o && !(dAp D e).testBit o) o && (dAp D e).testBit o) := by
                  cases q_any P e <;> cases (dAp D e).testBit o <;> simp
                rw [e1] at h2
                exact h2
          have := inner e 0 (by omega)
          rw [show q_any (fun o => s.testBit o && !(dAp D e).testBit o) 0 = false from rfl] at this
          simpa using this
        · rw [z_bit (by omega), z_bn _ _ (by omega)] at q
          unfold wp_X12_group_95
          have hcc : q_cnt (fun i => s.testBit i) (e + 1) = q_cnt (fun i => s.testBit i) e := by
            show q_cnt _ e + (if s.testBit e then 1 else 0) = _
            rw [q]; rfl
          have hPe : P e = false := by rw [hP, q]; rfl
          rw [nI_add]
          rw [hcc, q_any_or, hPe, Bool.or_false] at h1
          exact h1
    exact outer 8 0 (by omega)
  have key : ∀ k i, i + k = 255 → sj_J G 3 me_X12_group R 11 [.ref (sj_ad G 56), .int (nI (zGb D i)), .int (nI (zBc (zGb D i))), .int (nI (i + 1)), .null, .null, .null, .null] τ [] := by
    intro k
    induction k with
    | zero =>
      intro i hi
      obtain rfl : i = 255 := by omega
      exact t_X12_group_11 ⟨fun _ => eR.symm, fun q => absurd (by decide) q⟩
    | succ k ih =>
      intro i hi
      have hle := zGb_le D i
      refine t_X12_group_11 ⟨fun q => absurd q (nI_ge (by omega) (by omega)), fun _ => one (zGb D i) (i + 1) (by omega) (by omega) ?_⟩
      exact ih (i + 1) (by omega)
  have h0 := key 255 0 (by omega)
  rw [show zBc (zGb D 0) = 0 from (by decide : zBc 0 = 0)] at h0
  exact h0
theorem p_group (ok : sj_ok G) (h : zA σ) : zPair G (zI2 σ) 5 me_X11_group 3 me_X12_group [] (zcd 0 0 0) σ := by
  obtain ⟨D, T, v, hC, hM, hT⟩ := h.1
  exact ⟨_, _, _, _, c_X11_group ok ⟨_, _, z_greatestGroup ok v hC.2.2.2.2.2.2.2, rfl⟩, y_group ok hM.2.2.2.2.2.2.2, zSame_ok z_ste rfl, zI2_th h⟩
end ZGR
