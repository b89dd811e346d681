/-! THE REFERENCE'S SEARCH 1: highest, hours, isTooMuch -/
theorem z_shr1 {s : Nat} (h : s < 512) : nI s >>> (nI 1 &&& 31) = nI (s / 2) := by
  have key : ∀ s, s < 512 → nI s >>> (nI 1 &&& 31) = nI (s / 2) := by decide +kernel
  exact key s h
def zHw (D : zD) (H : Nat → Bool) (s who i : Nat) : Bool := !q_any (fun w => H w && (decide (dSo D w = s) && (decide (dA D w = who) && decide (dB D w = i)))) (dW D)
/-- the slots that a class or a teacher may have -/
def zHrs (D : zD) (H : Nat → Bool) (s who : Nat) : Nat := q_cnt (zHw D H s who) 20
/-- hours of those of P below n -/
def zSmh (D : zD) (P : Nat → Bool) : Nat → Nat
  | 0 => 0
  | n + 1 => zSmh D P n + if P n then 1 + dDb D n else 0
theorem zSmh_le {D : zD} {P : Nat → Bool} (v : okD D) : ∀ n, n ≤ dN D → zSmh D P n ≤ 2 * n := by
  intro n
  induction n with
  | zero => intro _; exact Nat.le_refl 0
  | succ n ih =>
    intro h
    have := ih (by omega)
    have := (v.2.2.2.1 n (by omega)).2.2.2.2
    show zSmh D P n + (if P n then 1 + dDb D n else 0) ≤ 2 * (n + 1)
    split <;> omega
theorem q_cnt_dis {A B : Nat → Bool} : ∀ n, (∀ i, i < n → A i = true → B i = false) → q_cnt (fun i => A i || B i) n = q_cnt A n + q_cnt B n := by
  intro n
  induction n with
  | zero => intro _; rfl
  | succ n ih =>
    intro h
    rw [q_cnt_s, q_cnt_s, q_cnt_s, ih (fun i hi => h i (by omega))]
    cases hA : A n
    · cases hB : B n
      · rfl
      · simp only [Bool.or_true, if_true, Bool.false_eq_true, if_false]; omega
    · rw [h n (by omega) hA]
      simp only [Bool.or_false, if_true, Bool.false_eq_true, if_false]; omega
theorem q_cnt_1 {k : Nat} : ∀ n, q_cnt (fun i => decide (i = k)) n = if k < n then 1 else 0 := by
  intro n
  induction n with
  | zero => rfl
  | succ n ih =>
    rw [q_cnt_s, ih]
    by_cases e : n = k
    · subst e
      rw [decide_eq_true rfl, if_neg (by omega), if_pos rfl, if_pos (by omega)]
    · rw [decide_eq_false e, if_neg (by decide : ¬ false = true)]
      by_cases q : k < n
      · rw [if_pos q, if_pos (by omega)]
      · rw [if_neg q, if_neg (by omega)]
/-- lessons that never meet take no more than the slots they may have -/
theorem zSmh_cnt {D : zD} {T : Nat → Nat} {P : Nat → Bool} (v : okD D) (hT : ∀ l, l < dN D → T l < 20 ∧ ¬ (dDb D l = 1 ∧ T l % 4 = 3)) (hd : ∀ l o, l < dN D → o < l → P l = true → P o = true → zMt (dDb D l) (T l) (dDb D o) (T o) = false) : ∀ n, n ≤ dN D → q_cnt (fun i => q_any (fun o => P o && zTk D T o i) n) 20 = zSmh D P n := by
  intro n
  induction n with
  | zero =>
    intro _
    exact Nat.le_zero.mp (Nat.le_trans (q_cnt_mon (r := fun _ => false) 20 (fun i _ h => h)) (by decide))
  | succ n ih =>
    intro hn
    obtain ⟨t1, t2⟩ := hT n (by omega)
    have db := (v.2.2.2.1 n (by omega)).2.2.2.2
    have e : q_cnt (fun i => q_any (fun o => P o && zTk D T o i) (n + 1)) 20 = q_cnt (fun i => q_any (fun o => P o && zTk D T o i) n || (P n && zTk D T n i)) 20 := rfl
    rw [e, q_cnt_dis 20 (fun i hi h => ?_), ih (by omega)]
    · show _ = zSmh D P n + (if P n then 1 + dDb D n else 0)
      congr 1
      cases P n
      · rw [if_neg (by decide)]
        exact Nat.le_zero.mp (Nat.le_trans (q_cnt_mon (r := fun _ => false) 20 (fun i _ h => h)) (by decide))
      · rw [if_pos rfl]
        have e2 : q_cnt (fun i => true && zTk D T n i) 20 = q_cnt (fun i => decide (i = T n) || (decide (dDb D n = 1) && decide (i = T n + 1))) 20 := rfl
        rw [e2, q_cnt_dis 20 (fun i hi h => by
          rw [decide_eq_true_eq] at h
          rw [decide_eq_false (by omega : ¬ i = T n + 1), Bool.and_false]), q_cnt_1, if_pos t1]
        rcases (by omega : dDb D n = 0 ∨ dDb D n = 1) with q | q
        · rw [q]
          have : q_cnt (fun i => decide ((0 : Nat) = 1) && decide (i = T n + 1)) 20 = 0 := Nat.le_zero.mp (Nat.le_trans (q_cnt_mon (r := fun _ => false) 20 (fun i _ h => by simpa using h)) (by decide))
          rw [this]
        · rw [q]
          have : q_cnt (fun i => decide ((1 : Nat) = 1) && decide (i = T n + 1)) 20 = q_cnt (fun i => decide (i = T n + 1)) 20 := q_cnt_congr 20 (fun i _ => by simp)
          rw [this, q_cnt_1, if_pos (by omega)]
    · obtain ⟨o, ho, hp⟩ := q_any_iff n |>.mp h
      rw [Bool.and_eq_true] at hp
      cases hq : P n
      · rfl
      · rw [Bool.true_and]
        have hm := hd n o (by omega) ho hq hp.1
        unfold zMt at hm
        rw [Bool.or_eq_false_iff, Bool.and_eq_false_iff, decide_eq_false_iff_not] at hm
        cases hz : zTk D T n i
        · rfl
        · exfalso
          rw [zTk_td] at hp
          unfold zTk at hz
          rw [Bool.or_eq_true, Bool.and_eq_true, decide_eq_true_eq, decide_eq_true_eq, decide_eq_true_eq] at hz
          rcases hz with x | ⟨x1, x2⟩
          · subst x; rw [hm.1] at hp; exact absurd hp.2 Bool.false_ne_true
          · subst x2
            rcases hm.2 with y | y
            · exact y x1
            · rw [y] at hp; exact absurd hp.2 Bool.false_ne_true
theorem q_cnt_inj {P : Nat → Bool} {f : Nat → Nat} {n m : Nat} (hf : ∀ i, i < n → P i = true → f i < m) (hi : ∀ i j, j < i → i < n → P i = true → P j = true → f i ≠ f j) : q_cnt P n ≤ m := by
  have key : ∀ k, k ≤ n → q_cnt (fun c => q_any (fun i => P i && decide (f i = c)) k) m = q_cnt P k := by
    intro k
    induction k with
    | zero => intro _; exact Nat.le_zero.mp (Nat.le_trans (q_cnt_mon (r := fun _ => false) m (fun i _ h => h)) (by
        have : ∀ m, q_cnt (fun _ => false) m = 0 := fun m => by
          induction m with
          | zero => rfl
          | succ m ih => rw [q_cnt_s, ih]; rfl
        rw [this]; exact Nat.le_refl _))
    | succ k ih =>
      intro hk
      have e : q_cnt (fun c => q_any (fun i => P i && decide (f i = c)) (k + 1)) m = q_cnt (fun c => q_any (fun i => P i && decide (f i = c)) k || (P k && decide (f k = c))) m := rfl
      rw [e, q_cnt_dis m (fun c hc h => ?_), ih (by omega), q_cnt_s]
      · congr 1
        cases hp : P k
        · rw [if_neg (by decide)]
          exact Nat.le_zero.mp (Nat.le_trans (q_cnt_mon (r := fun i => decide (i = m)) m (fun i _ h => by simp at h)) (by rw [q_cnt_1, if_neg (by omega)]; exact Nat.le_refl 0))
        · rw [if_pos rfl]
          have : q_cnt (fun c => true && decide (f k = c)) m = q_cnt (fun c => decide (c = f k)) m := q_cnt_congr m (fun c _ => by rw [Bool.true_and]; exact decide_eq_decide.mpr ⟨Eq.symm, Eq.symm⟩)
          rw [this, q_cnt_1, if_pos (hf k (by omega) hp)]
      · obtain ⟨i, hik, hp⟩ := q_any_iff k |>.mp h
        rw [Bool.and_eq_true, decide_eq_true_eq] at hp
        cases hq : P k
        · rfl
        · rw [Bool.true_and]
          exact decide_eq_false (fun x => hi k i hik (by omega) hq hp.1 (x.trans hp.2.symm))
  rw [← key n (Nat.le_refl n)]
  exact q_cnt_le _ _
/-- a right table is never too much -/
theorem zRi_like {D : zD} {H : Nat → Bool} {T : Nat → Nat} (r : zRi D H T) (l : Nat) : q_cnt (fun o => zLike D o l) (dN D) ≤ 5 := by
  refine q_cnt_inj (f := fun o => T o / 4) (fun i hi _ => by have := (r i hi).1; omega) (fun i j hj hi h1 h2 => ?_)
  have hp := (r i hi).2.2.2 j hj
  refine (zPr_iff.mp hp).2.1 ?_
  unfold zLike at h1 h2 ⊢
  simp only [Bool.and_eq_true, decide_eq_true_eq] at h1 h2 ⊢
  omega
theorem zRi_hours {D : zD} {H : Nat → Bool} {T : Nat → Nat} (v : okD D) (r : zRi D H T) {P : Nat → Bool} {s who : Nat} (hs : s ≤ 1) (hP : ∀ o, o < dN D → P o = true → (if s = 0 then dTe D o else dG D o) = who) : zSmh D P (dN D) ≤ zHrs D H s who := by
  rw [← zSmh_cnt (T := T) v (fun l hl => ⟨(r l hl).1, (zSt_iff.mp (r l hl).2.1).1⟩) (fun l o hl ho h1 h2 => ?_) (dN D) (Nat.le_refl _)]
  · refine q_cnt_mon 20 (fun i hi h => ?_)
    obtain ⟨o, ho, hp⟩ := q_any_iff _ |>.mp h
    rw [Bool.and_eq_true] at hp
    unfold zHw
    rw [Bool.not_eq_true', q_any_f]
    intro w hw
    cases q : (H w && (decide (dSo D w = s) && (decide (dA D w = who) && decide (dB D w = i))))
    · rfl
    · exfalso
      simp only [Bool.and_eq_true, decide_eq_true_eq] at q
      obtain ⟨q1, q2, q3, q4⟩ := q
      have q5 : D 8 w = s := q2
      have h1 := (zSt_iff.mp (r o ho).2.1).2 w hw q1 (by omega)
      have h2 : zTk D (fun _ => T o) o i = true := hp.2
      have h3 := hP o ho hp.1
      unfold zF1 at h1
      rcases (by omega : s = 0 ∨ s = 1) with x | x
      · rw [if_pos (show D 8 w = 0 by omega)] at h1
        rw [if_pos x] at h3
        rw [decide_eq_true (show D 4 o = D 9 w from h3.trans q3.symm), show D 10 w = i from q4, h2] at h1
        cases h1
      · rw [if_neg (show ¬ D 8 w = 0 by omega), if_pos (show D 8 w = 1 by omega)] at h1
        rw [if_neg (by omega)] at h3
        rw [decide_eq_true (show D 3 o = D 9 w from h3.trans q3.symm), show D 10 w = i from q4, h2] at h1
        cases h1
  · refine (zPr_iff.mp ((r l hl).2.2.2 o ho)).1 ?_
    have a := hP l hl h1
    have b := hP o (by omega) h2
    unfold zClash
    simp only [Bool.or_eq_true, decide_eq_true_eq]
    split at a <;> split at b <;> omega
section ZHO
variable {G : sj_G} {σ : sj_S} {D : zD} {U : Nat → Bool}
/-- the highest bit -/
def zHi (s : Nat) (n : Nat) : Prop := (s = 0 → n = 0) ∧ (s ≠ 0 → 0 < n ∧ s.testBit (n - 1) = true ∧ ∀ i, n ≤ i → s.testBit i = false)
theorem y_highest (ok : sj_ok G) {s : Nat} (h : s < 512) : ∃ n, sj_C G 2 me_X12_highest [.int (nI s)] σ (.ok (zk n), σ) ∧ zHi s n := by
  have key : ∀ k s m, s < 2 ^ k → s < 512 → ∃ n, sj_J G 2 me_X12_highest (.ok (zk (m + n)), σ) 4 [.null, .int (zk m), .int (nI s)] σ [] ∧ zHi s n := by
    intro k
    induction k with
    | zero =>
      intro s m h1 h2
      obtain rfl : s = 0 := by omega
      exact ⟨0, t_X12_highest_4 ⟨fun _ => rfl, fun q => absurd (nI_le (Nat.le_refl 0) (by decide)) q⟩, fun _ => rfl, fun q => absurd rfl q⟩
    | succ k ih =>
      intro s m h1 h2
      by_cases e : s = 0
      · subst e
        exact ⟨0, t_X12_highest_4 ⟨fun _ => rfl, fun q => absurd (nI_le (Nat.le_refl 0) (by decide)) q⟩, fun _ => rfl, fun q => absurd rfl q⟩
      · obtain ⟨n, n1, n2, n3⟩ := ih (s / 2) (m + 1) (by omega) (by omega)
        refine ⟨n + 1, t_X12_highest_4 ⟨fun q => absurd q (nI_ge (a := 0) (by omega) (by omega)), fun _ => ?_⟩, fun q => absurd q e, fun _ => ?_⟩
        · have ez : zk m + nI 1 = zk (m + 1) := by rw [← z_m1k m, ← z_m1k (m + 1), Int32.add_assoc, Int32.add_comm (-1), ← Int32.add_assoc, nI_add]
          rw [z_shr1 h2, ez, show m + (n + 1) = m + 1 + n by omega]
          exact n1
        · by_cases q : s / 2 = 0
          · have := n2 q
            subst this
            obtain rfl : s = 1 := by omega
            refine ⟨by omega, by decide, fun i hi => ?_⟩
            obtain ⟨j, rfl⟩ : ∃ j, i = j + 1 := ⟨i - 1, by omega⟩
            rw [Nat.testBit_add_one, show 1 / 2 = 0 from rfl, Nat.zero_testBit]
          · obtain ⟨p1, p2, p3⟩ := n3 q
            refine ⟨by omega, ?_, fun i hi => ?_⟩
            · rw [show n + 1 - 1 = n - 1 + 1 by omega, Nat.testBit_add_one]
              exact p2
            · obtain ⟨j, rfl⟩ : ∃ j, i = j + 1 := ⟨i - 1, by omega⟩
              rw [Nat.testBit_add_one]
              exact p3 j (by omega)
  obtain ⟨n, n1, n2⟩ := key 9 s 0 h h
  rw [Nat.zero_add] at n1
  exact ⟨n, c_X12_highest ok n1, n2⟩
theorem y_hours (ok : sj_ok G) (hM : repM D (σ 57)) (v : okD D) (hU : zUo D U (σ 60)) {s who : Nat} (hs : s < 2 ^ 31) (hw : who < 2 ^ 31) : sj_C G 3 me_X12_hours [.ref (sj_ad G 56), .int (nI s), .int (nI who)] σ (.ok (nI (zHrs D (zHu D U) s who)), σ) := by
  have h12 := v.2.1
  -- one slot
  have inner : ∀ (R : sj_R) (x3 : Int32) (i : Nat), i < 20 → sj_J G 3 me_X12_hours R 5 [.ref (sj_ad G 56), .int (nI s), .int (nI who), .int (x3 + (if zHw D (zHu D U) s who i then nI 1 else nI 0)), .int (nI (i + 1)), .null, .null] σ [] →
      ∀ k w, w + k = dW D → sj_J G 3 me_X12_hours R 18 [.ref (sj_ad G 56), .int (nI s), .int (nI who), .int x3, .int (nI i), .int (if !q_any (fun w => zHu D U w && (decide (dSo D w = s) && (decide (dA D w = who) && decide (dB D w = i)))) w then nI 1 else nI 0), .int (nI w)] σ [] := by
    intro R x3 i hi hJ k
    induction k with
    | zero =>
      intro w hwk
      obtain rfl : w = dW D := by omega
      refine t_X12_hours_18 ⟨fun _ => ?_, fun q => ?_⟩
      · unfold wp_X12_hours_109
        have e : (if (if !q_any (fun w => zHu D U w && (decide (dSo D w = s) && (decide (dA D w = who) && decide (dB D w = i)))) (dW D) then nI 1 else nI 0) = 0 then nI 0 else nI 1) = if zHw D (zHu D U) s who i then nI 1 else nI 0 := by
          show _ = if !q_any (fun w => zHu D U w && (decide (dSo D w = s) && (decide (dA D w = who) && decide (dB D w = i)))) (dW D) then nI 1 else nI 0
          cases q_any (fun w => zHu D U w && (decide (dSo D w = s) && (decide (dA D w = who) && decide (dB D w = i)))) (dW D) <;> decide
        rw [e, nI_add]
        exact hJ
      · rw [hM.2.1] at q
        exact absurd (nI_le (Nat.le_refl _) (by omega)) q
    | succ k ih =>
      intro w hwk
      obtain ⟨b1, b2, b3, b4, b5, b6, b7⟩ := v.2.2.2.2.1 w (by omega)
      obtain ⟨m1, m2, m3, m4⟩ := hM.2.2.2.2.1 w (by omega)
      have h9 := v.1
      have bA : dA D w < 100 ∧ dB D w < 100 := by
        rcases (by omega : dSo D w = 0 ∨ dSo D w = 1 ∨ dSo D w = 2 ∨ dSo D w = 3 ∨ 4 ≤ dSo D w) with x | x | x | x | x
        · have := b3 x; omega
        · have := b4 x; omega
        · have := b5 x; omega
        · have := b6 x; omega
        · have := b7 x; omega
      refine t_X12_hours_18 ⟨fun q => ?_, fun _ => ⟨_, _, y_isHard ok hM v hU (by omega : w < dW D), ?_⟩⟩
      · rw [hM.2.1] at q
        exact absurd q (nI_ge (by omega) (by omega))
      · unfold wp_X12_hours_89
        rw [nI_add, nI_add, nI_add, nI_add, nI_clamp (by omega), nI_clamp (by omega), nI_clamp (by omega), m1, m2, m3]
        refine ⟨fun _ => z_in (by omega) (by decide), fun _ _ => z_in (by omega) (by decide), fun _ _ _ => z_in (by omega) (by decide), ?_⟩
        have e : ((if !q_any (fun w => zHu D U w && (decide (dSo D w = s) && (decide (dA D w = who) && decide (dB D w = i)))) w then nI 1 else nI 0) &&& (if (if zHu D U w then nI 1 else nI 0) = 0 then nI 1 else (if nI (dSo D w) = nI s then (if nI (dA D w) = nI who then (if nI (dB D w) = nI i then nI 0 else nI 1) else nI 1) else nI 1))) = if !q_any (fun w => zHu D U w && (decide (dSo D w = s) && (decide (dA D w = who) && decide (dB D w = i)))) (w + 1) then nI 1 else nI 0 := by
          have e1 : q_any (fun w => zHu D U w && (decide (dSo D w = s) && (decide (dA D w = who) && decide (dB D w = i)))) (w + 1) = (q_any (fun w => zHu D U w && (decide (dSo D w = s) && (decide (dA D w = who) && decide (dB D w = i)))) w || (zHu D U w && (decide (dSo D w = s) && (decide (dA D w = who) && decide (dB D w = i))))) := rfl
          rw [e1]
          generalize q_any (fun w => zHu D U w && (decide (dSo D w = s) && (decide (dA D w = who) && decide (dB D w = i)))) w = a
          generalize zHu D U w = b
          simp only [nI_eq (show dSo D w < 2 ^ 31 by omega) hs, nI_eq (show dA D w < 2 ^ 31 by omega) hw, nI_eq (show dB D w < 2 ^ 31 by omega) (show i < 2 ^ 31 by omega)]
          by_cases x1 : dSo D w = s
          · by_cases x2 : dA D w = who
            · by_cases x3 : dB D w = i
              · rw [if_pos x1, if_pos x2, if_pos x3, decide_eq_true x1, decide_eq_true x2, decide_eq_true x3]
                cases a <;> cases b <;> decide
              · rw [if_pos x1, if_pos x2, if_neg x3, decide_eq_true x1, decide_eq_true x2, decide_eq_false x3]
                cases a <;> cases b <;> decide
            · rw [if_pos x1, if_neg x2, decide_eq_true x1, decide_eq_false x2]
              generalize decide (dB D w = i) = c
              cases a <;> cases b <;> cases c <;> decide
          · rw [if_neg x1, decide_eq_false x1]
            generalize decide (dB D w = i) = c
            generalize decide (dA D w = who) = d
            cases a <;> cases b <;> cases c <;> cases d <;> decide
        rw [e]
        exact ih (w + 1) (by omega)
  have outer : ∀ k i, i + k = 20 → sj_J G 3 me_X12_hours (.ok (nI (zHrs D (zHu D U) s who)), σ) 5 [.ref (sj_ad G 56), .int (nI s), .int (nI who), .int (nI (q_cnt (zHw D (zHu D U) s who) i)), .int (nI i), .null, .null] σ [] := by
    intro k
    induction k with
    | zero =>
      intro i hi
      obtain rfl : i = 20 := by omega
      exact t_X12_hours_5 ⟨fun _ => rfl, fun q => absurd (nI_le (Nat.le_refl 20) (by decide)) q⟩
    | succ k ih =>
      intro i hi
      refine t_X12_hours_5 ⟨fun q => absurd q (nI_ge (by omega) (by decide)), fun _ => ?_⟩
      refine inner _ _ i (by omega) ?_ (dW D) 0 (by omega)
      have := ih (i + 1) (by omega)
      rw [q_cnt_s] at this
      have e : nI (q_cnt (zHw D (zHu D U) s who) i) + (if zHw D (zHu D U) s who i then nI 1 else nI 0) = nI (q_cnt (zHw D (zHu D U) s who) i + if zHw D (zHu D U) s who i then 1 else 0) := by
        cases zHw D (zHu D U) s who i
        · rw [if_neg (by decide), if_neg (by decide), nI_add]
        · rw [if_pos rfl, if_pos rfl, nI_add]
      rw [e]
      exact this
  exact c_X12_hours ok (outer 20 0 (by decide))
theorem y_isTooMuch (ok : sj_ok G) (hM : repM D (σ 57)) (v : okD D) (hU : zUo D U (σ 60)) : ∃ b : Bool, sj_C G 4 me_X12_isTooMuch [.ref (sj_ad G 56)] σ (.ok (if b then nI 1 else nI 0), σ) ∧ (b = true → ∀ T, ¬ zRi D (zHu D U) T) := by
  have h9 := v.1
  -- one lesson's counts
  have inner : ∀ (l : Nat), l < dN D → ∃ b : Bool, (b = true → ∀ T, ¬ zRi D (zHu D U) T) ∧ ∀ R : sj_R, (b = true → R = (.ok (nI 1), σ)) → (b = false → sj_J G 4 me_X12_isTooMuch R 2 [.ref (sj_ad G 56), .int (nI (l + 1)), .null, .null, .null, .null, .null] σ []) →
      ∀ k o, o + k = dN D → sj_J G 4 me_X12_isTooMuch R 20 [.ref (sj_ad G 56), .int (nI l), .int (nI (q_cnt (fun o => zLike D o l) o)), .int (nI (zSmh D (fun o => decide (dG D o = dG D l)) o)), .int (nI (zSmh D (fun o => decide (dTe D o = dTe D l)) o)), .int (nI o), .null] σ [] := by
    intro l hl
    obtain ⟨p1, p2, p3, p4, p5⟩ := v.2.2.2.1 l hl
    obtain ⟨g1, g2, g3, g4, g5⟩ := hM.2.2.2.1 l hl
    have hb : ((5 < q_cnt (fun o => zLike D o l) (dN D) ∨ zHrs D (zHu D U) 1 (dG D l) < zSmh D (fun o => decide (dG D o = dG D l)) (dN D) ∨ zHrs D (zHu D U) 0 (dTe D l) < zSmh D (fun o => decide (dTe D o = dTe D l)) (dN D)) → ∀ T, ¬ zRi D (zHu D U) T) := by
      intro h T r
      have a := zRi_like r l
      have b := zRi_hours (P := fun o => decide (dG D o = dG D l)) (s := 1) (who := dG D l) v r (by omega) (fun o ho h => by rw [if_neg (by omega)]; exact of_decide_eq_true h)
      have c := zRi_hours (P := fun o => decide (dTe D o = dTe D l)) (s := 0) (who := dTe D l) v r (by omega) (fun o ho h => by rw [if_pos rfl]; exact of_decide_eq_true h)
      omega
    refine ⟨decide (5 < q_cnt (fun o => zLike D o l) (dN D) ∨ zHrs D (zHu D U) 1 (dG D l) < zSmh D (fun o => decide (dG D o = dG D l)) (dN D) ∨ zHrs D (zHu D U) 0 (dTe D l) < zSmh D (fun o => decide (dTe D o = dTe D l)) (dN D)), fun h => hb (of_decide_eq_true h), fun R hR1 hR0 => ?_⟩
    intro k
    induction k with
    | zero =>
      intro o ho
      obtain rfl : o = dN D := by omega
      have c1 : q_cnt (fun o => zLike D o l) (dN D) ≤ dN D := q_cnt_le _ _
      have c2 := zSmh_le (P := fun o => decide (dG D o = dG D l)) v (dN D) (Nat.le_refl _)
      have c3 := zSmh_le (P := fun o => decide (dTe D o = dTe D l)) v (dN D) (Nat.le_refl _)
      have c4 : zHrs D (zHu D U) 1 (dG D l) ≤ 20 := q_cnt_le _ _
      have c5 : zHrs D (zHu D U) 0 (dTe D l) ≤ 20 := q_cnt_le _ _
      have k0 : ((nI 0) + (nI l)).toNatClampNeg = 0 + l := by rw [nI_add, nI_clamp (by omega)]
      have k9 : ((nI 9) + (nI l)).toNatClampNeg = 9 + l := by rw [nI_add, nI_clamp (by omega)]
      have v0 : vp_in ((nI 0) + (nI l)) 128 := by rw [nI_add]; exact z_in (by omega) (by decide)
      have v9 : vp_in ((nI 9) + (nI l)) 128 := by rw [nI_add]; exact z_in (by omega) (by decide)
      refine t_X12_isTooMuch_20 ⟨_, _, y_many ok, fun _ => ⟨fun q => hR1 (decide_eq_true (Or.inl ((nI_ltI (by omega) (by omega)).mp q))), fun q1 => ⟨v0, _, _, by rw [k0, g1]; exact y_hours ok hM v hU (by omega) (by omega), fun q => hR1 (decide_eq_true (Or.inr (Or.inl ((nI_ltI (by omega) (by omega)).mp q)))), fun q2 => ⟨v9, _, _, by rw [k9, g2]; exact y_hours ok hM v hU (by omega) (by omega), fun q3 => ?_, fun q => hR1 (decide_eq_true (Or.inr (Or.inr (by rw [nI_leI (by omega) (by omega)] at q; omega))))⟩⟩⟩, fun q => ?_⟩
      · rw [nI_add]
        rw [nI_ltI (by omega) (by omega)] at q1 q2
        rw [nI_leI (by omega) (by omega)] at q3
        exact hR0 (decide_eq_false (by omega))
      · rw [hM.1] at q
        exact absurd (nI_le (Nat.le_refl _) (by omega)) q
    | succ k ih =>
      intro o ho
      obtain ⟨o1, o2, o3, o4, o5⟩ := v.2.2.2.1 o (by omega)
      obtain ⟨f1, f2, f3, f4, f5⟩ := hM.2.2.2.1 o (by omega)
      refine t_X12_isTooMuch_20 ⟨_, _, y_many ok, fun q => ?_, fun _ => ?_⟩
      · rw [hM.1] at q
        exact absurd q (nI_ge (by omega) (by omega))
      · unfold wp_X12_isTooMuch_54 wp_X12_isTooMuch_89 wp_X12_isTooMuch_113 wp_X12_isTooMuch_155
        simp only [nI_add, nI_clamp (show 0 + o < 2 ^ 31 by omega), nI_clamp (show 0 + l < 2 ^ 31 by omega), nI_clamp (show 9 + o < 2 ^ 31 by omega), nI_clamp (show 9 + l < 2 ^ 31 by omega), nI_clamp (show 18 + o < 2 ^ 31 by omega), nI_clamp (show 18 + l < 2 ^ 31 by omega), nI_clamp (show 36 + o < 2 ^ 31 by omega), f1, f2, f3, f5, g1, g2, g3]
        refine ⟨z_in (by omega) (by decide), z_in (by omega) (by decide), fun _ => ⟨z_in (by omega) (by decide), z_in (by omega) (by decide)⟩, fun _ => z_in (by omega) (by decide), z_in (by omega) (by decide), z_in (by omega) (by decide), fun _ => z_in (by omega) (by decide), ?_⟩
        have e1 : (nI (q_cnt (fun o => zLike D o l) o) + (if (if nI (dG D o) = nI (dG D l) then nI 1 else nI 0) = 0 then nI 0 else (if nI (dSu D o) = nI (dSu D l) then nI 1 else nI 0))) = nI (q_cnt (fun o => zLike D o l) (o + 1)) := by
          rw [q_cnt_s]
          unfold zLike
          simp only [nI_eq (show dG D o < 2 ^ 31 by omega) (show dG D l < 2 ^ 31 by omega), nI_eq (show dSu D o < 2 ^ 31 by omega) (show dSu D l < 2 ^ 31 by omega)]
          by_cases x : dG D o = dG D l
          · rw [if_pos x, if_neg z_10, decide_eq_true x]
            by_cases y : dSu D o = dSu D l
            · rw [if_pos y, decide_eq_true y, nI_add]; rfl
            · rw [if_neg y, decide_eq_false y, nI_add]; rfl
          · rw [if_neg x, if_pos z_00, decide_eq_false x, nI_add]; rfl
        have e2 : (nI (zSmh D (fun o => decide (dG D o = dG D l)) o) + (if (if nI (dG D o) = nI (dG D l) then nI 1 else nI 0) = 0 then nI 0 else nI (1 + dDb D o))) = nI (zSmh D (fun o => decide (dG D o = dG D l)) (o + 1)) := by
          show _ = nI (zSmh D (fun o => decide (dG D o = dG D l)) o + if decide (dG D o = dG D l) then 1 + dDb D o else 0)
          simp only [nI_eq (show dG D o < 2 ^ 31 by omega) (show dG D l < 2 ^ 31 by omega)]
          by_cases x : dG D o = dG D l
          · rw [if_pos x, if_neg z_10, decide_eq_true x, nI_add, if_pos rfl]
          · rw [if_neg x, if_pos z_00, decide_eq_false x, nI_add, if_neg (by decide)]
        have e3 : (nI (zSmh D (fun o => decide (dTe D o = dTe D l)) o) + (if nI (dTe D o) = nI (dTe D l) then nI (1 + dDb D o) else nI 0)) = nI (zSmh D (fun o => decide (dTe D o = dTe D l)) (o + 1)) := by
          show _ = nI (zSmh D (fun o => decide (dTe D o = dTe D l)) o + if decide (dTe D o = dTe D l) then 1 + dDb D o else 0)
          simp only [nI_eq (show dTe D o < 2 ^ 31 by omega) (show dTe D l < 2 ^ 31 by omega)]
          by_cases x : dTe D o = dTe D l
          · rw [if_pos x, decide_eq_true x, nI_add, if_pos rfl]
          · rw [if_neg x, decide_eq_false x, nI_add, if_neg (by decide)]
        rw [e1, e2, e3]
        exact ih (o + 1) (by omega)
  -- lesson by lesson
  have outer : ∀ k l, l + k = dN D → ∃ b : Bool, sj_J G 4 me_X12_isTooMuch (.ok (if b then nI 1 else nI 0), σ) 2 [.ref (sj_ad G 56), .int (nI l), .null, .null, .null, .null, .null] σ [] ∧ (b = true → ∀ T, ¬ zRi D (zHu D U) T) := by
    intro k
    induction k with
    | zero =>
      intro l hl
      obtain rfl : l = dN D := by omega
      refine ⟨false, t_X12_isTooMuch_2 ⟨_, _, y_many ok, fun _ => rfl, fun q => ?_⟩, fun q => (by cases q)⟩
      rw [hM.1] at q
      exact absurd (nI_le (Nat.le_refl _) (by omega)) q
    | succ k ih =>
      intro l hl
      obtain ⟨b, b1, b2⟩ := inner l (by omega)
      obtain ⟨c, c1, c2⟩ := ih (l + 1) (by omega)
      have go : ∀ R : sj_R, (b = true → R = (.ok (nI 1), σ)) → (b = false → sj_J G 4 me_X12_isTooMuch R 2 [.ref (sj_ad G 56), .int (nI (l + 1)), .null, .null, .null, .null, .null] σ []) → sj_J G 4 me_X12_isTooMuch R 2 [.ref (sj_ad G 56), .int (nI l), .null, .null, .null, .null, .null] σ [] := fun R h1 h0 => by
        refine t_X12_isTooMuch_2 ⟨_, _, y_many ok, fun q => ?_, fun _ => b2 R h1 h0 (dN D) 0 (by omega)⟩
        rw [hM.1] at q
        exact absurd q (nI_ge (by omega) (by omega))
      cases hb : b
      · exact ⟨c, go _ (fun q => by rw [hb] at q; cases q) (fun _ => c1), c2⟩
      · exact ⟨true, go _ (fun _ => rfl) (fun q => by rw [hb] at q; cases q), fun _ => b1 hb⟩
  obtain ⟨b, b1, b2⟩ := outer (dN D) 0 (by omega)
  exact ⟨b, c_X12_isTooMuch ok b1, b2⟩
end ZHO
