/-! THE REFERENCE'S SEARCH 1: highest, hours, isTooMuch -/
theorem z_shr1 {s : Nat} (h : s < 512) : nI s >>> (nI 1 &&& 31) = nI (s / 2) := by
  have key : ∀ s, s < 512 → nI s >>> (nI 1 &&& 31) = nI (s / 2) := by decide +kernel
  exact key s h
def zHw (D : zD) (H : Nat → Bool) (s who i : Nat) : Bool := !q_any (fun w => H w && (decide (dSo D w = s) && (decide (dA D w = who) && decide (dB D w = i)))) (dW D)
def zHrs (D : zD) (H : Nat → Bool) (s who : Nat) : Nat := q_cnt (zHw D H s who) 20
def zSmh (D : zD) (P : Nat → Bool) : Nat → Nat
  | 0 => 0
  | n + 1 => zSmh D P n + if P n then 1 + dDb D n else 0
theorem zSmh_le {D : zD} {P : Nat → Bool} (v : okD D) : ∀ n, n ≤ dN D → zSmh D P n ≤ 2 * n := by
  intro n
  induction n with
  | zero => intro _; exact Nat.le_refl 0
  | succ n ih =>
    intro h
    have := ih (by omega)
    have := (v.2.2.2.1 n (by omega)).2.2.2.2
    show zSmh D P n + (if P n then 1 + dDb D n else 0) ≤ 2 * (n + 1)
    split <;> omega
theorem q_cnt_dis {A B : Nat → Bool} : ∀ n, (∀ i, i < n → A i = true → B i = false) → q_cnt (fun i => A i || B i) n = q_cnt A n + q_cnt B n := by
  intro n
  induction n with
  | zero => intro _; rfl
  | succ n ih =>
    intro h
    rw [q_cnt_s, q_cnt_s, q_cnt_s, ih (fun i hi => h i (by omega))]
    cases hA : A n
    · cases hB : B n
      · rfl
      · simp only [Bool.or_true, if_true, Bool.false_eq_true, if_false]; omega
    · rw [h n (by omega) hA]
      simp only [Bool.or_false, if_true, Bool.false_eq_true, if_false]; omega
theorem q_cnt_1 {k : Nat} : ∀ n, q_cnt (fun i => decide (i = k)) n = if k < n then 1 else 0 := by
  intro n
  induction n with
  | zero => rfl
  | succ n ih =>
    rw [q_cnt_s, ih]
    by_cases e : n = k
    · subst e
      rw [decide_eq_true rfl, if_neg (by omega), if_pos rfl, if_pos (by omega)]
    · rw [decide_eq_false e, if_neg (by decide : ¬ false = true)]
      by_cases q : k < n
      · rw [if_pos q, if_pos (by omega)]
      · rw [if_neg q, if_neg (by omega)]
theorem zSmh_cnt {D : zD} {T : Nat → Nat} {P : Nat → Bool} (v : okD D) (hT : ∀ l, l < dN D → T l < 20 ∧ ¬ (dDb D l = 1 ∧ T l % 4 = 3)) (hd : ∀ l o, l < dN D → o < l → P l = true → P o = true → zMt (dDb D l) (T l) (dDb D o) (T o) = false) : ∀ n, n ≤ dN D → q_cnt (fun i => q_any (fun o => P o && zTk D T o i) n) 20 = zSmh D P n := by
  intro n
  induction n with
  | zero =>
    intro _
    exact Nat.le_zero.mp (Nat.le_trans (q_cnt_mon (r := fun _ => false) 20 (fun i _ h => h)) (by decide))
  | succ n ih =>
    intro hn
    obtain ⟨t1, t2⟩ := hT n (by omega)
    have db := (v.2.2.2.1 n (by omega)).2.2.2.2
    have e : q_cnt (fun i => q_any (fun o => P o && zTk D T o i) (n + 1)) 20 = q_cnt (fun i => q_any (fun o => P o && zTk D T o i) n || (P n && zTk D T n i)) 20 := rfl
    rw [e, q_cnt_dis 20 (fun i hi h => ?_), ih (by omega)]
    · show _ = zSmh D P n + (if P n then 1 + dDb D n else 0)
      congr 1
      cases P n
      · rw [if_neg (by decide)]
        exact Nat.le_zero.mp (Nat.le_trans (q_cnt_mon (r := fun _ => false) 20 (fun i _ h => h)) (by decide))
      · rw [if_pos rfl]
        have e2 : q_cnt (fun i => true && zTk D T n i) 20 = q_cnt (fun i => decide (i = T n) || (decide (dDb D n = 1) && decide (i = T n + 1))) 20 := rfl
        rw [e2, q_cnt_dis 20 (fun i hi h => by
          rw [decide_eq_true_eq] at h
          rw [decide_eq_false (by omega : ¬ i = T n + 1), Bool.and_false]), q_cnt_1, if_pos t1]
        rcases (by omega : dDb D n = 0 ∨ dDb D n = 1) with q | q
        · rw [q]
          have : q_cnt (fun i => decide ((0 : Nat) = 1) && decide (i = T n + 1)) 20 = 0 := Nat.le_zero.mp (Nat.le_trans (q_cnt_mon (r := fun _ => false) 20 (fun i _ h => by simpa using h)) (by decide))
          rw [this]
        · rw [q]
          have : q_cnt (fun i => decide ((1 : Nat) = 1) && decide (i = T n + 1)) 20 = q_cnt (fun i => decide (i = T n + 1)) 20 := q_cnt_congr 20 (fun i _ => by simp)
          rw [this, q_cnt_1, if_pos (by omega)]
    · obtain ⟨o, ho, hp⟩ := q_any_iff n |>.mp h
      rw [Bool.and_eq_true] at hp
      cases hq : P n
      · rfl
      · rw [Bool.true_and]
        have hm := hd n o (by omega) ho hq hp.1
        unfold zMt at hm
        rw [Bool.or_eq_false_iff, Bool.and_eq_false_iff, decide_eq_false_iff_not] at hm
        cases hz : zTk D T n i
        · rfl
        · exfalso
          rw [zTk_td] at hp
          unfold zTk at hz
          rw [Bool.or_eq_true, Bool.and_eq_true, decide_eq_true_eq, decide_eq_true_eq, decide_eq_true_eq] at hz
          rcases hz with x | ⟨x1, x2⟩
          · subst x; rw [hm.1] at hp; exact absurd hp.2 Bool.false_ne_true
          · subst x2
            rcases hm.2 with y | y
            · exact y x1
            · rw [y] at hp; exact absurd hp.2 Bool.false_ne_true
theorem q_cnt_inj {P : Nat → Bool} {f : Nat → Nat} {n m : Nat} (hf : ∀ i, i < n → P i = true → f i < m) (hi : ∀ i j, j < i → i < n → P i = true → P j = true → f i ≠ f j) : q_cnt P n ≤ m := by
  have key : ∀ k, k ≤ n → q_cnt (fun c => q_any (fun i => P i && decide (f i = c)) k) m = q_cnt P k := by
    intro k
    induction k with
    | zero => intro _; exact Nat.le_zero.mp (Nat.le_trans (q_cnt_mon (r := fun _ => false) m (fun i _ h => h)) (by
        have : ∀ m, q_cnt (fun _ => false) m = 0 := fun m => by
          induction m with
          | zero => rfl
          | succ m ih => rw [q_cnt_s, ih]; rfl
        rw [this]; exact Nat.le_refl _))
    | succ k ih =>
      intro hk
      have e : q_cnt (fun c => q_any (fun i => P i && decide (f i = c)) (k + 1)) m = q_cnt (fun c => q_any (fun i => P i && decide (f i = c)) k || (P k && decide (f k = c))) m := rfl
      rw [e, q_cnt_dis m (fun c hc h => ?_), ih (by omega), q_cnt_s]
      · congr 1
        cases hp : P k
        · rw [if_neg (by decide)]
          exact Nat.le_zero.mp (Nat.le_trans (q_cnt_mon (r := fun i => decide (i = m)) m (fun i _ h => by simp at h)) (by rw [q_cnt_1, if_neg (by omega)]; exact Nat.le_refl 0))
        · rw [if_pos rfl]
          have : q_cnt (fun c => true && decide (f k = c)) m = q_cnt (fun c => decide (c = f k)) m := q_cnt_congr m (fun c _ => by rw [Bool.true_and]; exact decide_eq_decide.mpr ⟨Eq.symm, Eq.symm⟩)
          rw [this, q_cnt_1, if_pos (hf k (by omega) hp)]
      · obtain ⟨i, hik, hp⟩ := q_any_iff k |>.mp h
        rw [Bool.and_eq_true, decide_eq_true_eq] at hp
        cases hq : P k
        · rfl
        · rw [Bool.true_and]
          exact decide_eq_false (fun x => hi k i hik (by omega) hq hp.1 (x.trans hp.2.symm))
  rw [← key n (Nat.le_refl n)]
  exact q_cnt_le _ _
theorem zRi_like {D : zD} {H : Nat → Bool} {T : Nat → Nat} (r : zRi D H T) (l : Nat) : q_cnt (fun o => zLike D o l) (dN D) ≤ 5 := by
  refine q_cnt_inj (f := fun o => T o / 4) (fun i hi _ => by have := (r i hi).1; omega) (fun i j hj hi h1 h2 => ?_)
  have hp := (r i hi).2.2.2 j hj
  refine (zPr_iff.mp hp).2.1 ?_
  unfold zLike at h1 h2 ⊢
  simp only [Bool.and_eq_true, decide_eq_true_eq] at h1 h2 ⊢
  omega
theorem zRi_hours {D : zD} {H : Nat → Bool} {T : Nat → Nat} (v : okD D) (r : zRi D H T) {P : Nat → Bool} {s who : Nat} (hs : s ≤ 1) (hP : ∀ o, o < dN D → P o = true → (if s = 0 then dTe D o else dG D o) = who) : zSmh D P (dN D) ≤ zHrs D H s who := by
  rw [← zSmh_cnt (T := T) v (fun l hl => ⟨(r l hl).1, (zSt_iff.mp (r l hl).2.1).1⟩) (fun l o hl ho h1 h2 => ?_) (dN D) (Nat.le_refl _)]
  · refine q_cnt_mon 20 (fun i hi h => ?_)
    obtain ⟨o, ho, hp⟩ := q_any_iff _ |>.mp h
    rw [Bool.and_eq_true] at hp
    unfold zHw
    rw [Bool.not_eq_true', q_any_f]
    intro w hw
    cases q : (H w && (decide (dSo D w = s) && (decide (dA D w = who) && decide (dB D w = i))))
    · rfl
    · exfalso
      simp only [Bool.and_eq_true, decide_eq_true_eq] at q
      obtain ⟨q1, q2, q3, q4⟩ := q
      have q5 : D 8 w = s := q2
      have h1 := (zSt_iff.mp (r o ho).2.1).2 w hw q1 (by omega)
      have h2 : zTk D (fun _ => T o) o i = true := hp.2
      have h3 := hP o ho hp.1
      unfold zF1 at h1
      rcases (by omega : s = 0 ∨ s = 1) with x | x
      · rw [if_pos (show D 8 w = 0 by omega)] at h1
        rw [if_pos x] at h3
        rw [decide_eq_true (show D 4 o = D 9 w from h3.trans q3.symm), show D 10 w = i from q4, h2] at h1
        cases h1
      · rw [if_neg (show ¬ D 8 w = 0 by omega), if_pos (show D 8 w = 1 by omega)] at h1
        rw [if_neg (by omega)] at h3
        rw [decide_eq_true (show D 3 o = D 9 w from h3.trans q3.symm), show D 10 w = i from q4, h2] at h1
        cases h1
  · refine (zPr_iff.mp ((r l hl).2.2.2 o ho)).1 ?_
    have a := hP l hl h1
    have b := hP o (by omega) h2
    unfold zClash
    simp only [Bool.or_eq_true, decide_eq_true_eq]
    split at a <;> split at b <;> omega
section ZHO
variable {G : sj_G} {σ : sj_S} {D : zD} {U : Nat → Bool}
def zHi (s : Nat) (n : Nat) : Prop := (s = 0 → n = 0) ∧ (s ≠ 0 → 0 < n ∧ s.testBit (n - 1) = true ∧ ∀ i, n ≤ i → s.testBit i = false)
end ZHO
