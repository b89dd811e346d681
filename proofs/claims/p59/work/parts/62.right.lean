/-! RIGHT TABLES: lesson by lesson, pair by pair -/
def q_any (p : Nat → Bool) : Nat → Bool
  | 0 => false
  | n + 1 => q_any p n || p n
theorem q_any_iff {p : Nat → Bool} : ∀ n, q_any p n = true ↔ ∃ i, i < n ∧ p i = true := by
  intro n
  induction n with
  | zero => exact ⟨fun h => absurd h Bool.false_ne_true, fun ⟨i, h, _⟩ => absurd h (Nat.not_lt_zero i)⟩
  | succ n ih =>
    show (q_any p n || p n) = true ↔ _
    rw [Bool.or_eq_true, ih]
    constructor
    · rintro (⟨i, h1, h2⟩ | h)
      · exact ⟨i, by omega, h2⟩
      · exact ⟨n, by omega, h⟩
    · rintro ⟨i, h1, h2⟩
      by_cases e : i = n
      · subst e; exact Or.inr h2
      · exact Or.inl ⟨i, by omega, h2⟩
theorem q_any_f {p : Nat → Bool} {n : Nat} : q_any p n = false ↔ ∀ i, i < n → p i = false := by
  rw [← Bool.not_eq_true, q_any_iff]
  constructor
  · intro h i hi
    cases hp : p i
    · rfl
    · exact absurd ⟨i, hi, hp⟩ h
  · rintro h ⟨i, hi, hp⟩
    rw [h i hi] at hp
    cases hp
theorem q_any_congr {p r : Nat → Bool} : ∀ n, (∀ i, i < n → p i = r i) → q_any p n = q_any r n := by
  intro n
  induction n with
  | zero => intro _; rfl
  | succ n ih =>
    intro h
    show (q_any p n || p n) = (q_any r n || r n)
    rw [ih (fun i hi => h i (by omega)), h n (by omega)]
theorem q_cnt_rm {p : Nat → Bool} {l : Nat} : ∀ n, l < n → p l = true → q_cnt p n = q_cnt (fun o => !decide (o = l) && p o) n + 1 := by
  have key : ∀ n, n ≤ l → q_cnt (fun o => !decide (o = l) && p o) n = q_cnt p n := fun n hn => q_cnt_congr n (fun i hi => by
    rw [decide_eq_false (by omega)]; rfl)
  intro n
  induction n with
  | zero => intro h; exact absurd h (Nat.not_lt_zero l)
  | succ n ih =>
    intro h hp
    show q_cnt p n + (if p n then 1 else 0) = q_cnt (fun o => !decide (o = l) && p o) n + (if (!decide (n = l) && p n) then 1 else 0) + 1
    by_cases e : n = l
    · subst e
      rw [key n (Nat.le_refl n), hp, decide_eq_true rfl]
      simp
    · rw [ih (by omega) hp, decide_eq_false e]
      simp only [Bool.not_false, Bool.true_and]
      omega
theorem q_cnt_mon {p r : Nat → Bool} : ∀ n, (∀ i, i < n → p i = true → r i = true) → q_cnt p n ≤ q_cnt r n := by
  intro n
  induction n with
  | zero => intro _; exact Nat.le_refl 0
  | succ n ih =>
    intro h
    have h1 := ih (fun i hi => h i (by omega))
    show q_cnt p n + (if p n then 1 else 0) ≤ q_cnt r n + (if r n then 1 else 0)
    cases hp : p n
    · rw [if_neg (by decide)]; omega
    · rw [h n (by omega) hp]; simp only [if_true]; omega
def zTd (d j i : Nat) : Bool := decide (i = j) || (decide (d = 1) && decide (i = j + 1))
def zMt (d i e j : Nat) : Bool := zTd e j i || (decide (d = 1) && zTd e j (i + 1))
def zTwo (s x y : Nat) : Bool := if s = 4 then decide (x / 4 = y / 4) else if s = 5 then !decide (x / 4 = y / 4) else decide (x < y)
def zPw (D : zD) (H : Nat → Bool) (l i o j w : Nat) : Bool := !(H w && decide (4 ≤ dSo D w) && ((decide (dA D w = l) && decide (dB D w = o) && !zTwo (dSo D w) i j) || (decide (dA D w = o) && decide (dB D w = l) && !zTwo (dSo D w) j i)))
def zClash (D : zD) (l o : Nat) : Bool := decide (dG D l = dG D o) || decide (dTe D l = dTe D o)
def zLike (D : zD) (l o : Nat) : Bool := decide (dG D l = dG D o) && decide (dSu D l = dSu D o)
def zPr (D : zD) (H : Nat → Bool) (l i o j : Nat) : Bool := !(zClash D l o && zMt (dDb D l) i (dDb D o) j) && !(zLike D l o && decide (i / 4 = j / 4)) && !q_any (fun w => !zPw D H l i o j w) (dW D)
def zSt (D : zD) (H : Nat → Bool) (l i : Nat) : Bool := !(decide (dDb D l = 1) && decide (i % 4 = 3)) && !q_any (fun w => H w && decide (dSo D w ≤ 3) && !zF1 D (fun _ => i) w l) (dW D)
def zCn (D : zD) (T : Nat → Nat) (l i f : Nat) : Nat := q_cnt (fun o => !decide (o = l) && (decide (dKi D o = dKi D l) && zTk D T o i)) f
def zRm (D : zD) (T : Nat → Nat) (l i f : Nat) : Bool := decide (dKi D l = 0) || (decide (zCn D T l i f + 1 ≤ dRo D (dKi D l - 1)) && (!decide (dDb D l = 1) || decide (zCn D T l (i + 1) f + 1 ≤ dRo D (dKi D l - 1))))
def zRi (D : zD) (H : Nat → Bool) (T : Nat → Nat) : Prop := ∀ l, l < dN D → T l < 20 ∧ zSt D H l (T l) = true ∧ zRm D T l (T l) (dN D) = true ∧ ∀ o, o < l → zPr D H l (T l) o (T o) = true
theorem zTk_td (D : zD) (T : Nat → Nat) (l i : Nat) : zTk D T l i = zTd (dDb D l) (T l) i := rfl
theorem zMt_comm (d i e j : Nat) : zMt d i e j = zMt e j d i := by
  rw [Bool.eq_iff_iff]
  unfold zMt zTd
  simp only [Bool.or_eq_true, Bool.and_eq_true, decide_eq_true_eq]
  omega
theorem zMeet_mt (D : zD) (T : Nat → Nat) (l o : Nat) : zMeet D T l o = zMt (dDb D l) (T l) (dDb D o) (T o) := by
  rw [zMt_comm]
  rfl
theorem zClash_comm (D : zD) (l o : Nat) : zClash D l o = zClash D o l := by
  rw [Bool.eq_iff_iff]
  unfold zClash
  simp only [Bool.or_eq_true, decide_eq_true_eq]
  omega
theorem zLike_comm (D : zD) (l o : Nat) : zLike D l o = zLike D o l := by
  rw [Bool.eq_iff_iff]
  unfold zLike
  simp only [Bool.and_eq_true, decide_eq_true_eq]
  omega
theorem zPr_comm (D : zD) (H : Nat → Bool) (l i o j : Nat) : zPr D H l i o j = zPr D H o j l i := by
  unfold zPr
  rw [zClash_comm, zLike_comm, zMt_comm]
  have e : q_any (fun w => !zPw D H l i o j w) (dW D) = q_any (fun w => !zPw D H o j l i w) (dW D) := q_any_congr _ (fun w _ => by
    unfold zPw
    rw [Bool.or_comm])
  have e2 : decide (i / 4 = j / 4) = decide (j / 4 = i / 4) := decide_eq_decide.mpr ⟨fun h => h.symm, fun h => h.symm⟩
  rw [e, e2]
theorem zF1_c (D : zD) (T : Nat → Nat) (w l : Nat) : zF1 D T w l = zF1 D (fun _ => T l) w l := rfl
theorem zFul_two {D : zD} {T : Nat → Nat} {w : Nat} (h : 4 ≤ dSo D w) : zFul D T w = zTwo (dSo D w) (T (dA D w)) (T (dB D w)) := by
  unfold zFul zTwo
  rw [if_neg (by omega), if_neg (by omega), if_neg (by omega), if_neg (by omega)]
theorem zFul_one {D : zD} {T : Nat → Nat} {w : Nat} (v : okD D) (hw : w < dW D) (h : dSo D w ≤ 3) : zFul D T w = true ↔ ∀ l, l < dN D → zF1 D T w l = true := by
  rw [← zF2_ful v hw h, zF2_iff]
  exact ⟨fun q l hl => q l (Nat.zero_le l) (by omega), fun q l _ hl => q l (by omega)⟩
theorem zSt_iff {D : zD} {H : Nat → Bool} {l i : Nat} : zSt D H l i = true ↔ ¬ (dDb D l = 1 ∧ i % 4 = 3) ∧ ∀ w, w < dW D → H w = true → dSo D w ≤ 3 → zF1 D (fun _ => i) w l = true := by
  unfold zSt
  rw [Bool.and_eq_true, Bool.not_eq_true', Bool.not_eq_true', q_any_f, Bool.and_eq_false_iff, decide_eq_false_iff_not, decide_eq_false_iff_not]
  constructor
  · rintro ⟨h1, h2⟩
    refine ⟨by omega, fun w hw hH h3 => ?_⟩
    have := h2 w hw
    rw [hH, decide_eq_true h3] at this
    simpa using this
  · rintro ⟨h1, h2⟩
    refine ⟨by omega, fun w hw => ?_⟩
    cases hH : H w
    · rfl
    · by_cases h3 : dSo D w ≤ 3
      · rw [h2 w hw hH h3]; simp
      · rw [decide_eq_false h3]; rfl
theorem zPr_iff {D : zD} {H : Nat → Bool} {l i o j : Nat} : zPr D H l i o j = true ↔ (zClash D l o = true → zMt (dDb D l) i (dDb D o) j = false) ∧ (zLike D l o = true → i / 4 ≠ j / 4) ∧ ∀ w, w < dW D → H w = true → 4 ≤ dSo D w → (dA D w = l → dB D w = o → zTwo (dSo D w) i j = true) ∧ (dA D w = o → dB D w = l → zTwo (dSo D w) j i = true) := by
  unfold zPr
  rw [Bool.and_eq_true, Bool.and_eq_true, Bool.not_eq_true', Bool.not_eq_true', Bool.not_eq_true', q_any_f]
  have e1 : (zClash D l o && zMt (dDb D l) i (dDb D o) j) = false ↔ (zClash D l o = true → zMt (dDb D l) i (dDb D o) j = false) := by
    cases zClash D l o <;> simp
  have e2 : (zLike D l o && decide (i / 4 = j / 4)) = false ↔ (zLike D l o = true → i / 4 ≠ j / 4) := by
    cases zLike D l o <;> simp
  rw [e1, e2, and_assoc]
  refine and_congr_right (fun _ => and_congr_right (fun _ => ?_))
  refine forall_congr' (fun w => imp_congr_right (fun hw => ?_))
  unfold zPw
  cases hH : H w
  · simp
  · by_cases h4 : 4 ≤ dSo D w
    · by_cases a1 : dA D w = l <;> by_cases a2 : dB D w = o <;> by_cases a3 : dA D w = o <;> by_cases a4 : dB D w = l <;> simp [h4, a1, a2, a3, a4]
    · simp [h4]
theorem zRm_iff {D : zD} {T : Nat → Nat} {l i f : Nat} : zRm D T l i f = true ↔ (dKi D l ≠ 0 → zCn D T l i f + 1 ≤ dRo D (dKi D l - 1) ∧ (dDb D l = 1 → zCn D T l (i + 1) f + 1 ≤ dRo D (dKi D l - 1))) := by
  unfold zRm
  by_cases h : dKi D l = 0
  · simp [h]
  · by_cases h1 : dDb D l = 1
    · simp [h, h1]
    · simp [h, h1]
theorem zRi_iff {D : zD} {H : Nat → Bool} {T : Nat → Nat} (v : okD D) : zRtH D H T ↔ zRi D H T := by
  have hcn : ∀ l i, l < dN D → zTk D T l i = true → q_cnt (fun o => decide (dKi D o = dKi D l) && zTk D T o i) (dN D) = zCn D T l i (dN D) + 1 := fun l i hl hi =>
    q_cnt_rm (p := fun o => decide (dKi D o = dKi D l) && zTk D T o i) (dN D) hl (by show (decide (dKi D l = dKi D l) && zTk D T l i) = true; rw [decide_eq_true rfl, hi]; rfl)
  constructor
  · rintro ⟨r1, r2, r3, r4, r5⟩ l hl
    obtain ⟨a1, a2⟩ := r1 l hl
    refine ⟨a1, zSt_iff.mpr ⟨a2, fun w hw hH h3 => ?_⟩, zRm_iff.mpr (fun hk => ⟨?_, fun h1 => ?_⟩), fun o ho => zPr_iff.mpr ⟨fun hc => ?_, fun hk => ?_, fun w hw hH h4 => ⟨fun e1 e2 => ?_, fun e1 e2 => ?_⟩⟩⟩
    · rw [← zF1_c]
      exact (zFul_one v hw h3).mp (r4 w hw hH) l hl
    · have ht : zTk D T l (T l) = true := by unfold zTk; simp
      rw [← hcn l (T l) hl ht]
      exact r5 l (T l) hl hk ht
    · have ht : zTk D T l (T l + 1) = true := by unfold zTk; simp [h1]
      rw [← hcn l (T l + 1) hl ht]
      exact r5 l (T l + 1) hl hk ht
    · rw [← zMeet_mt]
      refine r2 l o hl ho ?_
      unfold zClash at hc
      rw [Bool.or_eq_true, decide_eq_true_eq, decide_eq_true_eq] at hc
      exact hc
    · unfold zLike at hk
      rw [Bool.and_eq_true, decide_eq_true_eq, decide_eq_true_eq] at hk
      exact r3 l o hl ho hk.1 hk.2
    · have := r4 w hw hH
      rw [zFul_two h4, e1, e2] at this
      exact this
    · have := r4 w hw hH
      rw [zFul_two h4, e1, e2] at this
      exact this
  · intro r
    refine ⟨fun l hl => ⟨(r l hl).1, (zSt_iff.mp (r l hl).2.1).1⟩, fun l o hl ho hc => ?_, fun l o hl ho h1 h2 => ?_, fun w hw hH => ?_, fun l i hl hk hi => ?_⟩
    · rw [zMeet_mt]
      refine (zPr_iff.mp ((r l hl).2.2.2 o ho)).1 ?_
      unfold zClash
      rw [Bool.or_eq_true, decide_eq_true_eq, decide_eq_true_eq]
      exact hc
    · refine (zPr_iff.mp ((r l hl).2.2.2 o ho)).2.1 ?_
      unfold zLike
      rw [Bool.and_eq_true, decide_eq_true_eq, decide_eq_true_eq]
      exact ⟨h1, h2⟩
    · by_cases h3 : dSo D w ≤ 3
      · rw [zFul_one v hw h3]
        intro l hl
        rw [zF1_c]
        exact (zSt_iff.mp (r l hl).2.1).2 w hw hH h3
      · obtain ⟨-, -, -, -, -, -, h4⟩ := v.2.2.2.2.1 w hw
        obtain ⟨b1, b2, b3⟩ := h4 (by omega)
        rw [zFul_two (by omega)]
        by_cases hlt : dB D w < dA D w
        · exact ((zPr_iff.mp ((r _ b1).2.2.2 _ hlt)).2.2 w hw hH (by omega)).1 rfl rfl
        · exact ((zPr_iff.mp ((r _ b2).2.2.2 _ (by omega : dA D w < dB D w))).2.2 w hw hH (by omega)).2 rfl rfl
    · rw [hcn l i hl hi]
      have h1 := zRm_iff.mp (r l hl).2.2.1 hk
      unfold zTk at hi
      rw [Bool.or_eq_true, Bool.and_eq_true, decide_eq_true_eq, decide_eq_true_eq, decide_eq_true_eq] at hi
      rcases hi with hi | ⟨hi1, hi2⟩
      · rw [hi]; exact h1.1
      · rw [hi2]; exact h1.2 hi1
def zMv (T : Nat → Nat) (l i : Nat) : Nat → Nat := fun o => if o = l then i else T o
def zAl (D : zD) (H : Nat → Bool) (T : Nat → Nat) (q : Nat → Bool) (l i : Nat) : Bool :=
  decide (i < 20) && (zSt D H l i && (!q_any (fun o => !decide (o = l) && q o && !zPr D H l i o (T o)) (dN D) &&
    (decide (dKi D l = 0) || (decide (q_cnt (fun o => !decide (o = l) && (q o && (decide (dKi D o = dKi D l) && zTk D T o i))) (dN D) + 1 ≤ dRo D (dKi D l - 1)) &&
      (!decide (dDb D l = 1) || decide (q_cnt (fun o => !decide (o = l) && (q o && (decide (dKi D o = dKi D l) && zTk D T o (i + 1)))) (dN D) + 1 ≤ dRo D (dKi D l - 1)))))))
theorem zAl_iff {D : zD} {H : Nat → Bool} {T : Nat → Nat} {l i : Nat} : zAl D H T (fun _ => true) l i = true ↔ i < 20 ∧ zSt D H l i = true ∧ zRm D T l i (dN D) = true ∧ ∀ o, o < dN D → o ≠ l → zPr D H l i o (T o) = true := by
  unfold zAl zRm zCn
  simp only [Bool.and_eq_true, decide_eq_true_eq, Bool.not_eq_true', Bool.true_and, Bool.and_true]
  refine and_congr_right (fun _ => and_congr_right (fun _ => ?_))
  rw [and_comm]
  refine and_congr_right (fun _ => ?_)
  rw [q_any_f]
  refine forall_congr' (fun o => imp_congr_right (fun ho => ?_))
  by_cases h : o = l
  · simp [h]
  · simp [h]
theorem zRi_all {D : zD} {H : Nat → Bool} {T : Nat → Nat} : zRi D H T ↔ ∀ l, l < dN D → zAl D H T (fun _ => true) l (T l) = true := by
  constructor
  · intro r l hl
    obtain ⟨a1, a2, a3, a4⟩ := r l hl
    refine zAl_iff.mpr ⟨a1, a2, a3, fun o ho hne => ?_⟩
    by_cases h : o < l
    · exact a4 o h
    · rw [zPr_comm]
      exact (r o ho).2.2.2 l (by omega)
  · intro r l hl
    obtain ⟨a1, a2, a3, a4⟩ := zAl_iff.mp (r l hl)
    exact ⟨a1, a2, a3, fun o ho => a4 o (by omega) (by omega)⟩
theorem zCn_congr {D : zD} {T U : Nat → Nat} {l i f : Nat} (h : ∀ o, o < f → o ≠ l → T o = U o) : zCn D T l i f = zCn D U l i f := by
  unfold zCn
  refine q_cnt_congr f (fun o ho => ?_)
  by_cases e : o = l
  · rw [decide_eq_true e]; rfl
  · unfold zTk; rw [h o ho e]
theorem zRm_tot {D : zD} {T : Nat → Nat} {m f : Nat} (hm : m < f) : zRm D T m (T m) f = true ↔ (dKi D m ≠ 0 → ∀ s, zTk D T m s = true → q_cnt (fun o => decide (dKi D o = dKi D m) && zTk D T o s) f ≤ dRo D (dKi D m - 1)) := by
  have hcn : ∀ i, zTk D T m i = true → q_cnt (fun o => decide (dKi D o = dKi D m) && zTk D T o i) f = zCn D T m i f + 1 := fun i hi =>
    q_cnt_rm (p := fun o => decide (dKi D o = dKi D m) && zTk D T o i) f hm (by show (decide (dKi D m = dKi D m) && zTk D T m i) = true; rw [decide_eq_true rfl, hi]; rfl)
  rw [zRm_iff]
  refine imp_congr_right (fun hk => ⟨fun h s hs => ?_, fun h => ⟨?_, fun h1 => ?_⟩⟩)
  · rw [hcn s hs]
    unfold zTk at hs
    rw [Bool.or_eq_true, Bool.and_eq_true, decide_eq_true_eq, decide_eq_true_eq, decide_eq_true_eq] at hs
    rcases hs with hs | ⟨hs1, hs2⟩
    · rw [hs]; exact h.1
    · rw [hs2]; exact h.2 hs1
  · have ht : zTk D T m (T m) = true := by unfold zTk; simp
    rw [← hcn _ ht]
    exact h _ ht
  · have ht : zTk D T m (T m + 1) = true := by unfold zTk; simp [h1]
    rw [← hcn _ ht]
    exact h _ ht
theorem zRi_move {D : zD} {H : Nat → Bool} {T : Nat → Nat} {l i : Nat} (r : zRi D H T) (hl : l < dN D) : zRi D H (zMv T l i) ↔ zAl D H T (fun _ => true) l i = true := by
  have e0 : zMv T l i l = i := if_pos rfl
  have e1 : ∀ o, o ≠ l → zMv T l i o = T o := fun o h => if_neg h
  constructor
  · intro r'
    have h := zRi_all.mp r' l hl
    rw [e0] at h
    obtain ⟨a1, a2, a3, a4⟩ := zAl_iff.mp h
    refine zAl_iff.mpr ⟨a1, a2, ?_, fun o ho hne => ?_⟩
    · unfold zRm at a3 ⊢
      rw [zCn_congr (fun o _ h => (e1 o h).symm), zCn_congr (i := i + 1) (fun o _ h => (e1 o h).symm)]
      exact a3
    · have := a4 o ho hne
      rw [e1 o hne] at this
      exact this
  · intro h
    obtain ⟨a1, a2, a3, a4⟩ := zAl_iff.mp h
    refine zRi_all.mpr (fun m hm => zAl_iff.mpr ?_)
    by_cases e : m = l
    · subst e
      rw [e0]
      refine ⟨a1, a2, ?_, fun o ho hne => by rw [e1 o hne]; exact a4 o ho hne⟩
      unfold zRm at a3 ⊢
      rw [zCn_congr (fun o _ h => e1 o h), zCn_congr (i := i + 1) (fun o _ h => e1 o h)]
      exact a3
    · obtain ⟨b1, b2, b3, b4⟩ := zAl_iff.mp (zRi_all.mp r m hm)
      rw [e1 m e]
      refine ⟨b1, b2, ?_, fun o ho hne => ?_⟩
      · have hT' : zMv T l i m = T m := e1 m e
        rw [← hT', zRm_tot hm]
        intro hk s hs
        have hs2 : zTk D T m s = true := by unfold zTk at hs ⊢; rw [hT'] at hs; exact hs
        have b5 := (zRm_tot hm).mp b3 hk s hs2
        by_cases q : dKi D l = dKi D m ∧ zTd (dDb D l) i s = true
        · have h1 := q_cnt_rm (p := fun o => decide (dKi D o = dKi D m) && zTk D (zMv T l i) o s) (l := l) (dN D) hl (by
            show (decide (dKi D l = dKi D m) && zTd (dDb D l) (zMv T l i l) s) = true
            rw [e0, q.2, decide_eq_true q.1]; rfl)
          have h2 : q_cnt (fun o => !decide (o = l) && (decide (dKi D o = dKi D m) && zTk D (zMv T l i) o s)) (dN D) = zCn D T l s (dN D) := by
            unfold zCn
            refine q_cnt_congr _ (fun o _ => ?_)
            by_cases eo : o = l
            · rw [decide_eq_true eo]; rfl
            · unfold zTk; rw [e1 o eo, q.1]
          rw [h1, h2]
          have h3 := zRm_iff.mp a3 (by rw [q.1]; exact hk)
          rw [q.1] at h3
          have q2 := q.2
          unfold zTd at q2
          rw [Bool.or_eq_true, Bool.and_eq_true, decide_eq_true_eq, decide_eq_true_eq, decide_eq_true_eq] at q2
          rcases q2 with q2 | ⟨q2, q3⟩
          · rw [q2]; exact h3.1
          · rw [q3]; exact h3.2 q2
        · refine Nat.le_trans (q_cnt_mon _ (fun o _ ho => ?_)) b5
          by_cases eo : o = l
          · exfalso
            subst eo
            apply q
            rw [Bool.and_eq_true, decide_eq_true_eq] at ho
            refine ⟨ho.1, ?_⟩
            have h9 := ho.2
            rw [zTk_td, e0] at h9
            exact h9
          · unfold zTk at ho ⊢
            rw [e1 o eo] at ho
            exact ho
      · by_cases e2 : o = l
        · subst e2
          rw [e0, zPr_comm]
          exact a4 m hm e
        · rw [e1 o e2]
          exact b4 o ho hne
