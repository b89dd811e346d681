/-! FINDER 1: sets as numbers, marks, who may stand on a day -/
theorem nx_or (a b : Nat) : nI a ||| nI b = nI (a ||| b) := by
  apply Int32.toBitVec_inj.1
  show BitVec.ofNat 32 a ||| BitVec.ofNat 32 b = BitVec.ofNat 32 (a ||| b)
  apply BitVec.eq_of_getLsbD_eq
  intro i hi
  simp [hi]
theorem z_pw2 : ∀ l, l < 31 → nI 1 <<< (nI l &&& 31) = nI (2 ^ l) := by decide +kernel
theorem z_set1 {s l : Nat} (hl : l < 31) : nI s ||| (nI 1 <<< (nI l &&& 31)) = nI (s ||| 2 ^ l) := by rw [z_pw2 l hl, nx_or]
theorem zS_bit {s l i : Nat} : (s ||| 2 ^ l).testBit i = (s.testBit i || decide (l = i)) := by rw [Nat.testBit_or, Nat.testBit_two_pow]
theorem zS_lt {s l : Nat} (hs : s < 512) (hl : l < 9) : s ||| 2 ^ l < 512 := by
  have h : ∀ l, l < 9 → 2 ^ l < 2 ^ 9 := by decide
  exact Nat.or_lt_two_pow (n := 9) hs (h l hl)
theorem zS_out {s i : Nat} (hs : s < 512) (hi : 9 ≤ i) : s.testBit i = false := by
  refine Nat.testBit_lt_two_pow (Nat.lt_of_lt_of_le hs ?_)
  exact Nat.pow_le_pow_right (by omega : 2 > 0) hi
theorem zFll_eq : ∀ N, N < 10 → zFll N = nI (2 ^ N - 1) := by decide +kernel
theorem z_sh8 {r : Nat} (hr : r < 2 ^ 28) : nI r <<< (nI 3 &&& 31) = nI (8 * r) := by
  apply b_ext
  intro i hi
  rw [b_shl 3 (by omega) _ hi, z_bn _ _ hi, show (8 : Nat) = 2 ^ 3 from rfl, Nat.testBit_two_pow_mul]
  by_cases h : 3 ≤ i
  · rw [z_bn _ _ (by omega)]
  · rw [decide_eq_false h, Bool.false_and]
    simp [h]
theorem z_rs8 {n : Nat} (hn : n < 2 ^ 31) : nI n >>> (nI 3 &&& 31) = nI (n / 8) := by
  apply b_ext
  intro i hi
  rw [b_sshr 3 (by omega) _ hi, z_bn _ _ hi, show (8 : Nat) = 2 ^ 3 from rfl, Nat.testBit_div_two_pow]
  by_cases h : 3 + i < 32
  · rw [if_pos h, z_bn _ _ h, Nat.add_comm]
  · rw [if_neg h, z_bn _ _ (by omega), Nat.testBit_lt_two_pow hn]
    have : n < 2 ^ (i + 3) := Nat.lt_of_lt_of_le hn (Nat.pow_le_pow_right (by omega) (by omega))
    rw [Nat.testBit_lt_two_pow this]
theorem z_and7 (n : Nat) : nI n &&& nI 7 = nI (n % 8) := by
  rw [nx_and]
  show nI (n &&& 2 ^ 3 - 1) = nI (n % 2 ^ 3)
  rw [Nat.and_two_pow_sub_one_eq_mod]
theorem z_or8 {r m : Nat} (hm : m < 8) : nI (8 * r) ||| nI m = nI (8 * r + m) := by
  rw [nx_or]
  congr 1
  exact (Nat.two_pow_add_eq_or_of_lt (i := 3) hm r).symm
theorem z_mkor : ∀ a, a < 8 → ∀ b, b < 8 → a ||| b < 8 := by decide +kernel
/-! ### what the finder seeks -/
def zWo (D : zD) (H : Nat → Bool) (l o : Nat) : Bool := zWd D H 4 (zBoth l o) (dW D)
def zWa (D : zD) (H : Nat → Bool) (l o : Nat) : Bool := zWd D H 6 (fun a c => decide (a = o) && decide (c = l)) (dW D)
theorem zWo_c {D : zD} {H : Nat → Bool} {l o : Nat} : zWo D H l o = zWo D H o l := by
  unfold zWo zWd
  refine q_any_congr _ (fun w _ => ?_)
  unfold zBoth
  rw [Bool.or_comm]
def zGd (D : zD) (H : Nat → Bool) (O : Nat → Nat → Bool) (d s : Nat) (U : Nat → Nat) (m : Nat) : Prop := U m / 4 = d ∧ zAl D H U (fun o => s.testBit o) m (U m) = true ∧ O m (U m) = true
def zDk (D : zD) (H : Nat → Bool) (O : Nat → Nat → Bool) (d s : Nat) : Prop := ∃ U : Nat → Nat, ∀ m, m < dN D → s.testBit m = true → zGd D H O d s U m
theorem zAl_20 {D : zD} {H : Nat → Bool} {T : Nat → Nat} {q : Nat → Bool} {l i : Nat} (h : zAl D H T q l i = true) : i < 20 := by
  unfold zAl at h
  rw [Bool.and_eq_true, decide_eq_true_eq] at h
  exact h.1
theorem zAl_mono {D : zD} {H : Nat → Bool} {T : Nat → Nat} {q q' : Nat → Bool} {l i : Nat} (hq : ∀ o, o < dN D → o ≠ l → q' o = true → q o = true) (h : zAl D H T q l i = true) : zAl D H T q' l i = true := by
  unfold zAl at h ⊢
  simp only [Bool.and_eq_true, Bool.or_eq_true, decide_eq_true_eq, Bool.not_eq_true'] at h ⊢
  obtain ⟨h1, h2, h3, h4⟩ := h
  have hc : ∀ s, q_cnt (fun o => !decide (o = l) && (q' o && (decide (dKi D o = dKi D l) && zTk D T o s))) (dN D) ≤ q_cnt (fun o => !decide (o = l) && (q o && (decide (dKi D o = dKi D l) && zTk D T o s))) (dN D) := fun s => by
    refine q_cnt_mon (dN D) (fun o ho h => ?_)
    simp only [Bool.and_eq_true, Bool.not_eq_true', decide_eq_false_iff_not] at h ⊢
    exact ⟨h.1, hq o ho h.1 h.2.1, h.2.2⟩
  refine ⟨h1, h2, ?_, ?_⟩
  · rw [q_any_f] at h3 ⊢
    intro o ho
    have := h3 o ho
    cases hqo : q' o
    · simp
    · by_cases e : o = l
      · rw [decide_eq_true e]; rfl
      · rw [hq o ho e hqo] at this
        exact this
  · rcases h4 with h4 | ⟨h4, h5⟩
    · exact Or.inl h4
    · refine Or.inr ⟨Nat.le_trans (Nat.add_le_add_right (hc i) 1) h4, ?_⟩
      rcases h5 with h5 | h5
      · exact Or.inl h5
      · exact Or.inr (Nat.le_trans (Nat.add_le_add_right (hc (i + 1)) 1) h5)
theorem zAl_congr {D : zD} {H : Nat → Bool} {T T' : Nat → Nat} {q : Nat → Bool} {l i : Nat} (h : ∀ o, o < dN D → o ≠ l → q o = true → T o = T' o) : zAl D H T q l i = zAl D H T' q l i := by
  unfold zAl
  have e1 : q_any (fun o => !decide (o = l) && q o && !zPr D H l i o (T o)) (dN D) = q_any (fun o => !decide (o = l) && q o && !zPr D H l i o (T' o)) (dN D) := q_any_congr _ (fun o ho => by
    by_cases e : o = l
    · rw [decide_eq_true e]; rfl
    · cases hq : q o
      · simp
      · rw [h o ho e hq])
  have e2 : ∀ s, q_cnt (fun o => !decide (o = l) && (q o && (decide (dKi D o = dKi D l) && zTk D T o s))) (dN D) = q_cnt (fun o => !decide (o = l) && (q o && (decide (dKi D o = dKi D l) && zTk D T' o s))) (dN D) := fun s => q_cnt_congr _ (fun o ho => by
    by_cases e : o = l
    · rw [decide_eq_true e]; rfl
    · cases hq : q o
      · simp
      · unfold zTk
        rw [h o ho e hq])
  rw [e1, e2, e2]
theorem zGd_congr {D : zD} {H : Nat → Bool} {O : Nat → Nat → Bool} {d s m : Nat} {U U' : Nat → Nat} (hm : U m = U' m) (h : ∀ o, o < dN D → s.testBit o = true → U o = U' o) (g : zGd D H O d s U m) : zGd D H O d s U' m := by
  obtain ⟨g1, g2, g3⟩ := g
  refine ⟨by rw [← hm]; exact g1, ?_, by rw [← hm]; exact g3⟩
  rw [← hm, ← zAl_congr (T := U) (fun o ho _ hq => h o ho hq)]
  exact g2
theorem zAl_iff2 {D : zD} {H : Nat → Bool} {T : Nat → Nat} {q : Nat → Bool} {l i : Nat} (h : zAl D H T q l i = true) : i < 20 ∧ zSt D H l i = true ∧ (∀ o, o < dN D → o ≠ l → q o = true → zPr D H l i o (T o) = true) ∧
    (dKi D l ≠ 0 → q_cnt (fun o => !decide (o = l) && (q o && (decide (dKi D o = dKi D l) && zTk D T o i))) (dN D) + 1 ≤ dRo D (dKi D l - 1) ∧ (dDb D l = 1 → q_cnt (fun o => !decide (o = l) && (q o && (decide (dKi D o = dKi D l) && zTk D T o (i + 1)))) (dN D) + 1 ≤ dRo D (dKi D l - 1))) := by
  unfold zAl at h
  simp only [Bool.and_eq_true, Bool.or_eq_true, decide_eq_true_eq, Bool.not_eq_true'] at h
  obtain ⟨h1, h2, h3, h4⟩ := h
  refine ⟨h1, h2, fun o ho hne hq => ?_, fun hk => ?_⟩
  · have := q_any_f.mp h3 o ho
    rw [decide_eq_false hne, hq] at this
    simpa using this
  · rcases h4 with q | ⟨q1, q2⟩
    · exact absurd q hk
    · refine ⟨q1, fun hd => ?_⟩
      rcases q2 with q | q
      · rw [decide_eq_false_iff_not] at q
        exact absurd hd q
      · exact q
theorem zAl_mk {D : zD} {H : Nat → Bool} {T : Nat → Nat} {q : Nat → Bool} {l i : Nat} (h1 : i < 20) (h2 : zSt D H l i = true) (h3 : ∀ o, o < dN D → o ≠ l → q o = true → zPr D H l i o (T o) = true)
    (h4 : dKi D l ≠ 0 → q_cnt (fun o => !decide (o = l) && (q o && (decide (dKi D o = dKi D l) && zTk D T o i))) (dN D) + 1 ≤ dRo D (dKi D l - 1) ∧ (dDb D l = 1 → q_cnt (fun o => !decide (o = l) && (q o && (decide (dKi D o = dKi D l) && zTk D T o (i + 1)))) (dN D) + 1 ≤ dRo D (dKi D l - 1))) : zAl D H T q l i = true := by
  have e : q_any (fun o => !decide (o = l) && q o && !zPr D H l i o (T o)) (dN D) = false := q_any_f.mpr (fun o ho => by
    by_cases e : o = l
    · rw [decide_eq_true e]; rfl
    · cases hq : q o
      · simp
      · rw [h3 o ho e hq]; simp)
  unfold zAl
  rw [decide_eq_true h1, h2, e]
  by_cases hk : dKi D l = 0
  · rw [decide_eq_true hk]; rfl
  · obtain ⟨a, b⟩ := h4 hk
    rw [decide_eq_true a]
    by_cases hd : dDb D l = 1
    · rw [decide_eq_true (b hd)]; simp
    · rw [decide_eq_false hd]; simp
theorem zTk_or {D : zD} {T : Nat → Nat} {l i : Nat} : zTk D T l i = true ↔ i = T l ∨ (dDb D l = 1 ∧ i = T l + 1) := by
  unfold zTk
  rw [Bool.or_eq_true, Bool.and_eq_true, decide_eq_true_eq, decide_eq_true_eq, decide_eq_true_eq]
theorem zGd_add {D : zD} {H : Nat → Bool} {O : Nat → Nat → Bool} {d p m i : Nat} {U : Nat → Nat} (hm : m < dN D) (hpm : p.testBit m = false) (ha : zAl D H U (fun o => p.testBit o) m i = true) (hO : O m i = true) (hd : i / 4 = d) (hg : ∀ o, o < dN D → p.testBit o = true → zGd D H O d p U o) :
    ∀ o, o < dN D → (p ||| 2 ^ m).testBit o = true → zGd D H O d (p ||| 2 ^ m) (zEu U m i) o := by
  have hU : ∀ o, o ≠ m → zEu U m i o = U o := fun o h => by unfold zEu; rw [if_neg h]
  have hUm : zEu U m i m = i := by unfold zEu; rw [if_pos rfl]
  have hin : ∀ x, x ≠ m → (p ||| 2 ^ m).testBit x = true → p.testBit x = true := fun x hx hq => by
    rw [zS_bit, decide_eq_false (fun q => hx q.symm), Bool.or_false] at hq
    exact hq
  intro o ho hb
  by_cases e : o = m
  · rw [e]
    refine ⟨by rw [hUm]; exact hd, ?_, by rw [hUm]; exact hO⟩
    rw [hUm, zAl_congr (T' := U) (fun x _ hx _ => hU x hx)]
    exact zAl_mono (fun x _ hx hq => hin x hx hq) ha
  · have hb := hin o e hb
    obtain ⟨g1, g2, g3⟩ := hg o ho hb
    refine ⟨by rw [hU o e]; exact g1, ?_, by rw [hU o e]; exact g3⟩
    rw [hU o e]
    obtain ⟨a1, a2, a3, a4⟩ := zAl_iff2 g2
    obtain ⟨b1, b2, b3, b4⟩ := zAl_iff2 ha
    have cnt : dKi D o ≠ 0 → ∀ s, zTk D U o s = true → q_cnt (fun x => !decide (x = o) && (p.testBit x && (decide (dKi D x = dKi D o) && zTk D U x s))) (dN D) + 1 ≤ dRo D (dKi D o - 1) → q_cnt (fun x => !decide (x = o) && ((p ||| 2 ^ m).testBit x && (decide (dKi D x = dKi D o) && zTk D (zEu U m i) x s))) (dN D) + 1 ≤ dRo D (dKi D o - 1) := by
      intro hk s hs hle
      have zt : ∀ x, x ≠ m → zTk D (zEu U m i) x s = zTk D U x s := fun x hx => by unfold zTk; rw [hU x hx]
      by_cases hc : dKi D m = dKi D o ∧ zTk D (zEu U m i) m s = true
      · obtain ⟨c1, c2⟩ := hc
        have hmb : q_cnt (fun x => !decide (x = m) && (p.testBit x && (decide (dKi D x = dKi D m) && zTk D U x s))) (dN D) + 1 ≤ dRo D (dKi D m - 1) := by
          have h4 := b4 (by rw [c1]; exact hk)
          have c3 := zTk_or.mp c2
          rw [hUm] at c3
          rcases c3 with q | ⟨q1, q2⟩
          · rw [q]; exact h4.1
          · rw [q2]; exact h4.2 q1
        have key : ∀ P : Nat → Bool, P o = true → P m = true → q_cnt (fun x => !decide (x = o) && P x) (dN D) = q_cnt (fun x => !decide (x = m) && P x) (dN D) := fun P h1 h2 => by
          have e1 := q_cnt_rm (dN D) ho h1
          have e2 := q_cnt_rm (dN D) hm h2
          omega
        have e1 : q_cnt (fun x => !decide (x = o) && ((p ||| 2 ^ m).testBit x && (decide (dKi D x = dKi D o) && zTk D (zEu U m i) x s))) (dN D) = q_cnt (fun x => !decide (x = m) && ((p ||| 2 ^ m).testBit x && (decide (dKi D x = dKi D o) && zTk D (zEu U m i) x s))) (dN D) :=
          key (fun x => (p ||| 2 ^ m).testBit x && (decide (dKi D x = dKi D o) && zTk D (zEu U m i) x s)) (by
            show ((p ||| 2 ^ m).testBit o && (decide (dKi D o = dKi D o) && zTk D (zEu U m i) o s)) = true
            rw [zS_bit, hb, zt o e, hs, decide_eq_true rfl]; rfl) (by
            show ((p ||| 2 ^ m).testBit m && (decide (dKi D m = dKi D o) && zTk D (zEu U m i) m s)) = true
            rw [zS_bit, c2, decide_eq_true c1, decide_eq_true (rfl : m = m)]; simp)
        have e3 : q_cnt (fun x => !decide (x = m) && ((p ||| 2 ^ m).testBit x && (decide (dKi D x = dKi D o) && zTk D (zEu U m i) x s))) (dN D) ≤ q_cnt (fun x => !decide (x = m) && (p.testBit x && (decide (dKi D x = dKi D m) && zTk D U x s))) (dN D) := q_cnt_mon (dN D) (fun x _ hx => by
          simp only [Bool.and_eq_true, Bool.not_eq_true', decide_eq_false_iff_not, decide_eq_true_eq] at hx ⊢
          obtain ⟨h1, h2, h3, h4⟩ := hx
          rw [zt x h1] at h4
          exact ⟨h1, hin x h1 h2, by omega, h4⟩)
        have hr : dRo D (dKi D m - 1) = dRo D (dKi D o - 1) := by rw [c1]
        rw [e1, ← hr]
        exact Nat.le_trans (Nat.add_le_add_right e3 1) hmb
      · refine Nat.le_trans (Nat.add_le_add_right (q_cnt_mon (dN D) (fun x _ hx => ?_)) 1) hle
        simp only [Bool.and_eq_true, Bool.not_eq_true', decide_eq_false_iff_not, decide_eq_true_eq] at hx ⊢
        obtain ⟨h1, h2, h3, h4⟩ := hx
        by_cases e2 : x = m
        · rw [e2] at h3 h4
          exact absurd ⟨h3, h4⟩ hc
        · rw [zt x e2] at h4
          exact ⟨h1, hin x e2 h2, h3, h4⟩
    refine zAl_mk a1 a2 (fun x hx hne hq => ?_) (fun hk => ⟨cnt hk _ (zTk_or.mpr (Or.inl rfl)) (a4 hk).1, fun hdb => cnt hk _ (zTk_or.mpr (Or.inr ⟨hdb, rfl⟩)) ((a4 hk).2 hdb)⟩)
    by_cases e2 : x = m
    · rw [e2, hUm, zPr_comm]
      exact b3 o ho e hb
    · rw [hU x e2]
      exact a3 x hx hne (hin x e2 hq)
theorem zDk_mono {D : zD} {H : Nat → Bool} {O : Nat → Nat → Bool} {d s s' : Nat} (h : zDk D H O d s) (hs : ∀ i, i < dN D → s'.testBit i = true → s.testBit i = true) : zDk D H O d s' := by
  obtain ⟨U, hU⟩ := h
  refine ⟨U, fun m hm hb => ?_⟩
  obtain ⟨g1, g2, g3⟩ := hU m hm (hs m hm hb)
  exact ⟨g1, zAl_mono (fun o ho _ hq => hs o ho hq) g2, g3⟩
def zJp (D : zD) (H : Nat → Bool) (p s f : Nat) : Prop := ∀ l, l < dN D → s.testBit l = true → (∀ o, o < dN D → zWo D H l o = true → p.testBit o = false) ∧ ∀ o, o < f → (zWa D H l o || zWo D H l o) = true → p.testBit o = true ∨ s.testBit o = true
def zCh (D : zD) (H : Nat → Bool) (O : Nat → Nat → Bool) : Nat → Nat → Nat → (Nat → Nat) → Prop
  | 0, _, p, _ => p = 2 ^ dN D - 1
  | n + 1, d, p, c => c d < 512 ∧ (∀ i, (c d).testBit i = true → i < dN D ∧ p.testBit i = false) ∧ zJp D H p (c d) (dN D) ∧ zDk D H O d (c d) ∧ zCh D H O n (d + 1) (p ||| c d) c
theorem zCh_congr {D : zD} {H : Nat → Bool} {O : Nat → Nat → Bool} {c c' : Nat → Nat} : ∀ n d p, (∀ e, d ≤ e → e < d + n → c e = c' e) → zCh D H O n d p c → zCh D H O n d p c' := by
  intro n
  induction n with
  | zero => intro d p _ h; exact h
  | succ n ih =>
    intro d p h hc
    obtain ⟨h1, h2, h3, h4, h5⟩ := hc
    have e := h d (Nat.le_refl d) (by omega)
    rw [e] at h1 h2 h3 h4 h5
    exact ⟨h1, h2, h3, h4, ih (d + 1) _ (fun e he1 he2 => h e (by omega) (by omega)) h5⟩
def zK1 (D : zD) (H : Nat → Bool) (O : Nat → Nat → Bool) (d p s l : Nat) : Prop := p.testBit l = false ∧ s.testBit l = false ∧ (∀ o, o < dN D → zWo D H l o = true → p.testBit o = false) ∧ (∀ o, o < 32 → (zWa D H l o || zWo D H l o) = true → p.testBit o = true ∨ s.testBit o = true) ∧ zDk D H O d (s ||| 2 ^ l)
def zKo (D : zD) (H : Nat → Bool) (O : Nat → Nat → Bool) (d p s : Nat) : Prop := ∃ l, l < dN D ∧ zK1 D H O d p s l
def zCm (D : zD) (H : Nat → Bool) (O : Nat → Nat → Bool) : Nat → Nat → Nat → (Nat → Nat) → Prop
  | 0, _, p, _ => p = 2 ^ dN D - 1
  | n + 1, d, p, c => c d < 512 ∧ (∀ i, (c d).testBit i = true → i < dN D ∧ p.testBit i = false) ∧ zJp D H p (c d) (dN D) ∧ zDk D H O d (c d) ∧ ¬ zKo D H O d p (c d) ∧ zCm D H O n (d + 1) (p ||| c d) c
theorem zCm_congr {D : zD} {H : Nat → Bool} {O : Nat → Nat → Bool} {c c' : Nat → Nat} : ∀ n d p, (∀ e, d ≤ e → e < d + n → c e = c' e) → zCm D H O n d p c → zCm D H O n d p c' := by
  intro n
  induction n with
  | zero => intro d p _ h; exact h
  | succ n ih =>
    intro d p h hc
    obtain ⟨h1, h2, h3, h4, h5, h6⟩ := hc
    have e := h d (Nat.le_refl d) (by omega)
    rw [e] at h1 h2 h3 h4 h5 h6
    exact ⟨h1, h2, h3, h4, h5, ih (d + 1) _ (fun e he1 he2 => h e (by omega) (by omega)) h6⟩
theorem zCm_ch {D : zD} {H : Nat → Bool} {O : Nat → Nat → Bool} {c : Nat → Nat} : ∀ n d p, zCm D H O n d p c → zCh D H O n d p c := by
  intro n
  induction n with
  | zero => intro d p h; exact h
  | succ n ih =>
    intro d p hc
    obtain ⟨h1, h2, h3, h4, -, h6⟩ := hc
    exact ⟨h1, h2, h3, h4, ih (d + 1) _ h6⟩
def zUn (D : zD) (p : Nat) : Nat := q_cnt (fun i => !p.testBit i) (dN D)
theorem zUn_lt {D : zD} {p s l : Nat} (hl : l < dN D) (hp : p.testBit l = false) (hs : s.testBit l = false) : zUn D (p ||| (s ||| 2 ^ l)) + 1 ≤ zUn D (p ||| s) := by
  unfold zUn
  rw [q_cnt_rm (p := fun i => !(p ||| s).testBit i) (dN D) hl (by show (!(p ||| s).testBit l) = true; rw [Nat.testBit_or, hp, hs]; rfl)]
  refine Nat.add_le_add_right (q_cnt_mon (dN D) (fun i _ h => ?_)) 1
  have h : (!(p ||| (s ||| 2 ^ l)).testBit i) = true := h
  rw [Nat.testBit_or, zS_bit] at h
  show (!decide (i = l) && !(p ||| s).testBit i) = true
  rw [Nat.testBit_or]
  by_cases e : i = l
  · subst e
    rw [decide_eq_true rfl] at h
    simp at h
  · rw [decide_eq_false e, decide_eq_false (fun q => e q.symm)] at *
    simpa using h
def zKr (s l : Nat) : Nat := s ^^^ (s &&& 2 ^ l)
theorem zKr_bit {s l i : Nat} : (zKr s l).testBit i = (s.testBit i && !decide (l = i)) := by
  unfold zKr
  rw [Nat.testBit_xor, Nat.testBit_and, Nat.testBit_two_pow]
  cases s.testBit i <;> cases decide (l = i) <;> rfl
theorem zKr_lt {s l : Nat} (h : s < 512) : zKr s l < 512 := Nat.xor_lt_two_pow (n := 9) h (Nat.lt_of_le_of_lt Nat.and_le_left h)
theorem zCh_rm {D : zD} {H : Nat → Bool} {O : Nat → Nat → Bool} {c : Nat → Nat} {l : Nat} (hl : l < dN D) : ∀ n d p, (∀ o, o < dN D → zWo D H l o = true → p.testBit o = true) → zCh D H O n d p c → zCh D H O n d (p ||| 2 ^ l) (fun e => zKr (c e) l) := by
  intro n
  induction n with
  | zero =>
    intro d p _ h
    have h : p = 2 ^ dN D - 1 := h
    show p ||| 2 ^ l = 2 ^ dN D - 1
    refine Nat.eq_of_testBit_eq (fun i => ?_)
    rw [zS_bit, h, Nat.testBit_two_pow_sub_one]
    by_cases e : l = i
    · rw [decide_eq_true (by omega : i < dN D)]; rfl
    · rw [decide_eq_false e, Bool.or_false]
  | succ n ih =>
    intro d p hk h
    obtain ⟨h1, h2, h3, h4, h5⟩ := h
    refine ⟨zKr_lt h1, fun i hi => ?_, fun m hm hb => ⟨fun o ho hw => ?_, fun o ho hw => ?_⟩, zDk_mono h4 (fun i _ hi => ?_), ?_⟩
    · rw [zKr_bit, Bool.and_eq_true, Bool.not_eq_true', decide_eq_false_iff_not] at hi
      obtain ⟨a1, a2⟩ := h2 i hi.1
      refine ⟨a1, ?_⟩
      rw [zS_bit, a2, decide_eq_false hi.2]; rfl
    · rw [zKr_bit, Bool.and_eq_true, Bool.not_eq_true', decide_eq_false_iff_not] at hb
      have a := (h3 m hm hb.1).1 o ho hw
      rw [zS_bit, a, decide_eq_false ?_]
      · rfl
      · intro e
        subst e
        rw [zWo_c] at hw
        have := hk m hm hw
        rw [(h2 m hb.1).2] at this
        cases this
    · rw [zKr_bit, Bool.and_eq_true, Bool.not_eq_true', decide_eq_false_iff_not] at hb
      rw [zS_bit, zKr_bit]
      by_cases e : l = o
      · rw [decide_eq_true e]
        exact Or.inl (Bool.or_true _)
      · rw [decide_eq_false e]
        rcases (h3 m hm hb.1).2 o ho hw with q | q
        · exact Or.inl (by rw [q]; rfl)
        · exact Or.inr (by rw [q]; rfl)
    · rw [zKr_bit, Bool.and_eq_true] at hi
      exact hi.1
    · have e : p ||| 2 ^ l ||| zKr (c d) l = p ||| c d ||| 2 ^ l := Nat.eq_of_testBit_eq (fun i => by
        rw [Nat.testBit_or, zS_bit, zKr_bit, zS_bit, Nat.testBit_or]
        cases p.testBit i <;> cases (c d).testBit i <;> cases decide (l = i) <;> rfl)
      show zCh D H O n (d + 1) (p ||| 2 ^ l ||| zKr (c d) l) _
      rw [e]
      refine ih (d + 1) _ (fun o ho hw => ?_) h5
      rw [Nat.testBit_or, hk o ho hw]; rfl
theorem zCh_mx {D : zD} {H : Nat → Bool} {O : Nat → Nat → Bool} (h9 : dN D ≤ 9) : ∀ n d p c, zCh D H O n d p c → ∃ c', zCm D H O n d p c' := by
  intro n
  induction n with
  | zero => intro d p c h; exact ⟨c, h⟩
  | succ n ih =>
    intro d p
    have key : ∀ k c, zUn D (p ||| c d) < k → zCh D H O (n + 1) d p c → ∃ c', zCm D H O (n + 1) d p c' := by
      intro k
      induction k with
      | zero => intro c h _; omega
      | succ k ihk =>
        intro c hk h
        obtain ⟨h1, h2, h3, h4, h5⟩ := h
        by_cases hm : zKo D H O d p (c d)
        · obtain ⟨l, hl, m1, m2, m3, m4, m5⟩ := hm
          have hun := zUn_lt hl m1 m2
          have ed : (fun e => if e = d then c d ||| 2 ^ l else zKr (c e) l) d = c d ||| 2 ^ l := if_pos rfl
          refine ihk (fun e => if e = d then c d ||| 2 ^ l else zKr (c e) l) (by rw [if_pos rfl]; omega) ⟨?_, ?_, ?_, ?_, ?_⟩
          · rw [ed]; exact zS_lt h1 (by omega)
          · rw [ed]
            intro i hi
            rw [zS_bit, Bool.or_eq_true, decide_eq_true_eq] at hi
            rcases hi with q | q
            · exact h2 i q
            · subst q; exact ⟨hl, m1⟩
          · rw [ed]
            intro m hmN hb
            have up : ∀ o, p.testBit o = true ∨ (c d).testBit o = true → p.testBit o = true ∨ (c d ||| 2 ^ l).testBit o = true := fun o q => q.imp id (fun q => by rw [zS_bit, q]; rfl)
            rw [zS_bit, Bool.or_eq_true, decide_eq_true_eq] at hb
            rcases hb with q | q
            · exact ⟨(h3 m hmN q).1, fun o ho hw => up o ((h3 m hmN q).2 o ho hw)⟩
            · subst q
              exact ⟨m3, fun o ho hw => up o (m4 o (by omega) hw)⟩
          · rw [ed]; exact m5
          · rw [ed]
            have e : p ||| (c d ||| 2 ^ l) = p ||| c d ||| 2 ^ l := Nat.eq_of_testBit_eq (fun i => by
              rw [Nat.testBit_or, zS_bit, zS_bit, Nat.testBit_or, Bool.or_assoc])
            rw [e]
            refine zCh_congr n (d + 1) _ (fun e he _ => ?_) (zCh_rm hl n (d + 1) _ (fun o ho hw => ?_) h5)
            · show zKr (c e) l = if e = d then c d ||| 2 ^ l else zKr (c e) l
              rw [if_neg (by omega)]
            · rw [Nat.testBit_or, Bool.or_eq_true]
              exact m4 o (by omega) (by rw [hw, Bool.or_true])
        · obtain ⟨c1, hc1⟩ := ih (d + 1) _ c h5
          have ed : (fun e => if e = d then c d else c1 e) d = c d := if_pos rfl
          refine ⟨fun e => if e = d then c d else c1 e, ?_, ?_, ?_, ?_, ?_, ?_⟩
          · rw [ed]; exact h1
          · rw [ed]; exact h2
          · rw [ed]; exact h3
          · rw [ed]; exact h4
          · rw [ed]; exact hm
          · rw [ed]
            exact zCm_congr n (d + 1) _ (fun e he _ => by
              show c1 e = if e = d then c d else c1 e
              rw [if_neg (by omega)]) hc1
    intro c h
    exact key _ c (Nat.lt_succ_self _) h
def zVm (D : zD) (H : Nat → Bool) (O : Nat → Nat → Bool) (d s m : Nat) : Prop := (m.testBit 0 = false → m.testBit 1 = false) ∧ (m.testBit 0 = true → (m.testBit 1 = true ↔ zDk D H O d s))
def zMr (D : zD) (H : Nat → Bool) (O : Nat → Nat → Bool) (r : Nat) (f : Nat → Int32) : Prop := ∀ d s, d < 5 → s < 512 → ∃ m, m < 8 ∧ (f (d * 512 + s) = nI (8 * r + m) ∨ (m = 0 ∧ ∃ a b, a < r ∧ b < 8 ∧ f (d * 512 + s) = nI (8 * a + b))) ∧
  zVm D H O d s m ∧ (m.testBit 2 = true → ∀ c, ¬ zCm D H O (5 - d) d s c)
section ZFI
variable {G : sj_G} {σ : sj_S} {D : zD} {H : Nat → Bool} {O : Nat → Nat → Bool}
theorem z_marksOf (ok : sj_ok G) {r d s : Nat} (hr : r < 2 ^ 27) (h7 : σ 30 7 = nI r) (hd : d < 5) (hs : s < 512) (hM : zMr D H O r (σ 33)) : ∃ m, m < 8 ∧ sj_C G 2 me_X4_marksOf [.ref (sj_ad G 30), .int (nI d), .int (nI s)] σ (.ok (nI m), σ) ∧
    zVm D H O d s m ∧ (m.testBit 2 = true → ∀ c, ¬ zCm D H O (5 - d) d s c) := by
  obtain ⟨m, hm, hv, h0, h2⟩ := hM d s hd hs
  refine ⟨m, hm, c_X4_marksOf ok ?_, h0, h2⟩
  unfold wp_X4_marksOf_0 wp_X4_marksOf_31
  rw [pk_mul, nI_add, nI_clamp (by omega), h7]
  refine ⟨z_in (by omega) (by decide), ?_⟩
  rcases hv with e | ⟨e0, a, b, ha, hb, e⟩
  · rw [e, z_rs8 (by omega), if_pos (by congr 1; omega), z_and7]
    congr 3
    omega
  · rw [e, z_rs8 (by omega), if_neg (by rw [nI_eq (by omega) (by omega)]; omega), e0]
theorem z_mark (ok : sj_ok G) {r d s k : Nat} (hr : r < 2 ^ 27) (h7 : σ 30 7 = nI r) (hd : d < 5) (hs : s < 512) (hk : k < 8) (hM : zMr D H O r (σ 33)) (h0 : ∀ m, m < 8 → zVm D H O d s m → zVm D H O d s (m ||| k)) (h2 : k.testBit 2 = true → ∀ c, ¬ zCm D H O (5 - d) d s c) :
    ∃ σ', sj_C G 3 me_X4_mark [.ref (sj_ad G 30), .int (nI d), .int (nI s), .int (nI k)] σ (.ok 0, σ') ∧ (∀ b, b ≠ 33 → σ' b = σ b) ∧ zMr D H O r (σ' 33) := by
  obtain ⟨m, hm, hc, m0, m2⟩ := z_marksOf (σ := σ) ok hr h7 hd hs hM
  refine ⟨sj_st σ 33 (d * 512 + s) (nI (8 * r + (m ||| k))), c_X4_mark ok ⟨_, _, hc, ?_⟩, fun b hb => z_stn hb, fun d' s' hd' hs' => ?_⟩
  · rw [pk_mul, nI_add, nI_clamp (by omega), h7, z_sh8 (by omega), z_or8 hm]
    refine ⟨z_in (by omega) (by decide), ?_⟩
    rw [← z_or8 hm, ← z_or8 (z_mkor m hm k hk), ← nx_or m k]
    have e : ∀ x y z : Int32, x ||| y ||| z = x ||| (y ||| z) := fun x y z => by
      apply b_ext
      intro i hi
      rw [b_or, b_or, b_or, b_or, Bool.or_assoc]
    rw [e]
  · by_cases e : d' * 512 + s' = d * 512 + s
    · obtain rfl : d' = d := by omega
      obtain rfl : s' = s := by omega
      refine ⟨m ||| k, z_mkor m hm k hk, Or.inl z_ste, h0 m hm m0, fun h => ?_⟩
      rw [Nat.testBit_or, Bool.or_eq_true] at h
      rcases h with h | h
      · exact m2 h
      · exact h2 h
    · rw [z_sti e]
      exact hM d' s' hd' hs'
theorem z_and0 {x : Int32} {s : Nat} (hs : s < 512) : (x &&& nI s) = 0 ↔ ∀ i, i < 9 → bt x i = true → s.testBit i = false := by
  constructor
  · intro h i hi hb
    have := congrArg (fun y => bt y i) h
    simp only [b_and, b_0, hb, Bool.true_and, z_bn s i (by omega : i < 32)] at this
    exact this
  · intro h
    apply b_ext
    intro i hi
    rw [b_and, b_0, z_bn _ _ hi]
    by_cases h9 : i < 9
    · cases hb : bt x i
      · rfl
      · rw [h i h9 hb]; rfl
    · rw [zS_out hs (by omega), Bool.and_false]
theorem z_ifb {P : Prop} [Decidable P] {b : Bool} (h : b = true ↔ P) : (if P then nI 1 else nI 0) = (if b then nI 1 else nI 0) := by
  cases b
  · rw [if_neg (fun q => by cases h.mpr q), if_neg (by decide)]
  · rw [if_pos (h.mp rfl), if_pos rfl]
theorem z_d15 : ∀ d, d < 5 → ∀ i, i < 32 → bt ((nI 15) <<< (nI (d * 4) &&& 31)) i = decide (i / 4 = d) := by decide +kernel
theorem z_mayJoin (ok : sj_ok G) (v : okD D) (hR : zRuO D H O σ 18) {d l s p : Nat} {x5 : Int32} {K : Nat → Bool} (hK : ∀ i, i < 32 → bt x5 i = K i) (hd : d < 5) (hl : l < dN D) (hs : s < 512) (hp : p < 512) (hpN : ∀ i, p.testBit i = true → i < dN D) : ∃ b : Bool, sj_C G 2 me_X4_mayJoin [.ref (sj_ad G 30), .int (nI d), .int (nI l), .int (nI s), .int (nI p), .int x5] σ (.ok (if b then nI 1 else nI 0), σ) ∧
    (b = true ↔ (∃ i, i < 4 ∧ O l (d * 4 + i) = true) ∧ (∀ o, o < dN D → zWo D H l o = true → p.testBit o = false) ∧ ∀ o, o < 32 → K o = true → (zWa D H l o || zWo D H l o) = true → p.testBit o = true ∨ s.testBit o = true) := by
  have h9 := v.1
  obtain ⟨r1, -, -, -, r5, -, r7, -⟩ := hR.2 l hl
  have hin : vp_in (nI l) 9 := z_in (by omega) (by decide)
  -- the three conditions
  have c1 : (((σ 19 l) >>> ((nI d * nI 4) &&& 31)) &&& nI 15) = 0 ↔ ¬ ∃ i, i < 4 ∧ O l (d * 4 + i) = true := by
    rw [pk_mul]
    have b15 : ∀ i, i < 32 → bt (nI 15) i = decide (i < 4) := by decide +kernel
    constructor
    · rintro h ⟨i, hi, ho⟩
      have := congrArg (fun y => bt y i) h
      simp only [b_and, b_0] at this
      rw [b_sshr (d * 4) (by omega) _ (by omega), if_pos (by omega), b15 i (by omega), r1 _ (by omega), decide_eq_true (by omega : d * 4 + i < 20), ho, decide_eq_true hi] at this
      cases this
    · intro h
      apply b_ext
      intro i hi
      rw [b_and, b_0, b15 i hi]
      by_cases h4 : i < 4
      · rw [b_sshr (d * 4) (by omega) _ hi, if_pos (by omega), r1 _ (by omega)]
        cases ho : O l (d * 4 + i)
        · simp
        · exact absurd ⟨i, h4, ho⟩ h
      · rw [decide_eq_false h4, Bool.and_false]
  have c2 : (σ 23 l &&& nI p) = 0 ↔ ∀ o, o < dN D → zWo D H l o = true → p.testBit o = false := by
    rw [z_and0 hp]
    constructor
    · intro h o ho hw
      exact h o (by omega) (by rw [r5 o (by omega)]; exact hw)
    · intro h o ho hb
      rw [r5 o (by omega)] at hb
      cases hpo : p.testBit o
      · rfl
      · have := h o (hpN o hpo) hb
        rw [hpo] at this
        exact this
  have c3 : (((σ 25 l ||| σ 23 l) &&& x5) &&& ((nI p ||| nI s) ^^^ (-1))) = 0 ↔ ∀ o, o < 32 → K o = true → (zWa D H l o || zWo D H l o) = true → p.testBit o = true ∨ s.testBit o = true := by
    have hb : ∀ i, i < 32 → bt (((σ 25 l ||| σ 23 l) &&& x5) &&& ((nI p ||| nI s) ^^^ (-1))) i = ((zWa D H l i || zWo D H l i) && K i && !(p.testBit i || s.testBit i)) := fun i hi => by
      rw [b_and, b_and, b_or, b_xor, b_or, b_m1 i hi, Bool.xor_true, z_bn _ _ hi, z_bn _ _ hi, r7 i hi, r5 i hi, hK i hi]
      rfl
    constructor
    · intro h o ho hk hw
      have := congrArg (fun y => bt y o) h
      simp only [b_0] at this
      rw [hb o (by omega), hw, hk] at this
      simp only [Bool.true_and, Bool.not_eq_false', Bool.or_eq_true] at this
      exact this
    · intro h
      apply b_ext
      intro i hi
      rw [b_0, hb i hi]
      cases hw : (zWa D H l i || zWo D H l i)
      · rfl
      · cases hil : K i
        · rfl
        · rcases h i hi hil hw with e | e
          · rw [e]; simp
          · rw [e]; simp
  refine ⟨decide (¬ (((σ 19 l) >>> ((nI d * nI 4) &&& 31)) &&& nI 15) = 0 ∧ (σ 23 l &&& nI p) = 0 ∧ (((σ 25 l ||| σ 23 l) &&& x5) &&& ((nI p ||| nI s) ^^^ (-1))) = 0), c_X4_mayJoin ok ?_, ?_⟩
  · unfold wp_X4_mayJoin_0 wp_X4_mayJoin_75
    rw [nI_clamp (by omega)]
    refine ⟨hin, hin, hin, fun _ => hin, ?_, ?_⟩
    · by_cases q1 : (((σ 19 l) >>> ((nI d * nI 4) &&& 31)) &&& nI 15) = 0
      · rw [if_pos q1, decide_eq_false (fun q => q.1 q1)]; rfl
      · rw [if_neg q1]
        by_cases q2 : (σ 23 l &&& nI p) = 0
        · rw [if_pos q2]
          by_cases q3 : (((σ 25 l ||| σ 23 l) &&& x5) &&& ((nI p ||| nI s) ^^^ (-1))) = 0
          · rw [if_pos q3, decide_eq_true ⟨q1, q2, q3⟩]; rfl
          · rw [if_neg q3, decide_eq_false (fun q => q3 q.2.2)]; rfl
        · rw [if_neg q2, decide_eq_false (fun q => q2 q.2.1)]; rfl
    · repeat' split
      all_goals first | exact Or.inl rfl | exact Or.inr rfl
  · rw [decide_eq_true_eq, c1, c2, c3, Classical.not_not]
theorem z_mustJoin (ok : sj_ok G) (v : okD D) (hR : zRuO D H O σ 18) {d l s : Nat} (hd : d < 5) (hl : l < dN D) (hs : s < 512) : ∃ b : Bool, sj_C G 2 me_X4_mustJoin [.ref (sj_ad G 30), .int (nI d), .int (nI l), .int (nI s)] σ (.ok (if b then nI 1 else nI 0), σ) ∧
    (b = true ↔ (∀ i, (d + 1) * 4 ≤ i → i < 20 → O l i = false) ∨ ∃ o, o < 9 ∧ (zWa D H o l || zWo D H l o) = true ∧ s.testBit o = true) := by
  have h9 := v.1
  obtain ⟨r1, -, -, -, r5, -, -, r8, -⟩ := hR.2 l hl
  have hin : vp_in (nI l) 9 := z_in (by omega) (by decide)
  have c1 : ((σ 19 l) >>> (((nI d + nI 1) * nI 4) &&& 31)) = 0 ↔ ∀ i, (d + 1) * 4 ≤ i → i < 20 → O l i = false := by
    rw [nI_add, pk_mul]
    have b31 : bt (σ 19 l) 31 = false := by rw [r1 31 (by omega)]; rfl
    constructor
    · intro h i h1 h2
      have := congrArg (fun y => bt y (i - (d + 1) * 4)) h
      simp only [b_0] at this
      rw [b_sshr ((d + 1) * 4) (by omega) _ (by omega), if_pos (by omega), r1 _ (by omega), decide_eq_true (by omega : (d + 1) * 4 + (i - (d + 1) * 4) < 20), show (d + 1) * 4 + (i - (d + 1) * 4) = i by omega] at this
      exact this
    · intro h
      apply b_ext
      intro i hi
      rw [b_0, b_sshr ((d + 1) * 4) (by omega) _ hi, b31]
      split
      · rw [r1 _ (by omega)]
        by_cases h20 : (d + 1) * 4 + i < 20
        · rw [h _ (by omega) h20, Bool.and_false]
        · rw [decide_eq_false h20]; rfl
      · rfl
  have c2 : ((σ 26 l ||| σ 23 l) &&& nI s) = 0 ↔ ¬ ∃ o, o < 9 ∧ (zWa D H o l || zWo D H l o) = true ∧ s.testBit o = true := by
    have hb : ∀ o, o < 32 → bt (σ 26 l ||| σ 23 l) o = (zWa D H o l || zWo D H l o) := fun o ho => by
      rw [b_or, r8 o ho, r5 o ho]
      rfl
    rw [z_and0 hs]
    constructor
    · rintro h ⟨o, ho, h1, h2⟩
      rw [h o ho (by rw [hb o (by omega)]; exact h1)] at h2
      cases h2
    · intro h o ho h1
      rw [hb o (by omega)] at h1
      cases h2 : s.testBit o
      · rfl
      · exact absurd ⟨o, ho, h1, h2⟩ h
  refine ⟨decide (((σ 19 l) >>> (((nI d + nI 1) * nI 4) &&& 31)) = 0 ∨ ¬ ((σ 26 l ||| σ 23 l) &&& nI s) = 0), c_X4_mustJoin ok ?_, ?_⟩
  · unfold wp_X4_mustJoin_0 wp_X4_mustJoin_23 wp_X4_mustJoin_59
    rw [nI_clamp (by omega)]
    refine ⟨hin, fun _ => ⟨hin, hin⟩, ?_, ?_⟩
    · by_cases q1 : ((σ 19 l) >>> (((nI d + nI 1) * nI 4) &&& 31)) = 0
      · rw [if_pos q1, if_neg z_10, decide_eq_true (Or.inl q1)]; rfl
      · rw [if_neg q1, if_pos z_00]
        by_cases q2 : ((σ 26 l ||| σ 23 l) &&& nI s) = 0
        · rw [if_pos q2, decide_eq_false (fun q => q.elim q1 (fun r => r q2))]; rfl
        · rw [if_neg q2, decide_eq_true (Or.inr q2)]; rfl
    · repeat' split
      all_goals first | exact Or.inl rfl | exact Or.inr rfl
  · rw [decide_eq_true_eq, c1, c2, Classical.not_not]
theorem z_sl35 : zSl 35 := ⟨rfl, by decide, rfl⟩
def zKu (D : zD) (s p : Nat) : Nat := q_cnt (fun i => s.testBit i && !p.testBit i) (dN D)
theorem zKu_lt {D : zD} {s p m : Nat} (hm : m < dN D) (hs : s.testBit m = true) (hp : p.testBit m = false) : zKu D s (p ||| 2 ^ m) + 1 ≤ zKu D s p := by
  unfold zKu
  rw [q_cnt_rm (p := fun i => s.testBit i && !p.testBit i) (dN D) hm (by show (s.testBit m && !p.testBit m) = true; rw [hp, hs]; rfl)]
  refine Nat.add_le_add_right (q_cnt_mon (dN D) (fun i _ h => ?_)) 1
  have h : (s.testBit i && !(p ||| 2 ^ m).testBit i) = true := h
  rw [zS_bit] at h
  show (!decide (i = m) && (s.testBit i && !p.testBit i)) = true
  by_cases e : i = m
  · subst e
    rw [decide_eq_true rfl] at h
    simp at h
  · rw [decide_eq_false e, decide_eq_false (fun q => e q.symm)] at *
    simpa using h
theorem z_hours {G : sj_G} (ok : sj_ok G) {z : Int32} {f : Nat → Bool} (h : ∀ i, i < 32 → bt z i = (decide (i < 4) && f i)) : ∃ k, k ≤ 4 ∧ ∀ σ : sj_S, sj_C G 2 me_J6_bitCount_0f7a4 [.int z] σ (.ok (nI k), σ) := by
  have h2 : ∀ i, i < 32 → bt z i = (decide (i < 9) && (decide (i < 4) && f i)) := fun i hi => by
    rw [h i hi]
    by_cases q : i < 4
    · rw [decide_eq_true q, decide_eq_true (by omega : i < 9)]; rfl
    · rw [decide_eq_false q]; simp
  refine ⟨q_cnt (fun i => decide (i < 4) && f i) 9, ?_, fun σ => z_bitsOf ok h2⟩
  refine Nat.le_trans (q_cnt_mon 9 (r := fun i => decide (i < 4)) (fun i _ q => ?_)) (by decide)
  rw [Bool.and_eq_true] at q
  exact q.1
theorem z_kn1 : ∀ m, m < 9 → ¬ nI m = (-1) := by decide +kernel
def zKs (D : zD) (H : Nat → Bool) (O : Nat → Nat → Bool) (d s p : Nat) (U : Nat → Nat) (b : Bool) (σ σ' : sj_S) : Prop := (∀ x, x ≠ 35 → σ' x = σ x) ∧ (∀ o, p.testBit o = true ∨ s.testBit o = false → σ' 35 o = σ 35 o) ∧
  (b = true → ∃ U' : Nat → Nat, (∀ o, p.testBit o = true → U' o = U o) ∧ ∀ m, m < dN D → s.testBit m = true → zGd D H O d s U' m ∧ σ' 35 m = nI (U' m)) ∧
  (b = false → ∀ U' : Nat → Nat, (∀ o, p.testBit o = true → U' o = U o) → ¬ ∀ m, m < dN D → s.testBit m = true → zGd D H O d s U' m)
def zKn (D : zD) (H : Nat → Bool) (O : Nat → Nat → Bool) (d s p : Nat) (U : Nat → Nat) (m : Nat) (x5 x6 : Int32) : Prop := m < dN D ∧ s.testBit m = true ∧ p.testBit m = false ∧ x5 = nI m ∧ ∀ i, i < 4 → bt x6 i = (zAl D H U (fun o => p.testBit o) m (d * 4 + i) && O m (d * 4 + i))
theorem z_canStandJ (ok : sj_ok G) (v : okD D) {d s : Nat} (hd : d < 5) (hs : s < 512) (hO : ∀ l, l < dN D → ∀ i, i < 20 → O l i = true → zOb D H l i (dW D) = true) : ∀ n p dep (U : Nat → Nat) (σ : sj_S), zKu D s p < n → n + 20 ≤ dep → p < 512 → (∀ o, p.testBit o = true → o < dN D ∧ s.testBit o = true) → zRuO D H O σ 18 → (∀ o, o < dN D → p.testBit o = true → σ 35 o = nI (U o) ∧ zGd D H O d p U o) →
    ∃ (b : Bool) (σ' : sj_S), sj_C G dep me_X4_canStand [.ref (sj_ad G 18), .ref (sj_ad G 35), .int (nI d), .int (nI s), .int (nI p)] σ (.ok (if b then nI 1 else nI 0), σ') ∧ zKs D H O d s p U b σ σ' := by
  have h9 := v.1
  intro n
  induction n with
  | zero => intro p dep U σ hn; omega
  | succ n ih =>
    intro p dep U σ hn hdep hp hpN hR hU
    have hbits : ∀ o, o < 32 → bt (nI p) o = p.testBit o := fun o ho => z_bn _ _ ho
    have b15 : ∀ i, i < 32 → bt (nI 15) i = decide (i < 4) := by decide +kernel
    -- an extension keeps what is needed
    have hext : ∀ U' : Nat → Nat, (∀ o, p.testBit o = true → U' o = U o) → ∀ m, m < dN D → s.testBit m = true → zGd D H O d s U' m → zAl D H U (fun o => p.testBit o) m (U' m) = true ∧ O m (U' m) = true ∧ U' m / 4 = d := fun U' hU' m hm hsm hg => by
      obtain ⟨g1, g2, g3⟩ := hg
      refine ⟨?_, g3, g1⟩
      rw [zAl_congr (T' := U') (fun o _ _ hq => (hU' o hq).symm)]
      exact zAl_mono (fun o _ _ hq => (hpN o hq).2) g2
    -- the hours of the lesson chosen
    have fin : ∀ x5 x6, ((x5 = (-1) ∧ ∀ o, o < dN D → s.testBit o = true → p.testBit o = true) ∨ ∃ m, zKn D H O d s p U m x5 x6) →
        ∃ (b : Bool) (σ' : sj_S), sj_J G dep me_X4_canStand (.ok (if b then nI 1 else nI 0), σ') 92 [.ref (sj_ad G 18), .ref (sj_ad G 35), .int (nI d), .int (nI s), .int (nI p), .int x5, .int x6, .null, .int (nI 0), .null] σ [] ∧ zKs D H O d s p U b σ σ' := by
      rintro x5 x6 (⟨rfl, hall⟩ | ⟨m, hm, hsm, hpm, rfl, hb6⟩)
      · refine ⟨true, σ, t_X4_canStand_92 (dd := dep - 1) (by omega) (by omega) ⟨fun q => absurd q (nI_ge (by decide) (by decide)), fun _ => ⟨fun _ => ?_, fun q => absurd rfl q⟩⟩, fun _ _ => rfl, fun _ _ => rfl, fun _ => ⟨U, fun _ _ => rfl, fun m hm hsm => ?_⟩, fun q => by cases q⟩
        · unfold wp_X4_canStand_149 wp_X4_canStand_160
          rw [if_pos rfl]
          exact ⟨rfl, Or.inr rfl⟩
        · obtain ⟨u1, u2⟩ := hU m hm (hall m hm hsm)
          exact ⟨⟨u2.1, zAl_mono (fun o ho _ hq => hall o ho hq) u2.2.1, u2.2.2⟩, u1⟩
      · have hne : ∀ o, p.testBit o = true ∨ s.testBit o = false → o ≠ m := fun o ho e => by
          subst e
          rcases ho with h | h
          · rw [hpm] at h; cases h
          · rw [hsm] at h; cases h
        have key : ∀ k i (σ1 : sj_S), i + k = 4 → (∀ x, x ≠ 35 → σ1 x = σ x) → (∀ o, p.testBit o = true ∨ s.testBit o = false → σ1 35 o = σ 35 o) →
            (∀ U' : Nat → Nat, (∀ o, p.testBit o = true → U' o = U o) → U' m % 4 < i → ¬ ∀ m, m < dN D → s.testBit m = true → zGd D H O d s U' m) →
            ∃ (b : Bool) (σ' : sj_S), sj_J G dep me_X4_canStand (.ok (if b then nI 1 else nI 0), σ') 92 [.ref (sj_ad G 18), .ref (sj_ad G 35), .int (nI d), .int (nI s), .int (nI p), .int (nI m), .int x6, .null, .int (nI i), .null] σ1 [] ∧ zKs D H O d s p U b σ σ' := by
          intro k
          induction k with
          | zero =>
            intro i σ1 hi f1 f2 hno
            obtain rfl : i = 4 := by omega
            refine ⟨false, σ1, t_X4_canStand_92 (dd := dep - 1) (by omega) (by omega) ⟨fun _ => ?_, fun q => absurd (nI_le (Nat.le_refl 4) (by decide)) q⟩, f1, f2, fun q => (by cases q), fun _ U' hU' hg => hno U' hU' (by omega) hg⟩
            unfold wp_X4_canStand_149 wp_X4_canStand_160
            rw [if_neg (z_kn1 m (by omega))]
            exact ⟨rfl, Or.inl rfl⟩
          | succ k ihk =>
            intro i σ1 hi f1 f2 hno
            have hilt : ¬ nI 4 ≤ nI i := nI_ge (by omega) (by decide)
            have hi20 : d * 4 + i < 20 := by omega
            cases hb : bt x6 i
            · -- no hour for it
              have hz : (zAl D H U (fun o => p.testBit o) m (d * 4 + i) && O m (d * 4 + i)) = false := by rw [← hb6 i (by omega)]; exact hb
              obtain ⟨b, σ', r1, r2⟩ := ihk (i + 1) σ1 (by omega) f1 f2 (fun U' hU' hlt hg => by
                by_cases e : U' m % 4 = i
                · obtain ⟨a1, a2, a3⟩ := hext U' hU' m hm hsm (hg m hm hsm)
                  rw [show U' m = d * 4 + i by omega] at a1 a2
                  rw [a1, a2] at hz
                  cases hz
                · exact hno U' hU' (by omega) hg)
              refine ⟨b, σ', t_X4_canStand_92 (dd := dep - 1) (by omega) (by omega) ⟨fun q => absurd q hilt, fun _ => ⟨fun q => absurd q (z_kn1 m (by omega)), fun _ => ⟨fun _ => ?_, fun q => ?_⟩⟩⟩, r2⟩
              · unfold wp_X4_canStand_143
                rw [nI_add]
                exact r1
              · rw [z_bit (by omega)] at q
                exact absurd hb q
            · -- an hour: on with the lessons left
              have hz : (zAl D H U (fun o => p.testBit o) m (d * 4 + i) && O m (d * 4 + i)) = true := by rw [← hb6 i (by omega)]; exact hb
              rw [Bool.and_eq_true] at hz
              have hR1 : zRuO D H O (sj_st σ1 35 m (nI (d * 4 + i))) 18 := by
                have e : ∀ b, b ≠ 35 → (sj_st σ1 35 m (nI (d * 4 + i))) b = σ b := fun b hb => by rw [z_stn hb]; exact f1 b hb
                unfold zRuO
                rw [e 18 (by decide), e (18 + 1) (by decide), e (18 + 2) (by decide), e (18 + 3) (by decide), e (18 + 4) (by decide), e (18 + 5) (by decide), e (18 + 6) (by decide), e (18 + 7) (by decide), e (18 + 8) (by decide), e (18 + 9) (by decide), e (18 + 10) (by decide)]
                exact hR
              have hadd := zGd_add (U := U) hm hpm hz.1 hz.2 (by omega) (fun o ho hq => (hU o ho hq).2)
              obtain ⟨b, σ2, q1, q2, q3, q4, q5⟩ := ih (p ||| 2 ^ m) (dep - 1) (zEu U m (d * 4 + i)) (sj_st σ1 35 m (nI (d * 4 + i))) (by have := zKu_lt hm hsm hpm; omega) (by omega) (zS_lt hp (by omega)) (fun o ho => by
                rw [zS_bit, Bool.or_eq_true, decide_eq_true_eq] at ho
                rcases ho with h | h
                · exact hpN o h
                · subst h; exact ⟨hm, hsm⟩) hR1 (fun o ho hb => ⟨by
                  unfold zEu
                  by_cases e : o = m
                  · subst e
                    rw [z_ste, if_pos rfl]
                  · rw [z_sti e, if_neg e]
                    rw [zS_bit, decide_eq_false (fun q => e q.symm), Bool.or_false] at hb
                    rw [f2 o (Or.inl hb)]
                    exact (hU o ho hb).1, hadd o ho hb⟩)
              have f1' : ∀ x, x ≠ 35 → σ2 x = σ x := fun x hx => by rw [q2 x hx, z_stn hx]; exact f1 x hx
              have f2' : ∀ o, p.testBit o = true ∨ s.testBit o = false → σ2 35 o = σ 35 o := fun o ho => by
                rw [q3 o (ho.imp (fun h => by rw [zS_bit, h]; rfl) id), z_sti (hne o ho)]
                exact f2 o ho
              have hst : vp_in (nI m) 9 := z_in (by omega) (by decide)
              have hstep : ∀ R : sj_R, ((if b then nI 1 else nI 0) = 0 → sj_J G dep me_X4_canStand R 92 [.ref (sj_ad G 18), .ref (sj_ad G 35), .int (nI d), .int (nI s), .int (nI p), .int (nI m), .int x6, .null, .int (nI (i + 1)), .null] σ2 []) → (¬ (if b then nI 1 else nI 0) = 0 → R = (.ok (nI 1), σ2)) → sj_J G dep me_X4_canStand R 92 [.ref (sj_ad G 18), .ref (sj_ad G 35), .int (nI d), .int (nI s), .int (nI p), .int (nI m), .int x6, .null, .int (nI i), .null] σ1 [] := fun R k0 k1 => by
                refine t_X4_canStand_92 (dd := dep - 1) (by omega) (by omega) ⟨fun q => absurd q hilt, fun _ => ⟨fun q => absurd q (z_kn1 m (by omega)), fun _ => ⟨fun q => ?_, fun _ => ⟨hst, ?_⟩⟩⟩⟩
                · rw [z_bit (by omega)] at q
                  rw [hb] at q
                  cases q
                · rw [nI_clamp (by omega), z_set1 (by omega), pk_mul, nI_add]
                  refine ⟨_, _, q1, fun q => ?_, k1⟩
                  unfold wp_X4_canStand_143
                  rw [nI_add]
                  exact k0 q
              cases b
              · -- in vain
                obtain ⟨b2, σ', r1, r2⟩ := ihk (i + 1) σ2 (by omega) f1' f2' (fun U' hU' hlt hg => by
                  by_cases e : U' m % 4 = i
                  · obtain ⟨a1, a2, a3⟩ := hext U' hU' m hm hsm (hg m hm hsm)
                    refine q5 rfl U' (fun o ho => ?_) hg
                    unfold zEu
                    by_cases e2 : o = m
                    · rw [if_pos e2, e2]
                      omega
                    · rw [if_neg e2]
                      rw [zS_bit, decide_eq_false (fun q => e2 q.symm), Bool.or_false] at ho
                      exact hU' o ho
                  · exact hno U' hU' (by omega) hg)
                exact ⟨b2, σ', hstep _ (fun _ => r1) (fun q => absurd z_00 q), r2⟩
              · -- found
                obtain ⟨U', u1, u2⟩ := q4 rfl
                refine ⟨true, σ2, hstep _ (fun q => absurd q z_10) (fun _ => rfl), f1', f2', fun _ => ⟨U', fun o ho => ?_, u2⟩, fun q => by cases q⟩
                rw [u1 o (by rw [zS_bit, ho]; rfl)]
                unfold zEu
                rw [if_neg (hne o (Or.inl ho))]
        exact key 4 0 σ (by decide) (fun _ _ => rfl) (fun _ _ => rfl) (fun U' _ hlt => absurd hlt (Nat.not_lt_zero _))
    -- which lesson is next
    have sel : ∀ k l x5 x6 x7, l + k = dN D → ((x5 = (-1) ∧ x7 = nI 5 ∧ ∀ o, o < l → s.testBit o = true → p.testBit o = true) ∨ ((∃ m, zKn D H O d s p U m x5 x6) ∧ ∃ j, j ≤ 4 ∧ x7 = nI j)) →
        ∃ x5' x6', ((x5' = (-1) ∧ ∀ o, o < dN D → s.testBit o = true → p.testBit o = true) ∨ ∃ m, zKn D H O d s p U m x5' x6') ∧ ∀ R, sj_J G dep me_X4_canStand R 92 [.ref (sj_ad G 18), .ref (sj_ad G 35), .int (nI d), .int (nI s), .int (nI p), .int x5', .int x6', .null, .int (nI 0), .null] σ [] → sj_J G dep me_X4_canStand R 12 [.ref (sj_ad G 18), .ref (sj_ad G 35), .int (nI d), .int (nI s), .int (nI p), .int x5, .int x6, .int x7, .int (nI l), .null] σ [] := by
      intro k
      induction k with
      | zero =>
        intro l x5 x6 x7 hl hsel
        obtain rfl : l = dN D := by omega
        refine ⟨x5, x6, ?_, fun R hJ => t_X4_canStand_12 (dd := dep - 1) (by omega) (by omega) ⟨fun _ => hJ, fun q => ?_⟩⟩
        · rcases hsel with ⟨a, -, b⟩ | ⟨a, -⟩
          · exact Or.inl ⟨a, b⟩
          · exact Or.inr a
        · rw [hR.1] at q
          exact absurd (nI_le (Nat.le_refl _) (by omega)) q
      | succ k ihk =>
        intro l x5 x6 x7 hl hsel
        have hlt : ¬ (σ 18 0) ≤ nI l := by rw [hR.1]; exact nI_ge (by omega) (by omega)
        by_cases h0 : x7 ≤ 0
        · -- none has fewer
          refine ⟨x5, x6, ?_, fun R hJ => t_X4_canStand_12 (dd := dep - 1) (by omega) (by omega) ⟨fun q => absurd q hlt, fun _ => ⟨fun _ => hJ, fun q => absurd h0 q⟩⟩⟩
          rcases hsel with ⟨-, b, -⟩ | ⟨a, -⟩
          · rw [b] at h0
            exact absurd h0 (by decide)
          · exact Or.inr a
        · have hbit : ((((nI s &&& (nI p ^^^ (-1))) >>> (nI l &&& 31)) &&& nI 1) = 0) ↔ (s.testBit l && !p.testBit l) = false := by
            rw [z_bit (by omega), b_and, b_xor, b_m1 l (by omega), Bool.xor_true, z_bn _ _ (by omega), z_bn _ _ (by omega)]
          cases hsp : (s.testBit l && !p.testBit l)
          · -- not of those
            obtain ⟨y5, y6, h1, h2⟩ := ihk (l + 1) x5 x6 x7 (by omega) (by
              rcases hsel with ⟨a, b, c⟩ | a
              · refine Or.inl ⟨a, b, fun o ho hso => ?_⟩
                by_cases e : o = l
                · subst e
                  rw [hso] at hsp
                  simpa using hsp
                · exact c o (by omega) hso
              · exact Or.inr a)
            refine ⟨y5, y6, h1, fun R hJ => t_X4_canStand_12 (dd := dep - 1) (by omega) (by omega) ⟨fun q => absurd q hlt, fun _ => ⟨fun q => absurd q h0, fun _ => ⟨fun _ => ?_, fun q => absurd (hbit.mpr hsp) q⟩⟩⟩⟩
            unfold wp_X4_canStand_83
            rw [nI_add]
            exact h2 R hJ
          · have hsl : s.testBit l = true ∧ p.testBit l = false := by
              rw [Bool.and_eq_true, Bool.not_eq_true'] at hsp
              exact hsp
            obtain ⟨r, hal, hr⟩ := z_allowedO (σ := σ) (T := U) ok v (Or.inr rfl) z_sl35 hR (by omega : l < dN D) (x3 := nI p) (hO l (by omega)) (fun o ho hne hb => by
              rw [hbits o (by omega)] at hb
              obtain ⟨u1, -, u2, -⟩ := hU o ho hb
              exact ⟨u1, zAl_20 u2⟩)
            have hr2 : ∀ i, i < 20 → bt r i = (zAl D H U (fun o => p.testBit o) l i && O l i) := fun i hi => by
              rw [hr i (by omega), zAl_H (fun _ _ => rfl) (fun o ho => hbits o (by omega))]
            have hh : ∀ i, i < 32 → bt ((r >>> ((nI d * nI 4) &&& 31)) &&& nI 15) i = (decide (i < 4) && (zAl D H U (fun o => p.testBit o) l (d * 4 + i) && O l (d * 4 + i))) := fun i hi => by
              rw [pk_mul, b_and, b15 i hi]
              by_cases h4 : i < 4
              · rw [b_sshr (d * 4) (by omega) _ hi, if_pos (by omega), hr2 _ (by omega), decide_eq_true h4, Bool.and_true, Bool.true_and]
              · rw [decide_eq_false h4, Bool.and_false, Bool.false_and]
            obtain ⟨kk, hkk, hbc⟩ := z_hours ok hh
            have hst : vp_in (nI l) 9 := z_in (by omega) (by decide)
            by_cases h7 : x7 ≤ nI kk
            · -- the one before stays
              obtain ⟨y5, y6, h1, h2⟩ := ihk (l + 1) x5 x6 x7 (by omega) (by
                rcases hsel with ⟨-, b, -⟩ | a
                · rw [b] at h7
                  exact absurd h7 (nI_ge (by omega) (by decide))
                · exact Or.inr a)
              refine ⟨y5, y6, h1, fun R hJ => t_X4_canStand_12 (dd := dep - 1) (by omega) (by omega) ⟨fun q => absurd q hlt, fun _ => ⟨fun q => absurd q h0, fun _ => ⟨fun q => ?_, fun _ => ⟨_, _, hal, _, _, hbc σ, fun _ => ?_, fun q => absurd h7 q⟩⟩⟩⟩⟩
              · rw [hbit.mp q] at hsp
                cases hsp
              · unfold wp_X4_canStand_83
                rw [nI_add]
                exact h2 R hJ
            · -- this one is the next
              obtain ⟨y5, y6, h1, h2⟩ := ihk (l + 1) (nI l) ((r >>> ((nI d * nI 4) &&& 31)) &&& nI 15) (nI kk) (by omega) (Or.inr ⟨⟨l, by omega, hsl.1, hsl.2, rfl, fun i hi => by rw [hh i (by omega), decide_eq_true hi, Bool.true_and]⟩, kk, hkk, rfl⟩)
              refine ⟨y5, y6, h1, fun R hJ => t_X4_canStand_12 (dd := dep - 1) (by omega) (by omega) ⟨fun q => absurd q hlt, fun _ => ⟨fun q => absurd q h0, fun _ => ⟨fun q => ?_, fun _ => ⟨_, _, hal, _, _, hbc σ, fun q => absurd q h7, fun _ => ⟨_, _, hbc σ, ?_⟩⟩⟩⟩⟩⟩
              · rw [hbit.mp q] at hsp
                cases hsp
              · unfold wp_X4_canStand_83
                rw [nI_add]
                exact h2 R hJ
    obtain ⟨x5, x6, he, hJ⟩ := sel (dN D) 0 (-1) (nI 0) (nI 5) (by omega) (Or.inl ⟨rfl, rfl, fun o ho => absurd ho (Nat.not_lt_zero _)⟩)
    obtain ⟨b, σ', hj, hz⟩ := fin x5 x6 he
    exact ⟨b, σ', c_X4_canStand (dd := dep - 1) ok (by omega) (by omega) (hJ _ hj), hz⟩
theorem z_canStand (ok : sj_ok G) (v : okD D) {d s : Nat} (hd : d < 5) (hs : s < 512) (hO : ∀ l, l < dN D → ∀ i, i < 20 → O l i = true → zOb D H l i (dW D) = true) (hR : zRuO D H O σ 18) :
    ∃ (b : Bool) (σ' : sj_S), sj_C G 40 me_X4_canStand [.ref (sj_ad G 18), .ref (sj_ad G 35), .int (nI d), .int (nI s), .int (nI 0)] σ (.ok (if b then nI 1 else nI 0), σ') ∧ (∀ b, b ≠ 35 → σ' b = σ b) ∧ (∀ o, s.testBit o = false → σ' 35 o = σ 35 o) ∧ (b = true ↔ zDk D H O d s) ∧
      (b = true → ∃ U : Nat → Nat, (∀ m, m < dN D → s.testBit m = true → zGd D H O d s U m) ∧ ∀ o, o < dN D → s.testBit o = true → σ' 35 o = nI (U o)) := by
  have h9 := v.1
  have hz : ∀ o, ¬ Nat.testBit 0 o = true := fun o ho => by rw [Nat.zero_testBit] at ho; cases ho
  obtain ⟨b, σ', r1, r2, r3, r4, r5⟩ := z_canStandJ ok v hd hs hO 10 0 40 (fun _ => 0) σ (Nat.lt_of_le_of_lt (q_cnt_le _ _) (by omega)) (by decide) (by decide) (fun o ho => absurd ho (hz o)) hR (fun o _ ho => absurd ho (hz o))
  refine ⟨b, σ', r1, r2, fun o ho => r3 o (Or.inr ho), ⟨fun hb => ?_, fun hk => ?_⟩, fun hb => ?_⟩
  · obtain ⟨U, -, u2⟩ := r4 hb
    exact ⟨U, fun m hm hs => (u2 m hm hs).1⟩
  · cases hb : b
    · exfalso
      obtain ⟨U, hU⟩ := hk
      exact r5 hb U (fun o ho => absurd ho (hz o)) (fun m hm hs => hU m hm hs)
    · rfl
  · obtain ⟨U, -, u2⟩ := r4 hb
    exact ⟨U, fun m hm hs => (u2 m hm hs).1, fun o ho hs => (u2 o ho hs).2⟩
end ZFI
