/-! COLOURS 1: the colouring, and that it is right -/
theorem q_pig {R : Nat → Nat → Bool} {n : Nat} : ∀ M, (∀ x, x < M → ∃ i, i < n ∧ R x i = true) → (∀ x y i, x < M → y < M → R x i = true → R y i = true → x = y) → M ≤ q_cnt (fun i => q_any (fun x => R x i) M) n := by
  intro M
  induction M with
  | zero => intro _ _; exact Nat.zero_le _
  | succ M ih =>
    intro h1 h2
    have h3 := ih (fun x hx => h1 x (by omega)) (fun x y i hx hy => h2 x y i (by omega) (by omega))
    obtain ⟨i0, hi, hr⟩ := h1 M (by omega)
    have e := q_cnt_rm (p := fun i => q_any (fun x => R x i) (M + 1)) n hi ((q_any_iff _).mpr ⟨M, by omega, hr⟩)
    have h4 : q_cnt (fun i => q_any (fun x => R x i) M) n ≤ q_cnt (fun o => !decide (o = i0) && q_any (fun x => R x o) (M + 1)) n := by
      refine q_cnt_mon n (fun i _ hq => ?_)
      obtain ⟨x, hx, hR⟩ := (q_any_iff _).mp hq
      have hne : ¬ i = i0 := by
        intro q
        subst q
        have := h2 x M i (by omega) (by omega) hR hr
        omega
      show (!decide (i = i0) && q_any (fun x => R x i) (M + 1)) = true
      rw [decide_eq_false hne, (q_any_iff _).mpr ⟨x, by omega, hR⟩]
      rfl
    rw [e]
    omega
def zFc (D : zD) (c : Nat → Nat) (b p x : Nat) : Nat → Nat → Option Nat
  | 0, _ => none
  | k + 1, i => if dP D b i = p ∧ c i = x then some i else zFc D c b p x k (i + 1)
theorem zFc_s {D : zD} {c : Nat → Nat} {b p x k i : Nat} : zFc D c b p x (k + 1) i = if dP D b i = p ∧ c i = x then some i else zFc D c b p x k (i + 1) := rfl
theorem zFc_some {D : zD} {c : Nat → Nat} {b p x o : Nat} : ∀ k i, zFc D c b p x k i = some o → i ≤ o ∧ o < i + k ∧ dP D b o = p ∧ c o = x := by
  intro k
  induction k with
  | zero => intro i h; cases h
  | succ k ih =>
    intro i h
    rw [zFc_s] at h
    by_cases q : dP D b i = p ∧ c i = x
    · rw [if_pos q] at h
      cases h
      exact ⟨Nat.le_refl _, by omega, q.1, q.2⟩
    · rw [if_neg q] at h
      obtain ⟨h1, h2, h3⟩ := ih (i + 1) h
      exact ⟨by omega, by omega, h3⟩
theorem zFc_none {D : zD} {c : Nat → Nat} {b p x : Nat} : ∀ k i, zFc D c b p x k i = none ↔ ∀ o, i ≤ o → o < i + k → ¬ (dP D b o = p ∧ c o = x) := by
  intro k
  induction k with
  | zero => intro i; exact ⟨fun _ o h1 h2 => absurd h2 (by omega), fun _ => rfl⟩
  | succ k ih =>
    intro i
    rw [zFc_s]
    by_cases q : dP D b i = p ∧ c i = x
    · rw [if_pos q]
      exact ⟨fun h => (by cases h), fun h => absurd q (h i (Nat.le_refl _) (by omega))⟩
    · rw [if_neg q, ih]
      constructor
      · intro h o h1 h2
        by_cases e : o = i
        · rw [e]; exact q
        · exact h o (by omega) (by omega)
      · intro h o h1 h2
        exact h o (by omega) (by omega)
def zUd (D : zD) (c : Nat → Nat) (b p l x : Nat) : Bool := q_any (fun o => decide (dP D b o = p) && decide (c o = x)) l
theorem zUd_iff {D : zD} {c : Nat → Nat} {b p l x : Nat} : zUd D c b p l x = true ↔ ∃ o, o < l ∧ dP D b o = p ∧ c o = x := by
  unfold zUd
  rw [q_any_iff]
  constructor
  · rintro ⟨o, h1, h2⟩
    rw [Bool.and_eq_true, decide_eq_true_eq, decide_eq_true_eq] at h2
    exact ⟨o, h1, h2⟩
  · rintro ⟨o, h1, h2⟩
    exact ⟨o, h1, by rw [Bool.and_eq_true, decide_eq_true_eq, decide_eq_true_eq]; exact h2⟩
theorem zUd_f {D : zD} {c : Nat → Nat} {b p l x : Nat} (h : zUd D c b p l x = false) {o : Nat} (ho : o < l) (h1 : dP D b o = p) (h2 : c o = x) : False := by
  rw [zUd_iff.mpr ⟨o, ho, h1, h2⟩] at h
  cases h
theorem zFc_used {D : zD} {c : Nat → Nat} {b p l x : Nat} : zFc D c b p x l 0 = none ↔ zUd D c b p l x = false := by
  rw [zFc_none, ← Bool.not_eq_true, zUd_iff]
  constructor
  · rintro h ⟨o, h1, h2⟩
    exact h o (Nat.zero_le _) (by omega) h2
  · intro h o _ h1 h2
    exact h ⟨o, by omega, h2⟩
def zLs (f : Nat → Bool) : Nat → Nat → Nat
  | 0, i => i
  | k + 1, i => if f i then zLs f k (i + 1) else i
theorem zLs_s {f : Nat → Bool} {k i : Nat} : zLs f (k + 1) i = if f i then zLs f k (i + 1) else i := rfl
theorem zLs_spec {f : Nat → Bool} : ∀ k i, i ≤ zLs f k i ∧ zLs f k i ≤ i + k ∧ (∀ j, i ≤ j → j < zLs f k i → f j = true) ∧ (zLs f k i < i + k → f (zLs f k i) = false) := by
  intro k
  induction k with
  | zero => intro i; exact ⟨Nat.le_refl _, Nat.le_refl _, fun j h1 h2 => absurd h2 (by show ¬ j < i; omega), fun h => absurd h (by show ¬ i < i + 0; omega)⟩
  | succ k ih =>
    intro i
    rw [zLs_s]
    by_cases q : f i = true
    · rw [if_pos q]
      obtain ⟨h1, h2, h3, h4⟩ := ih (i + 1)
      refine ⟨by omega, by omega, fun j g1 g2 => ?_, fun g => h4 (by omega)⟩
      by_cases e : j = i
      · rw [e]; exact q
      · exact h3 j (by omega) g2
    · rw [if_neg q]
      exact ⟨Nat.le_refl _, by omega, fun j h1 h2 => absurd h2 (by omega), fun _ => by simpa using q⟩
def zPro (D : zD) (c : Nat → Nat) (l : Nat) : Prop := ∀ b i j, b ≤ 1 → i < l → j < l → dP D b i = dP D b j → c i = c j → i = j
theorem zPro_up {D : zD} {c : Nat → Nat} {l x : Nat} (h : zPro D c l) (hx : ∀ b i, b ≤ 1 → i < l → dP D b i = dP D b l → c i ≠ x) : zPro D (zEu c l x) (l + 1) := by
  intro b i j hb hi hj hd hc
  unfold zEu at hc
  by_cases e1 : i = l
  · by_cases e2 : j = l
    · omega
    · rw [if_pos e1, if_neg e2] at hc
      rw [e1] at hd
      exact absurd hc.symm (hx b j hb (by omega) hd.symm)
  · by_cases e2 : j = l
    · rw [if_neg e1, if_pos e2] at hc
      rw [e2] at hd
      exact absurd hc (hx b i hb (by omega) hd)
    · rw [if_neg e1, if_neg e2] at hc
      exact h b i j hb (by omega) (by omega) hd hc
theorem zLs_free {D : zD} {c : Nat → Nat} {b l M : Nat} (hl : l < dN D) (hM : zTot D b (dP D b l) (dN D) ≤ M) : zLs (zUd D c b (dP D b l) l) 9 0 < M := by
  apply Classical.byContradiction
  intro hq
  have hs := (zLs_spec (f := zUd D c b (dP D b l) l) 9 0).2.2.1
  have h1 := q_pig (R := fun x i => decide (dP D b i = dP D b l) && decide (c i = x)) (n := l) M (fun x hx => by
    obtain ⟨o, h1, h2, h3⟩ := zUd_iff.mp (hs x (Nat.zero_le _) (by omega))
    exact ⟨o, h1, by rw [Bool.and_eq_true, decide_eq_true_eq, decide_eq_true_eq]; exact ⟨h2, h3⟩⟩) (fun x y i _ _ h1 h2 => by
    rw [Bool.and_eq_true, decide_eq_true_eq, decide_eq_true_eq] at h1 h2
    omega)
  have h2 : q_cnt (fun i => q_any (fun x => decide (dP D b i = dP D b l) && decide (c i = x)) M) l ≤ zTot D b (dP D b l) l := by
    refine q_cnt_mon l (fun i _ hi => ?_)
    obtain ⟨x, _, hx⟩ := (q_any_iff _).mp hi
    rw [Bool.and_eq_true] at hx
    exact hx.1
  have h3 : zTot D b (dP D b l) (l + 1) = zTot D b (dP D b l) l + 1 := by
    rw [zTot_s, if_pos rfl]
  have h4 : zTot D b (dP D b l) (l + 1) ≤ zTot D b (dP D b l) (dN D) := q_cnt_mono (dN D) (by omega)
  omega
/-! ### the way -/
def zNw (D : zD) (c : Nat → Nat) (l p q k e : Nat) : Option Nat := if k % 2 = 0 then zFc D c 0 (dG D e) q l 0 else zFc D c 1 (dTe D e) p l 0
def zSq (D : zD) (c : Nat → Nat) (l p q : Nat) : Nat → Option Nat
  | 0 => zFc D c 1 (dTe D l) p l 0
  | k + 1 => match zSq D c l p q k with
    | none => none
    | some e => zNw D c l p q k e
def zXp (p q k : Nat) : Nat := if k % 2 = 0 then p else q
section ZKE
variable {D : zD} {c : Nat → Nat} {l p q : Nat}
theorem zSq_0 : zSq D c l p q 0 = zFc D c 1 (dTe D l) p l 0 := rfl
theorem zSq_n {k : Nat} (h : zSq D c l p q k = none) : zSq D c l p q (k + 1) = none := by
  show (match zSq D c l p q k with | none => none | some e => zNw D c l p q k e) = none
  rw [h]
theorem zSq_s {k e : Nat} (h : zSq D c l p q k = some e) : zSq D c l p q (k + 1) = zNw D c l p q k e := by
  show (match zSq D c l p q k with | none => none | some e => zNw D c l p q k e) = _
  rw [h]
theorem zSq_some {k e : Nat} (h : zSq D c l p q k = some e) : e < l ∧ c e = zXp p q k ∧ (k = 0 → dTe D e = dTe D l) ∧
    (∀ j, k = j + 1 → ∃ a, zSq D c l p q j = some a ∧ (j % 2 = 0 → dG D e = dG D a) ∧ (j % 2 = 1 → dTe D e = dTe D a)) := by
  cases k with
  | zero =>
    rw [zSq_0] at h
    obtain ⟨-, h2, h3, h4⟩ := zFc_some _ _ h
    exact ⟨by omega, h4, fun _ => h3, fun j hj => absurd hj (by omega)⟩
  | succ k =>
    cases ha : zSq D c l p q k with
    | none => rw [zSq_n ha] at h; cases h
    | some a =>
      rw [zSq_s ha] at h
      unfold zNw at h
      by_cases hk : k % 2 = 0
      · rw [if_pos hk] at h
        obtain ⟨-, h2, h3, h4⟩ := zFc_some _ _ h
        refine ⟨by omega, ?_, fun q => absurd q (by omega), fun j hj => ?_⟩
        · unfold zXp
          rw [if_neg (by omega)]
          exact h4
        · have : j = k := by omega
          subst this
          exact ⟨a, ha, fun _ => h3, fun q => absurd q (by omega)⟩
      · rw [if_neg hk] at h
        obtain ⟨-, h2, h3, h4⟩ := zFc_some _ _ h
        refine ⟨by omega, ?_, fun q => absurd q (by omega), fun j hj => ?_⟩
        · unfold zXp
          rw [if_pos (by omega)]
          exact h4
        · have : j = k := by omega
          subst this
          exact ⟨a, ha, fun q => absurd q hk, fun _ => h3⟩
theorem zXp_par (hne : p ≠ q) {i j : Nat} (h : zXp p q i = zXp p q j) : i % 2 = j % 2 := by
  unfold zXp at h
  by_cases h1 : i % 2 = 0
  · by_cases h2 : j % 2 = 0
    · omega
    · rw [if_pos h1, if_neg h2] at h
      exact absurd h hne
  · by_cases h2 : j % 2 = 0
    · rw [if_neg h1, if_pos h2] at h
      exact absurd h.symm hne
    · omega
theorem zXp_0 {k : Nat} (h : k % 2 = 0) : zXp p q k = p := if_pos h
theorem zXp_1 {k : Nat} (h : k % 2 = 1) : zXp p q k = q := if_neg (by omega)
theorem zSq_inj (hp : zPro D c l) (hq : zUd D c 1 (dTe D l) l q = false) (hne : p ≠ q) : ∀ i j e, i < j → zSq D c l p q i = some e → zSq D c l p q j = some e → False := by
  intro i
  induction i with
  | zero =>
    intro j e hij hi hj
    obtain ⟨-, c1, d1, -⟩ := zSq_some hi
    obtain ⟨-, c2, -, d2⟩ := zSq_some hj
    have hpar := zXp_par hne (c1.symm.trans c2)
    obtain ⟨a, ha, -, g2⟩ := d2 (j - 1) (by omega)
    obtain ⟨ha1, ha2, -, -⟩ := zSq_some ha
    rw [zXp_1 (by omega)] at ha2
    exact zUd_f hq ha1 ((g2 (by omega)).symm.trans (d1 rfl)) ha2
  | succ i ih =>
    intro j e hij hi hj
    obtain ⟨-, c1, -, d1⟩ := zSq_some hi
    obtain ⟨-, c2, -, d2⟩ := zSq_some hj
    have hpar := zXp_par hne (c1.symm.trans c2)
    obtain ⟨a, ha, f1, f2⟩ := d1 i rfl
    obtain ⟨b, hb, g1, g2⟩ := d2 (j - 1) (by omega)
    obtain ⟨la, ca, -, -⟩ := zSq_some ha
    obtain ⟨lb, cb, -, -⟩ := zSq_some hb
    have hc : c a = c b := by
      rw [ca, cb]
      unfold zXp
      by_cases h1 : i % 2 = 0
      · rw [if_pos h1, if_pos (by omega)]
      · rw [if_neg h1, if_neg (by omega)]
    have hab : a = b := by
      by_cases h1 : i % 2 = 0
      · exact hp 0 a b (by omega) la lb ((f1 h1).symm.trans (g1 (by omega))) hc
      · exact hp 1 a b (by omega) la lb ((f2 (by omega)).symm.trans (g2 (by omega))) hc
    subst hab
    exact ih (j - 1) a (by omega) ha hb
theorem zSq_end (hp : zPro D c l) (hq : zUd D c 1 (dTe D l) l q = false) (hne : p ≠ q) : ∃ n, n ≤ l ∧ zSq D c l p q n = none ∧ ∀ k, k < n → ∃ e, zSq D c l p q k = some e := by
  have key : ∀ m, (∀ k, k < m → ∃ e, zSq D c l p q k = some e) ∨ ∃ n, n < m ∧ zSq D c l p q n = none ∧ ∀ k, k < n → ∃ e, zSq D c l p q k = some e := by
    intro m
    induction m with
    | zero => exact Or.inl (fun k hk => absurd hk (by omega))
    | succ m ih =>
      rcases ih with h | ⟨n, h1, h2⟩
      · cases hm : zSq D c l p q m with
        | none => exact Or.inr ⟨m, by omega, hm, h⟩
        | some e =>
          left
          intro k hk
          by_cases e2 : k = m
          · subst e2; exact ⟨e, hm⟩
          · exact h k (by omega)
      · exact Or.inr ⟨n, by omega, h2⟩
  rcases key (l + 1) with h | ⟨n, h1, h2⟩
  · exfalso
    have h1 := q_pig (R := fun k i => decide (zSq D c l p q k = some i)) (n := l) (l + 1) (fun k hk => by
      obtain ⟨e, he⟩ := h k hk
      exact ⟨e, (zSq_some he).1, decide_eq_true he⟩) (fun x y i hx hy h1 h2 => by
      rw [decide_eq_true_eq] at h1 h2
      rcases Nat.lt_trichotomy x y with g | g | g
      · exact (zSq_inj hp hq hne x y i g h1 h2).elim
      · exact g
      · exact (zSq_inj hp hq hne y x i g h2 h1).elim)
    have h2 := q_cnt_le (fun i => q_any (fun x => decide (zSq D c l p q x = some i)) (l + 1)) l
    omega
  · exact ⟨n, by omega, h2⟩
theorem zSq_lt (hp : zPro D c l) (hq : zUd D c 1 (dTe D l) l q = false) (hne : p ≠ q) {k e : Nat} (h : zSq D c l p q k = some e) : k < l := by
  obtain ⟨n, h1, h2, -⟩ := zSq_end hp hq hne
  have key : ∀ m, zSq D c l p q (n + m) = none := by
    intro m
    induction m with
    | zero => exact h2
    | succ m ih => exact zSq_n ih
  apply Classical.byContradiction
  intro hk
  have := key (k - n)
  rw [show n + (k - n) = k by omega, h] at this
  cases this
def zOn (D : zD) (c : Nat → Nat) (l p q i : Nat) : Bool := q_any (fun k => decide (zSq D c l p q k = some i)) 9
theorem zOn_iff (hl : l ≤ 8) (hp : zPro D c l) (hq : zUd D c 1 (dTe D l) l q = false) (hne : p ≠ q) {i : Nat} : zOn D c l p q i = true ↔ ∃ k, zSq D c l p q k = some i := by
  unfold zOn
  rw [q_any_iff]
  constructor
  · rintro ⟨k, -, h⟩
    exact ⟨k, decide_eq_true_eq.mp h⟩
  · rintro ⟨k, h⟩
    have := zSq_lt hp hq hne h
    exact ⟨k, by omega, decide_eq_true h⟩
def zFl (D : zD) (c : Nat → Nat) (l p q i : Nat) : Nat := if zOn D c l p q i then p + q - c i else c i
theorem zSq_nb (hp : zPro D c l) (hq : zUd D c 1 (dTe D l) l q = false) (hne : p ≠ q) {k i j b : Nat} (h : zSq D c l p q k = some i) (hb : b ≤ 1) (hj : j < l) (hd : dP D b i = dP D b j) (hc : c j = p + q - c i) : ∃ k', zSq D c l p q k' = some j := by
  obtain ⟨hi, ci, d0, ds⟩ := zSq_some h
  by_cases hk : k % 2 = 0
  · rw [zXp_0 hk] at ci
    have cj : c j = q := by omega
    rcases (by omega : b = 0 ∨ b = 1) with e | e <;> subst e
    · -- the class: the next one
      refine ⟨k + 1, ?_⟩
      rw [zSq_s h]
      unfold zNw
      rw [if_pos hk]
      cases hz : zFc D c 0 (dG D i) q l 0 with
      | none => exact absurd ⟨hd.symm, cj⟩ ((zFc_none _ _).mp hz j (Nat.zero_le _) (by omega))
      | some e =>
        obtain ⟨-, h2, h3, h4⟩ := zFc_some _ _ hz
        rw [hp 0 e j (by omega) (by omega) hj (h3.trans hd) (h4.trans cj.symm)]
    · -- the teacher: the one ahead
      by_cases h0 : k = 0
      · exact (zUd_f hq hj (hd.symm.trans (d0 h0)) cj).elim
      · obtain ⟨a, ha, -, g2⟩ := ds (k - 1) (by omega)
        obtain ⟨la, ca, -, -⟩ := zSq_some ha
        rw [zXp_1 (by omega)] at ca
        have : a = j := hp 1 a j (by omega) la hj ((g2 (by omega)).symm.trans hd) (ca.trans cj.symm)
        exact ⟨k - 1, this ▸ ha⟩
  · have hk1 : k % 2 = 1 := by omega
    rw [zXp_1 hk1] at ci
    have cj : c j = p := by omega
    rcases (by omega : b = 0 ∨ b = 1) with e | e <;> subst e
    · obtain ⟨a, ha, g1, -⟩ := ds (k - 1) (by omega)
      obtain ⟨la, ca, -, -⟩ := zSq_some ha
      rw [zXp_0 (by omega)] at ca
      have : a = j := hp 0 a j (by omega) la hj ((g1 (by omega)).symm.trans hd) (ca.trans cj.symm)
      exact ⟨k - 1, this ▸ ha⟩
    · refine ⟨k + 1, ?_⟩
      rw [zSq_s h]
      unfold zNw
      rw [if_neg hk]
      cases hz : zFc D c 1 (dTe D i) p l 0 with
      | none => exact absurd ⟨hd.symm, cj⟩ ((zFc_none _ _).mp hz j (Nat.zero_le _) (by omega))
      | some e =>
        obtain ⟨-, h2, h3, h4⟩ := zFc_some _ _ hz
        rw [hp 1 e j (by omega) (by omega) hj (h3.trans hd) (h4.trans cj.symm)]
theorem zSq_pq {k i : Nat} (h : zSq D c l p q k = some i) : c i = p ∨ c i = q := by
  have := (zSq_some h).2.1
  unfold zXp at this
  by_cases hk : k % 2 = 0
  · rw [if_pos hk] at this; exact Or.inl this
  · rw [if_neg hk] at this; exact Or.inr this
theorem zFl_pro (hl : l ≤ 8) (hp : zPro D c l) (hq : zUd D c 1 (dTe D l) l q = false) (hne : p ≠ q) : zPro D (zFl D c l p q) l := by
  have key : ∀ b i j, b ≤ 1 → i < l → j < l → dP D b i = dP D b j → zOn D c l p q i = true → ¬ zOn D c l p q j = true → p + q - c i = c j → False := by
    intro b i j hb hi hj hd h1 h2 hc
    obtain ⟨k, hk⟩ := (zOn_iff hl hp hq hne).mp h1
    exact h2 ((zOn_iff hl hp hq hne).mpr (zSq_nb hp hq hne hk hb hj hd hc.symm))
  intro b i j hb hi hj hd hc
  unfold zFl at hc
  by_cases h1 : zOn D c l p q i = true
  · by_cases h2 : zOn D c l p q j = true
    · rw [if_pos h1, if_pos h2] at hc
      obtain ⟨k, hk⟩ := (zOn_iff hl hp hq hne).mp h1
      obtain ⟨k2, hk2⟩ := (zOn_iff hl hp hq hne).mp h2
      have e1 := zSq_pq hk
      have e2 := zSq_pq hk2
      exact hp b i j hb hi hj hd (by omega)
    · rw [if_pos h1, if_neg h2] at hc
      exact (key b i j hb hi hj hd h1 h2 hc).elim
  · by_cases h2 : zOn D c l p q j = true
    · rw [if_neg h1, if_pos h2] at hc
      exact (key b j i hb hj hi hd.symm h2 h1 hc.symm).elim
    · rw [if_neg h1, if_neg h2] at hc
      exact hp b i j hb hi hj hd hc
theorem zFl_free (hl : l ≤ 8) (hp : zPro D c l) (hq : zUd D c 1 (dTe D l) l q = false) (hpf : zUd D c 0 (dG D l) l p = false) (hpt : zUd D c 1 (dTe D l) l p = true) (hne : p ≠ q) : ∀ b i, b ≤ 1 → i < l → dP D b i = dP D b l → zFl D c l p q i ≠ p := by
  intro b i hb hi hd hc
  unfold zFl at hc
  by_cases h1 : zOn D c l p q i = true
  · rw [if_pos h1] at hc
    obtain ⟨k, hk⟩ := (zOn_iff hl hp hq hne).mp h1
    obtain ⟨-, ci, d0, ds⟩ := zSq_some hk
    have cq : c i = q := by
      have := zSq_pq hk
      omega
    have hk1 : k % 2 = 1 := by
      unfold zXp at ci
      by_cases h0 : k % 2 = 0
      · rw [if_pos h0] at ci; exact absurd (ci.symm.trans cq) hne
      · omega
    rcases (by omega : b = 0 ∨ b = 1) with e | e <;> subst e
    · obtain ⟨a, ha, g1, -⟩ := ds (k - 1) (by omega)
      obtain ⟨la, ca, -, -⟩ := zSq_some ha
      rw [zXp_0 (by omega)] at ca
      exact zUd_f hpf la ((g1 (by omega)).symm.trans hd) ca
    · exact zUd_f hq hi hd cq
  · rw [if_neg h1] at hc
    rcases (by omega : b = 0 ∨ b = 1) with e | e <;> subst e
    · exact zUd_f hpf hi hd hc
    · apply h1
      refine (zOn_iff hl hp hq hne).mpr ⟨0, ?_⟩
      rw [zSq_0]
      cases hz : zFc D c 1 (dTe D l) p l 0 with
      | none =>
        rw [zFc_used.mp hz] at hpt
        cases hpt
      | some e =>
        obtain ⟨-, h2, h3, h4⟩ := zFc_some _ _ hz
        rw [hp 1 e i (by omega) (by omega) hi (h3.trans hd.symm) (h4.trans hc.symm)]
end ZKE
/-! ### one lesson more -/
def zA0 (D : zD) (c : Nat → Nat) (l : Nat) : Nat → Bool := zUd D c 0 (dG D l) l
def zA1 (D : zD) (c : Nat → Nat) (l : Nat) : Nat → Bool := zUd D c 1 (dTe D l) l
def zAb (D : zD) (c : Nat → Nat) (l : Nat) : Nat → Bool := fun x => zA0 D c l x || zA1 D c l x
def zCp (D : zD) (c : Nat → Nat) (l : Nat) : Nat := zLs (zA0 D c l) 9 0
def zCq (D : zD) (c : Nat → Nat) (l : Nat) : Nat := zLs (zA1 D c l) 9 0
def zCb (D : zD) (c : Nat → Nat) (l : Nat) : Nat := zLs (zAb D c l) 9 0
def zStp (D : zD) (M : Nat) (c : Nat → Nat) (l : Nat) : Nat → Nat :=
  if zCb D c l < M then zEu c l (zCb D c l) else zEu (zFl D c l (zCp D c l) (zCq D c l)) l (zCp D c l)
def zCo (D : zD) (M : Nat) : Nat → Nat → Nat
  | 0 => fun _ => 0
  | l + 1 => zStp D M (zCo D M l) l
theorem zCo_s {D : zD} {M l : Nat} : zCo D M (l + 1) = zStp D M (zCo D M l) l := rfl
def zCg (D : zD) (M : Nat) (c : Nat → Nat) (l : Nat) : Prop := zPro D c l ∧ ∀ i, i < l → c i < M
theorem zKe_ok {D : zD} {M : Nat} {c : Nat → Nat} {l : Nat} (hl : l < dN D) (hM9 : M ≤ 9) (h0 : zTot D 0 (dG D l) (dN D) ≤ M) (h1 : zTot D 1 (dTe D l) (dN D) ≤ M) (hk : ¬ zCb D c l < M) :
    zCp D c l < M ∧ zCq D c l < M ∧ zUd D c 1 (dTe D l) l (zCq D c l) = false ∧ zUd D c 0 (dG D l) l (zCp D c l) = false ∧ zUd D c 1 (dTe D l) l (zCp D c l) = true ∧ zCp D c l ≠ zCq D c l := by
  have a0 : zCp D c l < M := zLs_free (b := 0) hl h0
  have a1 : zCq D c l < M := zLs_free (b := 1) hl h1
  have e0 : zUd D c 0 (dG D l) l (zCp D c l) = false := (zLs_spec (f := zA0 D c l) 9 0).2.2.2 (by show zCp D c l < 0 + 9; omega)
  have e1 : zUd D c 1 (dTe D l) l (zCq D c l) = false := (zLs_spec (f := zA1 D c l) 9 0).2.2.2 (by show zCq D c l < 0 + 9; omega)
  have hb := (zLs_spec (f := zAb D c l) 9 0).2.2.1
  have e2 : (zUd D c 0 (dG D l) l (zCp D c l) || zUd D c 1 (dTe D l) l (zCp D c l)) = true := hb (zCp D c l) (Nat.zero_le _) (by show zCp D c l < zCb D c l; omega)
  have e3 : (zUd D c 0 (dG D l) l (zCq D c l) || zUd D c 1 (dTe D l) l (zCq D c l)) = true := hb (zCq D c l) (Nat.zero_le _) (by show zCq D c l < zCb D c l; omega)
  rw [e0, Bool.false_or] at e2
  rw [e1, Bool.or_false] at e3
  refine ⟨a0, a1, e1, e0, e2, fun q => ?_⟩
  rw [← q, e0] at e3
  cases e3
theorem zStp_ok {D : zD} {M : Nat} {c : Nat → Nat} {l : Nat} (v : okD D) (hl : l < dN D) (hM9 : M ≤ 9) (h0 : zTot D 0 (dG D l) (dN D) ≤ M) (h1 : zTot D 1 (dTe D l) (dN D) ≤ M) (h : zCg D M c l) : zCg D M (zStp D M c l) (l + 1) := by
  have h9 := v.1
  obtain ⟨hp, hb⟩ := h
  unfold zStp
  by_cases hk : zCb D c l < M
  · rw [if_pos hk]
    have ef : (zA0 D c l (zCb D c l) || zA1 D c l (zCb D c l)) = false := (zLs_spec (f := zAb D c l) 9 0).2.2.2 (by show zCb D c l < 0 + 9; omega)
    rw [Bool.or_eq_false_iff] at ef
    refine ⟨zPro_up hp (fun b i hb2 hi hd hc => ?_), fun i hi => ?_⟩
    · rcases (by omega : b = 0 ∨ b = 1) with e | e <;> subst e
      · exact zUd_f ef.1 hi hd hc
      · exact zUd_f ef.2 hi hd hc
    · unfold zEu
      by_cases e : i = l
      · rw [if_pos e]; exact hk
      · rw [if_neg e]; exact hb i (by omega)
  · rw [if_neg hk]
    obtain ⟨a0, a1, e1, e0, e2, hne⟩ := zKe_ok hl hM9 h0 h1 hk
    refine ⟨zPro_up (zFl_pro (by omega) hp e1 hne) (zFl_free (by omega) hp e1 e0 e2 hne), fun i hi => ?_⟩
    unfold zEu
    by_cases e : i = l
    · rw [if_pos e]; exact a0
    · rw [if_neg e]
      unfold zFl
      by_cases ho : zOn D c l (zCp D c l) (zCq D c l) i = true
      · rw [if_pos ho]
        obtain ⟨k, hk2⟩ := (zOn_iff (by omega) hp e1 hne).mp ho
        have := zSq_pq hk2
        omega
      · rw [if_neg ho]
        exact hb i (by omega)
def zMo (D : zD) : Nat := zMf (zTk2 D) 10 0 0
theorem zMo_9 {D : zD} (v : okD D) : zMo D ≤ 9 := by
  unfold zMo
  rw [zMf_le]
  refine ⟨by omega, fun j _ _ => ?_⟩
  unfold zTk2
  split
  · exact zTot_le v
  · exact zTot_le v
theorem zMo_le {D : zD} (v : okD D) {b l : Nat} (hb : b ≤ 1) (hl : l < dN D) : zTot D b (dP D b l) (dN D) ≤ zMo D := by
  have h := (zMf_le (f := zTk2 D) (B := zMo D) 10 0 0).mp (Nat.le_refl _)
  obtain ⟨g1, g2, -⟩ := v.2.2.2.1 l hl
  rcases (by omega : b = 0 ∨ b = 1) with e | e <;> subst e
  · have := h.2 (dG D l + 6) (by omega) (by omega)
    unfold zTk2 at this
    rw [if_pos (by omega), Nat.add_sub_cancel] at this
    exact this
  · have := h.2 (dTe D l) (by omega) (by omega)
    unfold zTk2 at this
    rw [if_neg (by omega)] at this
    exact this
theorem zCo_ok {D : zD} (v : okD D) : ∀ l, l ≤ dN D → zCg D (zMo D) (zCo D (zMo D) l) l := by
  intro l
  induction l with
  | zero => intro _; exact ⟨fun b i j _ hi => absurd hi (by omega), fun i hi => absurd hi (by omega)⟩
  | succ l ih =>
    intro hl
    rw [zCo_s]
    exact zStp_ok v (by omega) (zMo_9 v) (zMo_le (b := 0) v (by omega) (by omega)) (zMo_le (b := 1) v (by omega) (by omega)) (ih (by omega))
