/-! COVER 1: plans for a slot: the most that are taken, the first such plan -/
def zRmv (S : Nat → Bool) (t : Nat) : Nat → Bool := fun u => S u && !decide (u = t)
def zMxV (C : Nat → Nat → Bool) (S : Nat → Bool) (k : Nat) (f : (Nat → Bool) → Nat) (t : Nat) : Nat := if S t && C k t then 1 + f (zRmv S t) else 0
def zMx (C : Nat → Nat → Bool) : Nat → Nat → (Nat → Bool) → Nat
  | 0, _, _ => 0
  | n + 1, k, S => zMf (zMxV C S k (zMx C n (k + 1))) 6 0 (zMx C n (k + 1) S)
theorem zMx_s {C : Nat → Nat → Bool} {n k : Nat} {S : Nat → Bool} : zMx C (n + 1) k S = zMf (zMxV C S k (zMx C n (k + 1))) 6 0 (zMx C n (k + 1) S) := rfl
theorem zMf_congr {f g : Nat → Nat} : ∀ k i a, (∀ j, i ≤ j → j < i + k → f j = g j) → zMf f k i a = zMf g k i a := by
  intro k
  induction k with
  | zero => intro i a _; rfl
  | succ k ih =>
    intro i a h
    show zMf f k (i + 1) (if a < f i then f i else a) = zMf g k (i + 1) (if a < g i then g i else a)
    rw [h i (by omega) (by omega)]
    exact ih (i + 1) _ (fun j h1 h2 => h j (by omega) (by omega))
theorem zRmv_congr {S S' : Nat → Bool} (h : ∀ t, t < 6 → S t = S' t) (u : Nat) : ∀ t, t < 6 → zRmv S u t = zRmv S' u t := fun t ht => by
  unfold zRmv
  rw [h t ht]
theorem zMx_congr {C : Nat → Nat → Bool} : ∀ n k {S S' : Nat → Bool}, (∀ t, t < 6 → S t = S' t) → zMx C n k S = zMx C n k S' := by
  intro n
  induction n with
  | zero => intro k S S' _; rfl
  | succ n ih =>
    intro k S S' h
    rw [zMx_s, zMx_s, ih (k + 1) h]
    refine zMf_congr 6 0 _ (fun j _ hj => ?_)
    unfold zMxV
    rw [h j (by omega), ih (k + 1) (zRmv_congr h j)]
theorem zMx_out {C : Nat → Nat → Bool} {n k t : Nat} {S : Nat → Bool} (ht : 6 ≤ t) : zMx C n k (zRmv S t) = zMx C n k S :=
  zMx_congr n k (fun u hu => by unfold zRmv; rw [decide_eq_false (by omega)]; simp)
theorem zMx_0 {C : Nat → Nat → Bool} {n k : Nat} {S : Nat → Bool} : zMx C n (k + 1) S ≤ zMx C (n + 1) k S := by
  rw [zMx_s]
  exact ((zMf_le 6 0 _).mp (Nat.le_refl _)).1
theorem zMx_t {C : Nat → Nat → Bool} {n k t : Nat} {S : Nat → Bool} (ht : t < 6) (hS : S t = true) (hC : C k t = true) : 1 + zMx C n (k + 1) (zRmv S t) ≤ zMx C (n + 1) k S := by
  rw [zMx_s]
  have h := ((zMf_le (f := zMxV C S k (zMx C n (k + 1))) 6 0 (zMx C n (k + 1) S)).mp (Nat.le_refl _)).2 t (by omega) (by omega)
  have e : zMxV C S k (zMx C n (k + 1)) t = 1 + zMx C n (k + 1) (zRmv S t) := by
    unfold zMxV
    rw [hS, hC]
    rfl
  rw [e] at h
  exact h
theorem zMx_ub {C : Nat → Nat → Bool} {n k B : Nat} {S : Nat → Bool} (h0 : zMx C n (k + 1) S ≤ B) (h1 : ∀ t, t < 6 → S t = true → C k t = true → 1 + zMx C n (k + 1) (zRmv S t) ≤ B) : zMx C (n + 1) k S ≤ B := by
  rw [zMx_s, zMf_le]
  refine ⟨h0, fun t _ ht => ?_⟩
  unfold zMxV
  by_cases q : (S t && C k t) = true
  · rw [if_pos q]
    rw [Bool.and_eq_true] at q
    exact h1 t (by omega) q.1 q.2
  · rw [if_neg q]
    exact Nat.zero_le _
theorem zMx_n {C : Nat → Nat → Bool} : ∀ n k S, zMx C n k S ≤ n := by
  intro n
  induction n with
  | zero => intro k S; exact Nat.le_refl 0
  | succ n ih =>
    intro k S
    refine zMx_ub (Nat.le_trans (ih _ _) (by omega)) (fun t _ _ _ => ?_)
    have := ih (k + 1) (zRmv S t)
    omega
/-! ### the first of the best plans, lesson by lesson -/
def zGc (C : Nat → Nat → Bool) (n k : Nat) (S : Nat → Bool) (t : Nat) : Bool := S t && (C k t && decide (zMx C (n + 1) k S ≤ 1 + zMx C n (k + 1) (zRmv S t)))
def zGt (C : Nat → Nat → Bool) (n k : Nat) (S : Nat → Bool) : Nat := zLs (fun t => !zGc C n k S t) 6 0
def zGS (C : Nat → Nat → Bool) (m : Nat) : Nat → (Nat → Bool)
  | 0 => fun _ => true
  | k + 1 => zRmv (zGS C m k) (zGt C (m - (k + 1)) k (zGS C m k))
def zGg (C : Nat → Nat → Bool) (m k : Nat) : Nat := zGt C (m - (k + 1)) k (zGS C m k)
theorem zGS_s {C : Nat → Nat → Bool} {m k : Nat} : zGS C m (k + 1) = zRmv (zGS C m k) (zGg C m k) := rfl
theorem zGt_6 {C : Nat → Nat → Bool} {n k : Nat} {S : Nat → Bool} : zGt C n k S ≤ 6 := by
  have := (zLs_spec (f := fun t => !zGc C n k S t) 6 0).2.1
  unfold zGt
  omega
theorem zGg_6 {C : Nat → Nat → Bool} {m k : Nat} : zGg C m k ≤ 6 := zGt_6
theorem zGc_iff {C : Nat → Nat → Bool} {n k t : Nat} {S : Nat → Bool} : zGc C n k S t = true ↔ S t = true ∧ C k t = true ∧ zMx C (n + 1) k S ≤ 1 + zMx C n (k + 1) (zRmv S t) := by
  unfold zGc
  rw [Bool.and_eq_true, Bool.and_eq_true, decide_eq_true_eq]
theorem zGt_c {C : Nat → Nat → Bool} {n k : Nat} {S : Nat → Bool} (h : zGt C n k S < 6) : S (zGt C n k S) = true ∧ C k (zGt C n k S) = true ∧ zMx C (n + 1) k S = 1 + zMx C n (k + 1) (zRmv S (zGt C n k S)) := by
  have h1 := (zLs_spec (f := fun t => !zGc C n k S t) 6 0).2.2.2 (by show zGt C n k S < 0 + 6; omega)
  have h2 : zGc C n k S (zGt C n k S) = true := by
    have h1 : (!zGc C n k S (zGt C n k S)) = false := h1
    simpa using h1
  obtain ⟨a, b, c⟩ := zGc_iff.mp h2
  exact ⟨a, b, Nat.le_antisymm c (zMx_t h a b)⟩
theorem zGt_n {C : Nat → Nat → Bool} {n k : Nat} {S : Nat → Bool} (h : ¬ zGt C n k S < 6) : zMx C (n + 1) k S = zMx C n (k + 1) S := by
  refine Nat.le_antisymm ?_ zMx_0
  have hall : ∀ t, t < 6 → zGc C n k S t = false := fun t ht => by
    have h1 := (zLs_spec (f := fun t => !zGc C n k S t) 6 0).2.2.1 t (Nat.zero_le _) (by show t < zGt C n k S; omega)
    simpa using h1
  apply Classical.byContradiction
  intro hlt
  have hB := zMx_ub (C := C) (n := n) (k := k) (S := S) (B := zMx C (n + 1) k S - 1) (by omega) (fun t ht h1 h2 => by
    have := hall t ht
    apply Classical.byContradiction
    intro q
    rw [zGc_iff.mpr ⟨h1, h2, by omega⟩] at this
    cases this)
  omega
theorem zGt_le {C : Nat → Nat → Bool} {n k t : Nat} {S : Nat → Bool} (h : zGc C n k S t = true) : zGt C n k S ≤ t := by
  apply Classical.byContradiction
  intro q
  have h1 := (zLs_spec (f := fun t => !zGc C n k S t) 6 0).2.2.1 t (Nat.zero_le _) (by show t < zGt C n k S; omega)
  have h1 : (!zGc C n k S t) = true := h1
  rw [h] at h1
  cases h1
def zCt (v : Nat → Nat) (k : Nat) : Nat := q_cnt (fun j => decide (v j < 6)) k
theorem zCt_s {v : Nat → Nat} {k : Nat} : zCt v (k + 1) = zCt v k + (if v k < 6 then 1 else 0) := by
  show q_cnt _ k + (if decide (v k < 6) = true then 1 else 0) = _
  simp only [decide_eq_true_eq]
  rfl
theorem zCt_congr {v w : Nat → Nat} {k : Nat} (h : ∀ j, j < k → v j = w j) : zCt v k = zCt w k := q_cnt_congr k (fun j hj => by rw [h j hj])
theorem zG_due {C : Nat → Nat → Bool} {m : Nat} : ∀ k, k ≤ m → zCt (zGg C m) k + zMx C (m - k) k (zGS C m k) = zMx C m 0 (fun _ => true) := by
  intro k
  induction k with
  | zero => intro _; show 0 + zMx C m 0 (fun _ => true) = _; omega
  | succ k ih =>
    intro hk
    have h := ih (by omega)
    have e : m - k = (m - (k + 1)) + 1 := by omega
    rw [e] at h
    rw [zCt_s, zGS_s]
    by_cases q : zGg C m k < 6
    · rw [if_pos q]
      have h2 := (zGt_c (C := C) (n := m - (k + 1)) (k := k) (S := zGS C m k) q).2.2
      have h3 : zMx C (m - (k + 1)) (k + 1) (zRmv (zGS C m k) (zGg C m k)) = zMx C (m - (k + 1)) (k + 1) (zRmv (zGS C m k) (zGt C (m - (k + 1)) k (zGS C m k))) := rfl
      omega
    · rw [if_neg q]
      have h2 := zGt_n (C := C) (n := m - (k + 1)) (k := k) (S := zGS C m k) q
      have h3 := zMx_out (C := C) (n := m - (k + 1)) (k := k + 1) (S := zGS C m k) (t := zGg C m k) (by omega)
      omega
/-! ### all plans -/
def zVS (v : Nat → Nat) : Nat → (Nat → Bool)
  | 0 => fun _ => true
  | k + 1 => zRmv (zVS v k) (v k)
theorem zVS_s {v : Nat → Nat} {k : Nat} : zVS v (k + 1) = zRmv (zVS v k) (v k) := rfl
theorem zVS_iff {v : Nat → Nat} {t : Nat} : ∀ k, zVS v k t = true ↔ ∀ j, j < k → v j ≠ t := by
  intro k
  induction k with
  | zero => exact ⟨fun _ j hj => absurd hj (by omega), fun _ => rfl⟩
  | succ k ih =>
    show (zVS v k t && !decide (t = v k)) = true ↔ _
    rw [Bool.and_eq_true, ih, Bool.not_eq_true', decide_eq_false_iff_not]
    constructor
    · rintro ⟨h1, h2⟩ j hj
      by_cases e : j = k
      · subst e; exact fun q => h2 q.symm
      · exact h1 j (by omega)
    · intro h
      exact ⟨fun j hj => h j (by omega), fun q => h k (by omega) q.symm⟩
def zVal (C : Nat → Nat → Bool) (v : Nat → Nat) (k : Nat) : Prop := ∀ i, i < k → v i < 6 → C i (v i) = true ∧ ∀ j, j < i → v j ≠ v i
theorem zVal_le {C : Nat → Nat → Bool} {v : Nat → Nat} {m : Nat} (h6 : ∀ i, i < m → v i ≤ 6) (hv : zVal C v m) : ∀ n k, k + n = m → zCt v m ≤ zCt v k + zMx C n k (zVS v k) := by
  intro n
  induction n with
  | zero =>
    intro k hk
    have : k = m := by omega
    subst this
    exact Nat.le_add_right _ _
  | succ n ih =>
    intro k hk
    have h := ih (k + 1) (by omega)
    rw [zCt_s, zVS_s] at h
    by_cases q : v k < 6
    · rw [if_pos q] at h
      obtain ⟨h1, h2⟩ := hv k (by omega) q
      have := zMx_t (C := C) (n := n) (k := k) (S := zVS v k) q ((zVS_iff k).mpr h2) h1
      omega
    · rw [if_neg q] at h
      have h3 := zMx_out (C := C) (n := n) (k := k + 1) (S := zVS v k) (t := v k) (by omega)
      have h4 := zMx_0 (C := C) (n := n) (k := k) (S := zVS v k)
      omega
theorem zG_VS {C : Nat → Nat → Bool} {m : Nat} : ∀ k, zVS (zGg C m) k = zGS C m k := by
  intro k
  induction k with
  | zero => rfl
  | succ k ih => rw [zVS_s, zGS_s, ih]
theorem zG_val {C : Nat → Nat → Bool} {m : Nat} : ∀ k, zVal C (zGg C m) k := by
  intro k i _ h
  obtain ⟨h1, h2, -⟩ := zGt_c (C := C) (n := m - (i + 1)) (k := i) (S := zGS C m i) h
  refine ⟨h2, ?_⟩
  have h1 : zGS C m i (zGg C m i) = true := h1
  rw [← zG_VS] at h1
  exact (zVS_iff i).mp h1
def zNu (v : Nat → Nat) : Nat → Nat
  | 0 => 0
  | k + 1 => zNu v k * 7 + v k
theorem zNu_s {v : Nat → Nat} {k : Nat} : zNu v (k + 1) = zNu v k * 7 + v k := rfl
theorem zVS_congr {v w : Nat → Nat} : ∀ k, (∀ j, j < k → v j = w j) → zVS v k = zVS w k := by
  intro k
  induction k with
  | zero => intro _; rfl
  | succ k ih =>
    intro h
    rw [zVS_s, zVS_s, ih (fun j hj => h j (by omega)), h k (by omega)]
theorem zG_first {C : Nat → Nat → Bool} {m : Nat} {v : Nat → Nat} (h6 : ∀ i, i < m → v i ≤ 6) (hv : zVal C v m) (hc : zCt v m = zMx C m 0 (fun _ => true)) : ∀ k, k ≤ m → (∀ j, j < k → zGg C m j = v j) ∨ zNu (zGg C m) k < zNu v k := by
  intro k
  induction k with
  | zero => intro _; exact Or.inl (fun j hj => absurd hj (by omega))
  | succ k ih =>
    intro hk
    rcases ih (by omega) with h | h
    · by_cases e : zGg C m k = v k
      · left
        intro j hj
        by_cases q : j = k
        · subst q; exact e
        · exact h j (by omega)
      · right
        have hS : zVS v k = zGS C m k := by rw [← zG_VS]; exact zVS_congr k (fun j hj => (h j hj).symm)
        have hn : zNu (zGg C m) k = zNu v k := by
          have key : ∀ i, i ≤ k → zNu (zGg C m) i = zNu v i := by
            intro i
            induction i with
            | zero => intro _; rfl
            | succ i ihi =>
              intro hi
              rw [zNu_s, zNu_s, ihi (by omega), h i (by omega)]
          exact key k (Nat.le_refl k)
        have hct : zCt (zGg C m) k = zCt v k := zCt_congr h
        have hdue := zG_due (C := C) (m := m) k (by omega)
        have hle := zVal_le h6 hv (m - (k + 1)) (k + 1) (by omega)
        have hlt : zGg C m k < v k := by
          by_cases q : v k < 6
          · obtain ⟨h1, h2⟩ := hv k (by omega) q
            rw [zCt_s, if_pos q, zVS_s, hS] at hle
            have e2 : m - k = (m - (k + 1)) + 1 := by omega
            rw [e2] at hdue
            have hS1 : zGS C m k (v k) = true := by rw [← hS]; exact (zVS_iff k).mpr h2
            have hle2 : zGg C m k ≤ v k := zGt_le (zGc_iff.mpr ⟨hS1, h1, by omega⟩)
            omega
          · have := h6 k (by omega)
            have := zGg_6 (C := C) (m := m) (k := k)
            omega
        rw [zNu_s, zNu_s, hn]
        omega
    · right
      have := zGg_6 (C := C) (m := m) (k := k)
      rw [zNu_s, zNu_s]
      omega
/-! ### numbers and plans -/
theorem z7_pos (k : Nat) : 0 < 7 ^ k := Nat.pow_pos (by omega)
def zDg (m n k : Nat) : Nat := n / 7 ^ (m - (k + 1)) % 7
theorem zNu_dg {m n : Nat} (hn : n < 7 ^ m) : ∀ k, k ≤ m → zNu (zDg m n) k = n / 7 ^ (m - k) := by
  intro k
  induction k with
  | zero => intro _; show 0 = n / 7 ^ m; rw [Nat.div_eq_of_lt hn]
  | succ k ih =>
    intro hk
    rw [zNu_s, ih (by omega)]
    unfold zDg
    have e : m - k = (m - (k + 1)) + 1 := by omega
    rw [e, Nat.pow_succ, ← Nat.div_div_eq_div_mul]
    omega
theorem zNu_dgm {m n : Nat} (hn : n < 7 ^ m) : zNu (zDg m n) m = n := by
  rw [zNu_dg hn m (Nat.le_refl m), Nat.sub_self, Nat.pow_zero, Nat.div_one]
theorem zNu_lt {v : Nat → Nat} : ∀ k, (∀ j, j < k → v j ≤ 6) → zNu v k < 7 ^ k := by
  intro k
  induction k with
  | zero => intro _; show 0 < 7 ^ 0; omega
  | succ k ih =>
    intro h
    have h1 := ih (fun j hj => h j (by omega))
    have h2 := h k (by omega)
    rw [zNu_s, Nat.pow_succ]
    omega
theorem zNu_div {v : Nat → Nat} {m : Nat} (h6 : ∀ j, j < m → v j ≤ 6) : ∀ i, i ≤ m → zNu v m / 7 ^ i = zNu v (m - i) := by
  intro i
  induction i with
  | zero => intro _; rw [Nat.pow_zero, Nat.div_one, Nat.sub_zero]
  | succ i ih =>
    intro hi
    rw [Nat.pow_succ, ← Nat.div_div_eq_div_mul, ih (by omega)]
    have e : m - i = (m - (i + 1)) + 1 := by omega
    rw [e, zNu_s]
    have := h6 (m - (i + 1)) (by omega)
    omega
theorem zDg_nm {v : Nat → Nat} {m k : Nat} (h6 : ∀ j, j < m → v j ≤ 6) (hk : k < m) : zDg m (zNu v m) k = v k := by
  unfold zDg
  rw [zNu_div h6 _ (by omega)]
  have e : m - (m - (k + 1)) = k + 1 := by omega
  rw [e, zNu_s]
  have := h6 k hk
  omega
theorem zDg_6 {m n k : Nat} : zDg m n k ≤ 6 := by
  unfold zDg
  omega
theorem zVal_congr {C : Nat → Nat → Bool} {v w : Nat → Nat} {m : Nat} (h : ∀ j, j < m → v j = w j) (hv : zVal C v m) : zVal C w m := by
  intro i hi h6
  rw [← h i hi] at h6 ⊢
  obtain ⟨h1, h2⟩ := hv i hi h6
  exact ⟨h1, fun j hj => by rw [← h j (by omega)]; exact h2 j hj⟩
theorem zG_scan {C : Nat → Nat → Bool} {m b s : Nat} (hb : b < 7 ^ m) (hval : zVal C (zDg m b) m) (hs : zCt (zDg m b) m = s) (hmax : ∀ n, n < 7 ^ m → zVal C (zDg m n) m → zCt (zDg m n) m ≤ s) (hfst : ∀ n, n < b → zVal C (zDg m n) m → zCt (zDg m n) m < s) :
    s = zMx C m 0 (fun _ => true) ∧ ∀ k, k < m → zDg m b k = zGg C m k := by
  have g6 : ∀ j, j < m → zGg C m j ≤ 6 := fun j _ => zGg_6
  have hgl := zNu_lt m g6
  have hgd : ∀ j, j < m → zGg C m j = zDg m (zNu (zGg C m) m) j := fun j hj => (zDg_nm g6 hj).symm
  have hgv : zVal C (zDg m (zNu (zGg C m) m)) m := zVal_congr hgd (zG_val m)
  have hgc : zCt (zDg m (zNu (zGg C m) m)) m = zMx C m 0 (fun _ => true) := by
    rw [← zCt_congr hgd]
    have h := zG_due (C := C) (m := m) m (Nat.le_refl m)
    rw [Nat.sub_self] at h
    exact h
  have h1 := hmax _ hgl hgv
  have h2 := zVal_le (C := C) (v := zDg m b) (fun i _ => zDg_6) hval m 0 (by omega)
  have h2 : zCt (zDg m b) m ≤ 0 + zMx C m 0 (fun _ => true) := h2
  have es : s = zMx C m 0 (fun _ => true) := by omega
  refine ⟨es, ?_⟩
  rcases zG_first (C := C) (v := zDg m b) (fun i _ => zDg_6) hval (by omega) m (Nat.le_refl m) with h | h
  · exact fun k hk => (h k hk).symm
  · exfalso
    rw [zNu_dgm hb] at h
    have := hfst _ h hgv
    omega
