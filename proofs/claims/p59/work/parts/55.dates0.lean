/-! DATES: numbers of days, on both sides -/
def qLp (y : Nat) : Bool := (decide (y % 4 = 0) && !decide (y % 100 = 0)) || decide (y % 400 = 0)
def qMl (y m : Nat) : Nat := if m = 2 then (if qLp y then 29 else 28) else if m = 4 then 30 else if m = 6 then 30 else if m = 9 then 30 else if m = 11 then 30 else 31
def qYl (y : Nat) : Nat := if qLp y then 366 else 365
def qYd (k : Nat) : Nat := zSumN (fun i => qYl (1990 + i)) k
def qMd (y m : Nat) : Nat := zSumN (fun i => qMl y (i + 1)) m
def qDt (n : Nat) : Prop := 2000 ≤ n / 10000 ∧ n / 10000 ≤ 2099 ∧ 1 ≤ n / 100 % 100 ∧ n / 100 % 100 ≤ 12 ∧ 1 ≤ n % 100 ∧ n % 100 ≤ qMl (n / 10000) (n / 100 % 100)
def qDay (n : Nat) : Nat := n % 100 - 1 + qYd (n / 10000 - 1990) + qMd (n / 10000) (n / 100 % 100 - 1)
theorem zSumN_find {f : Nat → Nat} : ∀ K N, N < zSumN f K → ∃ k r, k < K ∧ N = zSumN f k + r ∧ r < f k := by
  intro K
  induction K with
  | zero => intro N h; exact absurd h (Nat.not_lt_zero N)
  | succ K ih =>
    intro N h
    have h : N < zSumN f K + f K := h
    by_cases q : N < zSumN f K
    · obtain ⟨k, r, h1, h2, h3⟩ := ih N q
      exact ⟨k, r, by omega, h2, h3⟩
    · exact ⟨K, N - zSumN f K, by omega, by omega, by omega⟩
theorem zSumN_mono {f : Nat → Nat} {i : Nat} : ∀ j, i ≤ j → zSumN f i ≤ zSumN f j := by
  intro j
  induction j with
  | zero => intro h; rw [show i = 0 by omega]; exact Nat.le_refl _
  | succ j ih =>
    intro h
    by_cases q : i = j + 1
    · rw [q]; exact Nat.le_refl _
    · have h1 := ih (by omega)
      show zSumN f i ≤ zSumN f j + f j
      omega
theorem qMl_le (y m : Nat) : 28 ≤ qMl y m ∧ qMl y m ≤ 31 := by
  unfold qMl
  repeat' split
  all_goals omega
theorem qYl_md (y : Nat) : qYl y = qMd y 12 := by
  unfold qYl qMd
  cases h : qLp y <;> simp [zSumN, qMl, h]
def qYc (k : Nat) : Nat := 365 * k + (k + 1) / 4 - (if 110 < k then 1 else 0)
def qMc (b : Bool) (m : Nat) : Nat := (match m with
  | 0 => 0 | 1 => 31 | 2 => 59 | 3 => 90 | 4 => 120 | 5 => 151 | 6 => 181 | 7 => 212 | 8 => 243 | 9 => 273 | 10 => 304 | _ => 334) + (if b && decide (2 ≤ m) then 1 else 0)
theorem qYd_c : ∀ k, k < 114 → qYd k = qYc k := by decide +kernel
theorem qMd_c (y m : Nat) (hm : m < 12) : qMd y m = qMc (qLp y) m := by
  unfold qMd qMc
  rcases (by omega : m = 0 ∨ m = 1 ∨ m = 2 ∨ m = 3 ∨ m = 4 ∨ m = 5 ∨ m = 6 ∨ m = 7 ∨ m = 8 ∨ m = 9 ∨ m = 10 ∨ m = 11) with e | e | e | e | e | e | e | e | e | e | e | e <;> subst e <;> cases h : qLp y <;> simp [zSumN, qMl, h]
def qEra (y m : Nat) : Nat :=
  let Y := y - (if 2 < m then 0 else 1)
  Y / 400 * 146097 + Y % 400 * 365 + Y % 400 / 4 - Y % 400 / 100 + (153 * ((m + 9) % 12) + 2) / 5
theorem qEra_c : ∀ y, y < 100 → ∀ m, m < 12 → qEra (2000 + y) (m + 1) = qYc (10 + y) + qMc (qLp (2000 + y)) m + 726773 := by decide +kernel
def qAt (A : Nat) : Nat :=
  let e := A % 146097
  let yo := (e - e / 1460 + e / 36524 - e / 146096) / 365
  let iy := e - (365 * yo + yo / 4 - yo / 100)
  let mm := (5 * iy + 2) / 153
  let mo := if 10 ≤ mm then mm - 9 else mm + 3
  (A / 146097 * 400 + yo + (if 2 < mo then 0 else 1)) * 10000 + mo * 100 + (iy - (153 * mm + 2) / 5 + 1)
def qOk (A : Nat) : Bool :=
  let e := A % 146097
  let yo := (e - e / 1460 + e / 36524 - e / 146096) / 365
  decide (365 * yo + yo / 4 - yo / 100 ≤ e)
theorem qAt_c1 : ∀ k, k < 40 → ∀ m, m < 12 → ∀ d, d < qMl (1990 + k) (m + 1) → qAt (qYc k + qMc (qLp (1990 + k)) m + d + 726773) = 10000 * (1990 + k) + 100 * (m + 1) + d + 1 ∧ qOk (qYc k + qMc (qLp (1990 + k)) m + d + 726773) = true := by decide +kernel
theorem qAt_c2 : ∀ k, k < 40 → ∀ m, m < 12 → ∀ d, d < qMl (2030 + k) (m + 1) → qAt (qYc (40 + k) + qMc (qLp (2030 + k)) m + d + 726773) = 10000 * (2030 + k) + 100 * (m + 1) + d + 1 ∧ qOk (qYc (40 + k) + qMc (qLp (2030 + k)) m + d + 726773) = true := by decide +kernel
theorem qAt_c3 : ∀ k, k < 34 → ∀ m, m < 12 → ∀ d, d < qMl (2070 + k) (m + 1) → qAt (qYc (80 + k) + qMc (qLp (2070 + k)) m + d + 726773) = 10000 * (2070 + k) + 100 * (m + 1) + d + 1 ∧ qOk (qYc (80 + k) + qMc (qLp (2070 + k)) m + d + 726773) = true := by decide +kernel
theorem qAt_c {k m d : Nat} (hk : k < 114) (hm : m < 12) (hd : d < qMl (1990 + k) (m + 1)) : qAt (qYd k + qMd (1990 + k) m + d + 726773) = 10000 * (1990 + k) + 100 * (m + 1) + d + 1 ∧ qOk (qYd k + qMd (1990 + k) m + d + 726773) = true := by
  rw [qYd_c k hk, qMd_c _ m hm]
  by_cases h1 : k < 40
  · exact qAt_c1 k h1 m hm d hd
  · by_cases h2 : k < 80
    · have h := qAt_c2 (k - 40) (by omega) m hm d
      rw [show 40 + (k - 40) = k by omega, show 2030 + (k - 40) = 1990 + k by omega] at h
      exact h hd
    · have h := qAt_c3 (k - 80) (by omega) m hm d
      rw [show 80 + (k - 80) = k by omega, show 2070 + (k - 80) = 1990 + k by omega] at h
      exact h hd
theorem qDt_eq {n : Nat} (h : qDt n) : ∃ k m d, k < 110 ∧ 10 ≤ k ∧ m < 12 ∧ d < qMl (1990 + k) (m + 1) ∧ n / 10000 = 1990 + k ∧ n / 100 % 100 = m + 1 ∧ n % 100 = d + 1 ∧ n = 10000 * (1990 + k) + 100 * (m + 1) + d + 1 ∧ qDay n = qYd k + qMd (1990 + k) m + d := by
  obtain ⟨h1, h2, h3, h4, h5, h6⟩ := h
  refine ⟨n / 10000 - 1990, n / 100 % 100 - 1, n % 100 - 1, by omega, by omega, by omega, ?_, by omega, by omega, by omega, by omega, ?_⟩
  · rw [show 1990 + (n / 10000 - 1990) = n / 10000 by omega, show n / 100 % 100 - 1 + 1 = n / 100 % 100 by omega]
    omega
  · unfold qDay
    rw [show 1990 + (n / 10000 - 1990) = n / 10000 by omega]
    omega
theorem qDay_bd {n : Nat} (h : qDt n) : 3652 ≤ qDay n ∧ qDay n < 40180 := by
  obtain ⟨k, m, d, h1, h2, h3, h4, -, -, -, -, e⟩ := qDt_eq h
  have hb : ∀ b m, m < 12 → qMc b m ≤ 335 := by decide +kernel
  have h5 := hb (qLp (1990 + k)) m h3
  have h6 := (qMl_le (1990 + k) (m + 1)).2
  rw [e, qYd_c k (by omega), qMd_c _ m h3]
  have ey : qYc k = 365 * k + (k + 1) / 4 := by unfold qYc; rw [if_neg (by omega)]; rfl
  have h7 : qYc k + qMc (qLp (1990 + k)) m + d < 40180 := by
    by_cases q : k = 109
    · subst q
      have hl : qLp (1990 + 109) = false := by decide
      rw [hl] at h5 ⊢
      have hb2 : ∀ m, m < 12 → qMc false m + qMl 2099 (m + 1) ≤ 365 := by decide +kernel
      have := hb2 m h3
      have h4 : d < qMl 2099 (m + 1) := h4
      rw [ey]
      omega
    · rw [ey]; omega
  rw [ey] at h7 ⊢
  omega
theorem qDay_lt {a b : Nat} (ha : qDt a) (hb : qDt b) : qDay a ≤ qDay b ↔ a ≤ b := by
  obtain ⟨k, m, d, h1, h2, h3, h4, -, -, -, ea, e⟩ := qDt_eq ha
  obtain ⟨k', m', d', h1', h2', h3', h4', -, -, -, eb, e'⟩ := qDt_eq hb
  have key : ∀ k m d k' m' d', m < 12 → m' < 12 → d < qMl (1990 + k) (m + 1) → d' < qMl (1990 + k') (m' + 1) → (k < k' ∨ (k = k' ∧ (m < m' ∨ (m = m' ∧ d < d')))) → qYd k + qMd (1990 + k) m + d < qYd k' + qMd (1990 + k') m' + d' := by
    intro k m d k' m' d' hm hm' hd hd' h
    have hmd : qMd (1990 + k) (m + 1) = qMd (1990 + k) m + qMl (1990 + k) (m + 1) := rfl
    rcases h with h | ⟨rfl, h | ⟨rfl, h⟩⟩
    · have g1 : qYd (k + 1) ≤ qYd k' := zSumN_mono k' h
      have g2 : qYd (k + 1) = qYd k + qYl (1990 + k) := rfl
      have g3 : qMd (1990 + k) (m + 1) ≤ qMd (1990 + k) 12 := zSumN_mono 12 (by omega)
      rw [qYl_md] at g2
      omega
    · have g3 : qMd (1990 + k) (m + 1) ≤ qMd (1990 + k) m' := zSumN_mono m' h
      omega
    · omega
  have b1 := (qMl_le (1990 + k) (m + 1)).2
  have b2 := (qMl_le (1990 + k') (m' + 1)).2
  constructor
  · intro h
    apply Classical.byContradiction
    intro q
    have := key k' m' d' k m d h3' h3 h4' h4 (by omega)
    omega
  · intro h
    by_cases q : a = b
    · rw [q]; exact Nat.le_refl _
    · have := key k m d k' m' d' h3 h3' h4 h4' (by omega)
      omega
