/-! YEAR, PAIRS: schoolDays, dateOf, numberOf, nextDay, weekOf, dayOfWeek, later -/
theorem q_cnt_find {S : Nat → Bool} {m : Nat} : ∀ n, m < q_cnt S n → ∃ i, i < n ∧ S i = true ∧ q_cnt S i = m := by
  intro n
  induction n with
  | zero => intro h; exact absurd h (Nat.not_lt_zero m)
  | succ n ih =>
    intro h
    have h : m < q_cnt S n + (if S n then 1 else 0) := h
    by_cases q : m < q_cnt S n
    · obtain ⟨i, h1, h2⟩ := ih q
      exact ⟨i, by omega, h2⟩
    · cases hs : S n
      · rw [hs, if_neg (by decide)] at h; omega
      · rw [hs, if_pos rfl] at h
        exact ⟨n, by omega, hs, by omega⟩
theorem q_cnt_mono {S : Nat → Bool} {i : Nat} : ∀ j, i ≤ j → q_cnt S i ≤ q_cnt S j := by
  intro j
  induction j with
  | zero => intro h; rw [show i = 0 by omega]; exact Nat.le_refl _
  | succ j ih =>
    intro h
    by_cases q : i = j + 1
    · rw [q]; exact Nat.le_refl _
    · have h1 := ih (by omega)
      show q_cnt S i ≤ q_cnt S j + (if S j then 1 else 0)
      omega
section ZYP
variable {G : sj_G} {σ : sj_S} {B y0 h : Nat} {f g : Nat → Nat}
theorem z_pm (y : Int32) : (∃ j, j ≤ 2000 ∧ y = nI j - nI 1000) ∨ (y < -1000 ∨ nI 1000 < y) := by
  by_cases q : y < -1000 ∨ nI 1000 < y
  · exact Or.inr q
  · left
    rw [Int32.lt_iff_toInt_lt, Int32.lt_iff_toInt_lt, show (-1000 : Int32).toInt = -1000 by decide, nI_toInt (by decide)] at q
    refine ⟨(y.toInt + 1000).toNat, by omega, ?_⟩
    apply Int32.toInt_inj.mp
    rw [pk_sub_toInt (by omega) (by decide)]
    omega
theorem z_addpm {a j : Nat} (h : 1000 ≤ a) : nI a + (nI j - nI 1000) = nI (a + j - 1000) := by
  rw [← pk_sub (show 1000 ≤ a + j by omega), ← nI_add, Int32.sub_eq_add_neg, Int32.sub_eq_add_neg, Int32.add_assoc]
theorem z_behind {N : Nat} (hN : N < 41000) (hB : 3652 ≤ B ∧ B < 40180) : (if ((nI (N + 7305) - nI (B + 7305)) + nI 1) < nI 0 then nI 0 else ((nI (N + 7305) - nI (B + 7305)) + nI 1)) = nI (N + 1 - B) := by
  by_cases q : B ≤ N
  · rw [pk_sub (by omega), nI_add, if_neg (by rw [nI_0]; exact nI_pos (by omega)), show N + 7305 - (B + 7305) + 1 = N + 1 - B by omega]
  · have ht : ((nI (N + 7305) - nI (B + 7305)) + nI 1) = nI (N + 7306) - nI (B + 7305) := by
      rw [show N + 7306 = N + 7305 + 1 by omega, ← nI_add (N + 7305) 1, Int32.sub_eq_add_neg, Int32.sub_eq_add_neg, Int32.add_assoc, Int32.add_assoc, Int32.add_comm (nI 1)]
    rw [ht]
    by_cases q2 : N + 1 = B
    · rw [pk_sub (by omega), show N + 7306 - (B + 7305) = 0 by omega, show N + 1 - B = 0 by omega]
      simp
    · rw [if_pos (by rw [nI_0]; exact pk_sneg (by omega) (by omega)), show N + 1 - B = 0 by omega]
end ZYP
