/-! PAIRS 11: School.removeLesson -/
section ZPE
variable {G : sj_G} {σ : sj_S} {D : zD} {l : Nat}
theorem z_up_up {a : Nat} {f g : Nat → Int32} : sj_up (sj_up σ a f) a g = sj_up σ a g := by
  funext b
  unfold sj_up
  by_cases q : b = a <;> simp [q]
theorem z_u_self {f : Nat → Int32} {i : Nat} : upd f i (f i) = f := by
  funext j
  unfold upd
  by_cases q : j = i <;> simp [q]
theorem z_m1k (w : Nat) : nI w + (-1) = zk w := by
  cases w with
  | zero => decide
  | succ w =>
    have e : (-1 : Int32) = - nI 1 := by decide
    rw [e, ← Int32.sub_eq_add_neg, pk_sub (by omega)]
    unfold zk
    rw [if_neg (by omega)]
theorem z_k1 (w : Nat) : zk (w + 1) = nI w := by
  unfold zk
  rw [if_neg (by omega), Nat.add_sub_cancel]
theorem okD_a (v : okD D) {w : Nat} (hw : w < dW D) : D 8 w ≤ 6 ∧ D 9 w < 20 ∧ D 10 w < 20 ∧ (2 ≤ D 8 w → D 9 w < D 0 0) ∧ (4 ≤ D 8 w → D 10 w < D 0 0) := by
  have h9 : D 0 0 ≤ 9 := v.1
  obtain ⟨a1, a2, a3, a4, a5, a6, a7⟩ := v.2.2.2.2.1 w hw
  have a1 : D 8 w ≤ 6 := a1
  have a3 : D 8 w = 0 → D 9 w < 6 ∧ D 10 w < 20 := a3
  have a4 : D 8 w = 1 → D 9 w < 4 ∧ D 10 w < 20 := a4
  have a5 : D 8 w = 2 → D 9 w < D 0 0 ∧ D 10 w < 5 := a5
  have a6 : D 8 w = 3 → D 9 w < D 0 0 ∧ D 10 w < 20 := a6
  have a7 : 4 ≤ D 8 w → D 9 w < D 0 0 ∧ D 10 w < D 0 0 ∧ D 9 w ≠ D 10 w := a7
  omega
end ZPE
