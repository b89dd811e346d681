/-! PAIRS 9: append -/
section ZP9
variable {G : sj_G} {σ : sj_S}
theorem zBn_le (x : Int32) : zBn x ≤ 4 := by
  have h1 := zB1_le x 24
  have h2 := zB1_le x 16
  have h3 := zB1_le x 8
  have h4 := zB1_le x 0
  unfold zBn
  omega
def zA5 (a c k : Nat) (σ : sj_S) (n : Nat) (x1 x2 x3 x4 x5 : Int32) : sj_S :=
  zAdd a c k (zAdd a c k (zAdd a c k (zAdd a c k (zAdd a c k σ n x1) (n + zBn x1) x2) (n + zBn x1 + zBn x2) x3) (n + zBn x1 + zBn x2 + zBn x3) x4) (n + zBn x1 + zBn x2 + zBn x3 + zBn x4) x5
variable {a c k n : Nat} {x1 x2 x3 x4 x5 : Int32}
theorem zA5_n {b : Nat} (h1 : b ≠ a) (h2 : b ≠ c) : zA5 a c k σ n x1 x2 x3 x4 x5 b = σ b := by
  unfold zA5
  rw [zAdd_n h1 h2, zAdd_n h1 h2, zAdd_n h1 h2, zAdd_n h1 h2, zAdd_n h1 h2]
theorem zA5_i {j : Nat} (h : a ≠ c) (hj : j ≠ k) : zA5 a c k σ n x1 x2 x3 x4 x5 c j = σ c j := by
  unfold zA5
  rw [zAdd_i h hj, zAdd_i h hj, zAdd_i h hj, zAdd_i h hj, zAdd_i h hj]
theorem zA5_c : zA5 a c k σ n x1 x2 x3 x4 x5 c k = nI (n + zBn x1 + zBn x2 + zBn x3 + zBn x4 + zBn x5) := zAdd_c
theorem zA5_a (h : a ≠ c) : zA5 a c k σ n x1 x2 x3 x4 x5 a = zPL (zPL (zPL (zPL (zPL (σ a) n x1) (n + zBn x1) x2) (n + zBn x1 + zBn x2) x3) (n + zBn x1 + zBn x2 + zBn x3) x4) (n + zBn x1 + zBn x2 + zBn x3 + zBn x4) x5 := by
  unfold zA5
  rw [zAdd_a h, zAdd_a h, zAdd_a h, zAdd_a h, zAdd_a h]
end ZP9
