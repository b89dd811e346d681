/-! MODEL 1: the reference's small methods -/
def repM (D : zD) (m : Nat → Int32) : Prop := m 125 = nI (dN D) ∧ m 126 = nI (dW D) ∧ m 127 = nI (dT D) ∧
  (∀ l, l < dN D → m (0 + l) = nI (dG D l) ∧ m (9 + l) = nI (dTe D l) ∧ m (18 + l) = nI (dSu D l) ∧ m (27 + l) = zk (dKi D l) ∧ m (36 + l) = nI (dDb D l)) ∧
  (∀ w, w < dW D → m (45 + w) = nI (dSo D w) ∧ m (57 + w) = nI (dA D w) ∧ m (69 + w) = nI (dB D w) ∧ m (81 + w) = nI (dWe D w)) ∧
  (∀ t, t < 6 → m (93 + t) = nI (dTch D t) ∧ m (102 + t) = nI (dIll D t)) ∧ (∀ k, k < 3 → m (99 + k) = nI (dRo D k)) ∧ (∀ e, e < 8 → m (108 + e) = nI (dAp D e))
section ZM1
variable {G : sj_G} {σ : sj_S} {D : zD} {T : Nat → Nat}
theorem z_10 : ¬ (nI 1 : Int32) = 0 := by decide
theorem z_00 : (nI 0 : Int32) = 0 := by decide
end ZM1
/-! MODEL 2: the reference's loops over its rows -/
theorem z_st_up {σ : sj_S} {a i : Nat} {f : Nat → Int32} {x : Int32} : sj_st (sj_up σ a f) a i x = sj_up σ a (upd f i x) := by
  funext b
  unfold sj_st sj_up
  by_cases h : b = a <;> simp [h]
theorem z_up_self {σ : sj_S} {a : Nat} : sj_up σ a (σ a) = σ := by
  funext b
  unfold sj_up
  by_cases h : b = a <;> simp [h]
theorem z_upn {σ : sj_S} {a b : Nat} {f : Nat → Int32} (h : b ≠ a) : sj_up σ a f b = σ b := sj_up_n h
section ZM2
variable {G : sj_G} {σ : sj_S} {D : zD} {T : Nat → Nat}
def zCl (f : Nat → Int32) (lo hi : Nat) : Nat → Int32 := fun i => if lo ≤ i ∧ i + 1 < hi then f (i + 1) else f i
def zThen (D : zD) (T : Nat → Nat) (b p s : Nat) : Nat → Nat → Option Nat
  | 0, _ => none
  | k + 1, i => if dP D b i = p ∧ zTk D T i s = true then some i else zThen D T b p s k (i + 1)
def zOp (o : Option Nat) : Int32 := match o with
  | none => -1
  | some k => nI k
end ZM2
/-! MODEL 3: the reference's memory of changes -/
section ZM3
variable {G : sj_G} {σ : sj_S}
def zKp (τ : sj_S) (u k : Nat) : Nat → Int32 := fun i => if 128 * u ≤ i ∧ i < 128 * u + k then τ 57 (i - 128 * u) else τ 58 i
end ZM3
