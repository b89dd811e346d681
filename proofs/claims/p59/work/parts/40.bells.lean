/-! PAIRS 7: setBells, slotAt; the frame beside school, history and proof -/
def zFrm (A K : List Nat) (σ σ' : sj_S) : Prop := (∀ b, b ∈ A → σ' b = σ b) ∧ (∀ k, k ∈ K → σ' 56 k = σ 56 k) ∧ σ' 30 7 = σ 30 7
def zSlot (f : Nat → Bool) : Nat → Nat → Option Nat
  | 0, _ => none
  | k + 1, i => if f i then some i else zSlot f k (i + 1)
section ZP7
variable {G : sj_G} {σ : sj_S}
abbrev zBA : List Nat := [33, 50, 51, 52, 54, 55, 73, 74, 75, 76]
abbrev zBK : List Nat := [21, 22, 26, 27, 29]
def zIB (σ σ' : sj_S) : Prop := zA σ' ∧ zBells σ' ∧ zFrm zBA zBK σ σ'
theorem zIB_th {c : Int32} (h : zA σ) (hB : zBells σ) : zIB σ (sj_st σ 56 0 c) :=
  ⟨(zI2_th h).1, fun d hd => by rw [z_stn (by decide), z_stn (by decide), z_stn (by decide), z_stn (by decide), z_stn (by decide), z_stn (by decide)]; exact hB d hd, fun b hb => z_stn (zne (by decide) hb), fun k hk => z_sti (zne (by decide) hk), by rw [z_stn (by decide)]⟩
theorem zIB_th2 {c e : Int32} (h : zA σ) (hB : zBells σ) : zIB σ (sj_st (sj_st σ 56 0 c) 56 0 e) := by
  obtain ⟨h1, h2, h3, h4, h5⟩ := zIB_th (c := c) h hB
  obtain ⟨g1, g2, g3, g4, g5⟩ := zIB_th (c := e) h1 h2
  exact ⟨g1, g2, fun b hb => (g3 b hb).trans (h3 b hb), fun k hk => (g4 k hk).trans (h4 k hk), g5.trans h5⟩
def zHr (τ : sj_S) (m : Int32) (s : Nat) : Bool := !decide (m < zMin (τ 47 (s / 4)) (τ 48 (s / 4)) (τ 49 (s / 4)) (s % 4) false) && !decide (zMin (τ 47 (s / 4)) (τ 48 (s / 4)) (τ 49 (s / 4)) (s % 4) true ≤ m)
theorem z_slotAt_18 (ok : sj_ok G) {d : Nat} {m : Int32} (hd : d < 5) : ∀ k i, i + k = (d + 1) * 4 → sj_J G 11 me_X11_slotAt (.ok (zOp (zSlot (zHr σ m) k i)), σ) 18 [.ref (sj_ad G 0), .int (nI d), .int m, .int (nI i)] σ [] := by
  intro k
  induction k with
  | zero =>
    intro i hi
    refine t_X11_slotAt_18 ⟨fun _ => rfl, fun q => ?_⟩
    rw [nI_add, pk_mul] at q
    exact absurd (nI_le (by omega) (by omega)) q
  | succ k ih =>
    intro i hi
    have h1 := ih (i + 1) (by omega)
    have hi20 : i < 20 := by omega
    refine t_X11_slotAt_18 ⟨fun q => ?_, fun _ => ⟨_, _, z_minute (e := false) ok hi20, fun q => ?_, fun q => ⟨_, _, z_minute (e := true) ok hi20, fun q2 => ?_, fun q2 => ?_⟩⟩⟩
    · rw [nI_add, pk_mul] at q
      exact absurd q (nI_ge (by omega) (by omega))
    · unfold wp_X11_slotAt_55
      have e : zSlot (zHr σ m) (k + 1) i = zSlot (zHr σ m) k (i + 1) := by simp [zSlot, zHr, q]
      rw [e, nI_add]
      exact h1
    · unfold wp_X11_slotAt_55
      have e : zSlot (zHr σ m) (k + 1) i = zSlot (zHr σ m) k (i + 1) := by simp [zSlot, zHr, q2]
      rw [e, nI_add]
      exact h1
    · have e : zSlot (zHr σ m) (k + 1) i = some i := by simp [zSlot, zHr, q, q2]
      rw [e]
      rfl
def zHm (τ : sj_S) (m : Int32) (s : Nat) : Bool := !decide (m < zMin (τ 70 (s / 4)) (τ 71 (s / 4)) (τ 72 (s / 4)) (s % 4) false) && !decide (zMin (τ 70 (s / 4)) (τ 71 (s / 4)) (τ 72 (s / 4)) (s % 4) true ≤ m)
theorem zSlot_congr {f g : Nat → Bool} {n : Nat} (h : ∀ i, i < n → f i = g i) : ∀ k i, i + k ≤ n → zSlot f k i = zSlot g k i := by
  intro k
  induction k with
  | zero => intro i _; rfl
  | succ k ih =>
    intro i hi
    show (if f i then some i else zSlot f k (i + 1)) = (if g i then some i else zSlot g k (i + 1))
    rw [h i (by omega), ih (i + 1) (by omega)]
end ZP7
