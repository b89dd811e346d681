/-! COVER 3: the reference -/
theorem z_nltm {x : Nat} (h : x < 2 ^ 31) : ¬ nI x < -1 := by
  rw [Int32.lt_iff_toInt_lt, nI_toInt h, show (-1 : Int32).toInt = -1 by decide]
  omega
theorem z_ltm1 {x : Nat} (h : x < 2 ^ 31) : (-1 : Int32) < nI x := by
  rw [Int32.lt_iff_toInt_lt, nI_toInt h, show (-1 : Int32).toInt = -1 by decide]
  omega
def zSe (C : Nat → Nat → Bool) (w : Nat → Nat) : Nat → Nat → Nat → Option Nat
  | 0, _, a => some a
  | n + 1, k, a => if w k < 6 then (if C k (w k) = true ∧ q_any (fun j => decide (w j = w k)) k = false then zSe C w n (k + 1) (a + 1) else none) else zSe C w n (k + 1) a
theorem zSe_s {C : Nat → Nat → Bool} {w : Nat → Nat} {n k a : Nat} : zSe C w (n + 1) k a = if w k < 6 then (if C k (w k) = true ∧ q_any (fun j => decide (w j = w k)) k = false then zSe C w n (k + 1) (a + 1) else none) else zSe C w n (k + 1) a := rfl
theorem zSe_iff {C : Nat → Nat → Bool} {w : Nat → Nat} : ∀ n k r, zVal C w k → (zSe C w n k (zCt w k) = some r ↔ zVal C w (k + n) ∧ zCt w (k + n) = r) := by
  intro n
  induction n with
  | zero =>
    intro k r hv
    exact ⟨fun h => ⟨hv, Option.some.inj h⟩, fun h => congrArg some h.2⟩
  | succ n ih =>
    intro k r hv
    rw [zSe_s]
    have ek : k + (n + 1) = (k + 1) + n := by omega
    rw [ek]
    by_cases h6 : w k < 6
    · rw [if_pos h6]
      have ec : zCt w k + 1 = zCt w (k + 1) := by rw [zCt_s, if_pos h6]
      by_cases hg : C k (w k) = true ∧ q_any (fun j => decide (w j = w k)) k = false
      · rw [if_pos hg, ec]
        refine ih (k + 1) r (fun i hi h => ?_)
        by_cases e : i = k
        · subst e
          refine ⟨hg.1, fun j hj q => ?_⟩
          have := q_any_f.mp hg.2 j hj
          rw [decide_eq_true q] at this
          cases this
        · exact hv i (by omega) h
      · rw [if_neg hg]
        constructor
        · intro h; cases h
        · rintro ⟨h, -⟩
          exfalso
          obtain ⟨h1, h2⟩ := h k (by omega) h6
          exact hg ⟨h1, q_any_f.mpr (fun j hj => decide_eq_false (h2 j hj))⟩
    · rw [if_neg h6]
      have ec : zCt w k = zCt w (k + 1) := by rw [zCt_s, if_neg h6]; rfl
      rw [ec]
      refine ih (k + 1) r (fun i hi h => ?_)
      by_cases e : i = k
      · subst e; exact absurd h h6
      · exact hv i (by omega) h
theorem zSe_i {C : Nat → Nat → Bool} {w : Nat → Nat} {m r : Nat} : zSe C w m 0 0 = some r ↔ zVal C w m ∧ zCt w m = r := by
  have h := zSe_iff (C := C) (w := w) m 0 r (fun i hi => absurd hi (by omega))
  rw [Nat.zero_add] at h
  exact h
theorem zCt_le {w : Nat → Nat} {k : Nat} : zCt w k ≤ k := q_cnt_le _ _
section ZVM
variable {G : sj_G} {σ : sj_S} {D : zD} {T : Nat → Nat}
def zPS (C : Nat → Nat → Bool) (m n : Nat) (ρ : sj_S) : Prop := (ρ 56 16 = -1 ∧ ∀ i, i < n → ¬ zVal C (zDg m i) m) ∨
  ∃ b, b < n ∧ zVal C (zDg m b) m ∧ ρ 56 16 = nI (zCt (zDg m b) m) ∧ (∀ k, k < m → ρ 68 k = nI (zDg m b k)) ∧ (∀ i, i < n → zVal C (zDg m i) m → zCt (zDg m i) m ≤ zCt (zDg m b) m) ∧ ∀ i, i < b → zVal C (zDg m i) m → zCt (zDg m i) m < zCt (zDg m b) m
def zPF (σ ρ : sj_S) : Prop := (∀ b, b ≠ 56 → b ≠ 66 → b ≠ 67 → b ≠ 68 → ρ b = σ b) ∧ ∀ k, k ≠ 15 → k ≠ 16 → ρ 56 k = σ 56 k
theorem zPF_st {ρ : sj_S} (h : zPF σ ρ) {a i : Nat} {x : Int32} (ha : a = 66 ∨ a = 67 ∨ a = 68) : zPF σ (sj_st ρ a i x) :=
  ⟨fun b h1 h2 h3 h4 => by rw [z_stn (by omega)]; exact h.1 b h1 h2 h3 h4, fun k h1 h2 => by rw [z_stn (by omega)]; exact h.2 k h1 h2⟩
theorem zPF_56 {ρ : sj_S} (h : zPF σ ρ) {i : Nat} {x : Int32} (hi : i = 15 ∨ i = 16) : zPF σ (sj_st ρ 56 i x) :=
  ⟨fun b h1 h2 h3 h4 => by rw [z_stn h1]; exact h.1 b h1 h2 h3 h4, fun k h1 h2 => by rw [z_sti (by omega)]; exact h.2 k h1 h2⟩
def zPE (D : zD) (T : Nat → Nat) (s : Nat) (ρ : sj_S) : Prop := ρ 56 15 = nI (zNm9 D T s) ∧ ρ 56 16 = nI (zMx (zCC D T s) (zNm9 D T s) 0 (fun _ => true)) ∧ ∀ k, k < zNm9 D T s → ρ 66 k = nI (zNd (zNe D T s) k) ∧ ρ 68 k = nI (zGg (zCC D T s) (zNm9 D T s) k)
end ZVM
