/-! PAIRS 15: most -/
def zTot (D : zD) (b p n : Nat) : Nat := q_cnt (fun l => decide (dP D b l = p)) n
def zMf (f : Nat → Nat) : Nat → Nat → Nat → Nat
  | 0, _, a => a
  | k + 1, i, a => zMf f k (i + 1) (if a < f i then f i else a)
section ZPO
variable {G : sj_G} {σ : sj_S} {D : zD}
theorem zMf_le {f : Nat → Nat} {B : Nat} : ∀ k i a, zMf f k i a ≤ B ↔ a ≤ B ∧ ∀ j, i ≤ j → j < i + k → f j ≤ B := by
  intro k
  induction k with
  | zero =>
    intro i a
    exact ⟨fun h => ⟨h, fun j h1 h2 => by omega⟩, fun h => h.1⟩
  | succ k ih =>
    intro i a
    show zMf f k (i + 1) (if a < f i then f i else a) ≤ B ↔ _
    rw [ih]
    constructor
    · rintro ⟨h1, h2⟩
      have h3 : a ≤ B ∧ f i ≤ B := by
        by_cases q : a < f i
        · rw [if_pos q] at h1; omega
        · rw [if_neg q] at h1; omega
      refine ⟨h3.1, fun j h4 h5 => ?_⟩
      by_cases q : j = i
      · subst q; exact h3.2
      · exact h2 j (by omega) (by omega)
    · rintro ⟨h1, h2⟩
      refine ⟨?_, fun j h4 h5 => h2 j (by omega) (by omega)⟩
      have := h2 i (by omega) (by omega)
      split <;> omega
theorem q_cnt_le (p : Nat → Bool) : ∀ n, q_cnt p n ≤ n := by
  intro n
  induction n with
  | zero => exact Nat.le_refl 0
  | succ n ih =>
    show q_cnt p n + (if p n then 1 else 0) ≤ n + 1
    split <;> omega
theorem zTot_s {b p n : Nat} : zTot D b p (n + 1) = zTot D b p n + (if dP D b n = p then 1 else 0) := by
  show q_cnt _ n + (if decide (dP D b n = p) = true then 1 else 0) = _
  simp only [decide_eq_true_eq]
  rfl
theorem z_addc {a : Nat} {c : Prop} [Decidable c] : nI a + (if (if c then nI 1 else nI 0) = 0 then nI 0 else nI 1) = nI (a + (if c then 1 else 0)) := by
  by_cases q : c
  · rw [if_pos q, if_pos q, if_neg z_10, nI_add]
  · rw [if_neg q, if_neg q, if_pos z_00, nI_add]
theorem z_totalOf (ok : sj_ok G) (hC : repC D (σ 2)) (v : okD D) {b p : Nat} (hb : b ≤ 1) (hp : p < 20) : sj_C G 3 me_X1_totalOf [.ref (sj_ad G 39), .ref (sj_ad G 1), .int (nI b), .int (nI p)] σ (.ok (nI (zTot D b p (dN D))), σ) := by
  have h9 := v.1
  refine c_X1_totalOf ok ?_
  unfold wp_X1_totalOf_0
  have key : ∀ k i, i + k = dN D → sj_J G 3 me_X1_totalOf (.ok (nI (zTot D b p (dN D))), σ) 6 [.null, .ref (sj_ad G 1), .int (nI b), .int (nI p), .int (nI (zTot D b p i)), .int (nI i)] σ [] := by
    intro k
    induction k with
    | zero =>
      intro i hi
      have : i = dN D := by omega
      subst this
      refine t_X1_totalOf_6 ⟨_, _, z_lessonTotal ok, fun _ => rfl, fun q => ?_⟩
      rw [hC.1] at q
      exact absurd (nI_le (by omega) (by omega)) q
    | succ k ih =>
      intro i hi
      refine t_X1_totalOf_6 ⟨_, _, z_lessonTotal ok, fun q => ?_, fun _ => ⟨_, _, z_isOfD ok hC v (by omega) hb (by omega), ?_⟩⟩
      · rw [hC.1] at q
        exact absurd q (nI_ge (by omega) (by omega))
      · unfold wp_X1_totalOf_33
        rw [z_addc, ← zTot_s, nI_add]
        exact ih (i + 1) (by omega)
  exact key (dN D) 0 (by omega)
theorem z_mx {a c : Nat} (ha : a < 100) (hc : c < 100) : (if nI a < nI c then nI c else nI a) = nI (if a < c then c else a) := by
  by_cases q : a < c
  · rw [if_pos (nI_lt q (by omega)), if_pos q]
  · rw [if_neg (nI_nlt (by omega) (by omega)), if_neg q]
theorem zTot_le (v : okD D) {b p : Nat} : zTot D b p (dN D) ≤ 9 := Nat.le_trans (q_cnt_le _ _) v.1
theorem z_mostOf (ok : sj_ok G) (hC : repC D (σ 2)) (v : okD D) : sj_C G 4 me_X1_mostOf [.ref (sj_ad G 39), .ref (sj_ad G 1)] σ (.ok (nI (zMf (fun t => zTot D 1 t (dN D)) 6 0 (zMf (fun g => zTot D 0 g (dN D)) 4 0 0))), σ) := by
  refine c_X1_mostOf ok ?_
  unfold wp_X1_mostOf_0
  have k29 : ∀ k i a, a < 50 → i + k = 6 → sj_J G 4 me_X1_mostOf (.ok (nI (zMf (fun t => zTot D 1 t (dN D)) k i a)), σ) 29 [.ref (sj_ad G 39), .ref (sj_ad G 1), .int (nI a), .int (nI i)] σ [] := by
    intro k
    induction k with
    | zero =>
      intro i a ha hi
      exact t_X1_mostOf_29 ⟨fun _ => rfl, fun q => absurd (nI_le (by omega) (by omega)) q⟩
    | succ k ih =>
      intro i a ha hi
      have hl := zTot_le (D := D) v (b := 1) (p := i)
      refine t_X1_mostOf_29 ⟨fun q => absurd q (nI_ge (by omega) (by omega)), fun _ => ⟨_, _, z_totalOf (b := 1) ok hC v (by decide) (by omega), ?_⟩⟩
      rw [z_mx (by omega) (by omega), nI_add]
      exact ih (i + 1) _ (by dsimp only; split <;> omega) (by omega)
  have k4 : ∀ k i a, a < 50 → i + k = 4 → sj_J G 4 me_X1_mostOf (.ok (nI (zMf (fun t => zTot D 1 t (dN D)) 6 0 (zMf (fun g => zTot D 0 g (dN D)) k i a))), σ) 4 [.ref (sj_ad G 39), .ref (sj_ad G 1), .int (nI a), .int (nI i)] σ [] := by
    intro k
    induction k with
    | zero =>
      intro i a ha hi
      exact t_X1_mostOf_4 ⟨fun _ => k29 6 0 a ha (by decide), fun q => absurd (nI_le (by omega) (by omega)) q⟩
    | succ k ih =>
      intro i a ha hi
      have hl := zTot_le (D := D) v (b := 0) (p := i)
      refine t_X1_mostOf_4 ⟨fun q => absurd q (nI_ge (by omega) (by omega)), fun _ => ⟨_, _, z_totalOf (b := 0) ok hC v (by decide) (by omega), ?_⟩⟩
      rw [z_mx (by omega) (by omega), nI_add]
      exact ih (i + 1) _ (by dsimp only; split <;> omega) (by omega)
  exact k4 4 0 0 (by decide) (by decide)
def zTk2 (D : zD) (k : Nat) : Nat := if 6 ≤ k then zTot D 0 (k - 6) (dN D) else zTot D 1 k (dN D)
theorem zMost_eq : zMf (fun t => zTot D 1 t (dN D)) 6 0 (zMf (fun g => zTot D 0 g (dN D)) 4 0 0) = zMf (zTk2 D) 10 0 0 := by
  have h : ∀ B, zMf (fun t => zTot D 1 t (dN D)) 6 0 (zMf (fun g => zTot D 0 g (dN D)) 4 0 0) ≤ B ↔ zMf (zTk2 D) 10 0 0 ≤ B := by
    intro B
    rw [zMf_le, zMf_le, zMf_le]
    constructor
    · rintro ⟨⟨-, h1⟩, h2⟩
      refine ⟨Nat.zero_le _, fun j _ hj => ?_⟩
      unfold zTk2
      by_cases q : 6 ≤ j
      · rw [if_pos q]; exact h1 (j - 6) (by omega) (by omega)
      · rw [if_neg q]; exact h2 j (by omega) (by omega)
    · rintro ⟨-, h1⟩
      refine ⟨⟨Nat.zero_le _, fun j _ hj => ?_⟩, fun j _ hj => ?_⟩
      · have := h1 (j + 6) (by omega) (by omega)
        unfold zTk2 at this
        rw [if_pos (by omega), Nat.add_sub_cancel] at this
        exact this
      · have := h1 j (by omega) (by omega)
        unfold zTk2 at this
        rw [if_neg (by omega)] at this
        exact this
  exact Nat.le_antisymm ((h _).mpr (Nat.le_refl _)) ((h _).mp (Nat.le_refl _))
end ZPO
