/-! costOf, costs; the pair of cost -/
def zSumN (f : Nat → Nat) : Nat → Nat
  | 0 => 0
  | n + 1 => zSumN f n + f n
def zGap (D : zD) (T : Nat → Nat) (b p : Nat) : Nat := q_cnt (zGp (fun i => zAny D b p T i (dN D))) 20
def zWt (D : zD) (T : Nat → Nat) (w : Nat) : Nat := if zFul D T w then 0 else dWe D w
def zCost (D : zD) (T : Nat → Nat) : Nat := zSumN (zGap D T 0) 4 + zSumN (zGap D T 1) 6 + zSumN (zWt D T) (dW D)
theorem zSumN_le {f : Nat → Nat} {c : Nat} : ∀ n, (∀ i, i < n → f i ≤ c) → zSumN f n ≤ c * n := by
  intro n
  induction n with
  | zero => intro _; exact Nat.zero_le _
  | succ n ih =>
    intro h
    have h1 := ih (fun i hi => h i (by omega))
    have h2 := h n (by omega)
    show zSumN f n + f n ≤ c * (n + 1)
    rw [Nat.mul_add, Nat.mul_one]
    omega
theorem zSumN_congr {f g : Nat → Nat} : ∀ n, (∀ i, i < n → f i = g i) → zSumN f n = zSumN g n := by
  intro n
  induction n with
  | zero => intro _; rfl
  | succ n ih =>
    intro h
    show zSumN f n + f n = zSumN g n + g n
    rw [ih (fun i hi => h i (by omega)), h n (by omega)]
theorem zCost_lt {D : zD} {T : Nat → Nat} (v : okD D) : zCost D T < 1000 := by
  have h1 : zSumN (zGap D T 0) 4 ≤ 20 * 4 := zSumN_le 4 (fun i _ => q_cnt_le _ 20)
  have h2 : zSumN (zGap D T 1) 6 ≤ 20 * 6 := zSumN_le 6 (fun i _ => q_cnt_le _ 20)
  have h3 : zSumN (zWt D T) (dW D) ≤ 9 * dW D := zSumN_le (dW D) (fun i hi => by
    unfold zWt
    have := (v.2.2.2.2.1 i hi).2.1
    split <;> omega)
  have h12 := v.2.1
  unfold zCost
  omega
section ZPC
variable {G : sj_G} {σ : sj_S} {D : zD} {T : Nat → Nat}
theorem zGap_sp {b p : Nat} (hT : ∀ l, l < dN D → T l < 31) : q_cnt (zGp (bt (zSp D b p T (dN D)))) 20 = zGap D T b p := by
  refine q_cnt_congr 20 (fun i hi => ?_)
  have hb : ∀ i, i < 32 → bt (zSp D b p T (dN D)) i = zAny D b p T i (dN D) := fun i hi => zSp_bt hi (dN D) hT
  unfold zGp
  rw [hb i (by omega), hb (i - 1) (by omega), hb (i - 2) (by omega), hb (i - 3) (by omega), hb (1 + i) (by omega), hb (2 + i) (by omega), hb (3 + i) (by omega)]
theorem z_costOf (ok : sj_ok G) (hC : repC D (σ 2)) (v : okD D) {sl : Nat} (hsl : zSl sl) (hT : repT (dN D) T (σ sl)) : sj_C G 5 me_X6_costOf [.ref (sj_ad G 36), .ref (sj_ad G 1), .ref (sj_ad G sl)] σ (.ok (nI (zCost D T)), σ) := by
  have h12 := v.2.1
  have hT31 : ∀ l, l < dN D → T l < 31 := fun l hl => by have := (hT l hl).2; omega
  have hg : ∀ b p, sj_C G 3 me_X6_gapsIn [.ref (sj_ad G 36), .int (zSp D b p T (dN D))] σ (.ok (nI (zGap D T b p)), σ) := fun b p => by
    have h := z_gapsIn (σ := σ) ok (zSp D b p T (dN D))
    rw [zGap_sp hT31] at h
    exact h
  have hs : ∀ b p, b ≤ 1 → p < 2 ^ 31 → sj_C G 3 me_X8_slotsOfPerson [.ref (sj_ad G 1), .int (nI b), .int (nI p), .ref (sj_ad G sl)] σ (.ok (zSp D b p T (dN D)), σ) := fun b p hb hp => z_slotsOfPerson ok hC v hsl hb hp hT
  refine c_X6_costOf ok hsl ?_
  unfold wp_X6_costOf_0
  have key3 : ∀ k i, i + k = dW D → sj_J G 5 me_X6_costOf (.ok (nI (zCost D T)), σ) 66 [.null, .ref (sj_ad G 1), .ref (sj_ad G sl), .int (nI (zSumN (zGap D T 0) 4 + zSumN (zGap D T 1) 6 + zSumN (zWt D T) i)), .int (nI i), .null] σ [] := by
    intro k
    induction k with
    | zero =>
      intro i hi
      have : i = dW D := by omega
      subst this
      refine t_X6_costOf_66 hsl ⟨_, _, z_wishTotal ok, fun _ => rfl, fun h => ?_⟩
      rw [hC.2.1] at h
      exact absurd (nI_le (by omega) (by omega)) h
    | succ k ih =>
      intro i hi
      have h1 := ih (i + 1) (by omega)
      have h3 := z_ofWish (σ := σ) ok (w := i) (k := 3) (by omega) (by decide)
      rw [(hC.2.2.2.2.1 i (by omega)).2.2.2] at h3
      have hw9 := (v.2.2.2.2.1 i (by omega)).2.1
      have hwe : zSumN (zWt D T) (i + 1) = zSumN (zWt D T) i + (if zFul D T i then 0 else dWe D i) := rfl
      refine t_X6_costOf_66 hsl ⟨_, _, z_wishTotal ok, fun h => ?_, fun _ => ⟨_, _, h3, fun h => ?_, fun h => ⟨_, _, z_fulfils ok hC v hsl (by omega) hT, ?_⟩⟩⟩
      · rw [hC.2.1] at h
        exact absurd h (nI_ge (by omega) (by omega))
      · unfold wp_X6_costOf_104
        rw [← nI_0, nI_eq (by omega) (by decide)] at h
        have e : zSumN (zWt D T) (i + 1) = zSumN (zWt D T) i := by rw [hwe, h]; simp
        rw [e] at h1
        rw [nI_add]
        exact h1
      · unfold wp_X6_costOf_104
        rw [nI_add i 1]
        cases hq : zFul D T i
        · have e : zSumN (zWt D T) (i + 1) = zSumN (zWt D T) i + dWe D i := by rw [hwe, hq]; rfl
          rw [e, ← Nat.add_assoc] at h1
          rw [if_pos (show (if false = true then nI 1 else nI 0) = 0 from nI_0), nI_add]
          exact h1
        · have e : zSumN (zWt D T) (i + 1) = zSumN (zWt D T) i := by rw [hwe, hq]; rfl
          rw [e] at h1
          rw [if_neg (show ¬ (if true = true then nI 1 else nI 0) = 0 by decide)]
          exact h1
  have key2 : ∀ k i, i + k = 6 → sj_J G 5 me_X6_costOf (.ok (nI (zCost D T)), σ) 35 [.ref (sj_ad G 36), .ref (sj_ad G 1), .ref (sj_ad G sl), .int (nI (zSumN (zGap D T 0) 4 + zSumN (zGap D T 1) i)), .int (nI i), .null] σ [] := by
    intro k
    induction k with
    | zero =>
      intro i hi
      have : i = 6 := by omega
      subst this
      exact t_X6_costOf_35 hsl ⟨fun _ => key3 (dW D) 0 (by omega), fun h => absurd (nI_le (by omega) (by omega)) h⟩
    | succ k ih =>
      intro i hi
      have h1 := ih (i + 1) (by omega)
      refine t_X6_costOf_35 hsl ⟨fun h => absurd h (nI_ge (by omega) (by omega)), fun _ => ⟨_, _, hs 1 i (by decide) (by omega), _, _, hg 1 i, ?_⟩⟩
      rw [nI_add, nI_add, Nat.add_assoc]
      exact h1
  have key1 : ∀ k i, i + k = 4 → sj_J G 5 me_X6_costOf (.ok (nI (zCost D T)), σ) 5 [.ref (sj_ad G 36), .ref (sj_ad G 1), .ref (sj_ad G sl), .int (nI (zSumN (zGap D T 0) i)), .int (nI i), .null] σ [] := by
    intro k
    induction k with
    | zero =>
      intro i hi
      have : i = 4 := by omega
      subst this
      exact t_X6_costOf_5 hsl ⟨fun _ => key2 6 0 (by omega), fun h => absurd (nI_le (by omega) (by omega)) h⟩
    | succ k ih =>
      intro i hi
      have h1 := ih (i + 1) (by omega)
      refine t_X6_costOf_5 hsl ⟨fun h => absurd h (nI_ge (by omega) (by omega)), fun _ => ⟨_, _, hs 0 i (by decide) (by omega), _, _, hg 0 i, ?_⟩⟩
      rw [nI_add, nI_add]
      exact h1
  exact key1 4 0 (by omega)
end ZPC
