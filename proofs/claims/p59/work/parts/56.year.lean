/-! YEAR: the year of the class and of the reference -/
def zHo (f g : Nat → Nat) (n : Nat) : Nat → Bool
  | 0 => false
  | k + 1 => zHo f g n k || (decide (f k ≤ n) && decide (n ≤ g k))
def zYr (σ : sj_S) (B y0 h : Nat) (f g : Nat → Nat) : Prop := qDt y0 ∧ y0 < 2 ^ 31 ∧ qDay y0 = B ∧ B % 7 = 0 ∧ h ≤ 10 ∧ σ 50 1 = nI (B + 7305) ∧ σ 50 2 = nI h ∧ True ∧ True ∧
  (∀ k, k < h → True ∧ True ∧ f k < 50000 ∧ g k < 50000) ∧ ∀ p, p < 280 → σ 51 p = if zHo f g (B + p) h then nI 1 else nI 0
def zSd (B h : Nat) (f g : Nat → Nat) (p : Nat) : Bool := decide (p % 7 < 5) && !zHo f g (B + p) h
def zWk (B h : Nat) (f g : Nat → Nat) (w : Nat) : Nat := q_cnt (fun i => zSd B h f g (w * 7 + i)) 7
theorem zYr_of {σ σ' : sj_S} {B y0 h : Nat} {f g : Nat → Nat} (hY : zYr σ B y0 h f g) (h50 : σ' 50 = σ 50) (h51 : σ' 51 = σ 51) : zYr σ' B y0 h f g := by
  unfold zYr at hY ⊢
  rw [h50, h51]
  exact hY
section ZYE
variable {G : sj_G} {σ : sj_S} {B y0 h : Nat} {f g : Nat → Nat}
theorem zYr_B (hY : zYr σ B y0 h f g) : 3652 ≤ B ∧ B < 40180 := by
  have := qDay_bd hY.1
  rw [hY.2.2.1] at this
  exact this
theorem z_isSchoolDay (ok : sj_ok G) (hY : zYr σ B y0 h f g) {p : Nat} (hp : p < 280) : sj_C G 2 me_X10_isSchoolDay [.ref (sj_ad G 50), .int (nI p)] σ (.ok (if zSd B h f g p then nI 1 else nI 0), σ) := by
  have e : (if nI p < 0 then nI 0 else (if nI 280 ≤ nI p then nI 0 else (if nI 5 ≤ (nI p - nI p / nI 7 * nI 7) then nI 0 else (if (σ 51 (nI p).toNatClampNeg) = 0 then nI 1 else nI 0)))) = if zSd B h f g p then nI 1 else nI 0 := by
    rw [if_neg (nI_pos (by omega)), if_neg (nI_ge hp (by decide)), z_rem (by omega) (by decide) (by decide), nI_clamp (by omega), hY.2.2.2.2.2.2.2.2.2.2 p hp]
    unfold zSd
    by_cases q : p % 7 < 5
    · rw [if_neg (nI_ge q (by decide)), decide_eq_true q]
      cases zHo f g (B + p) h <;> rfl
    · rw [if_pos (nI_le (by omega) (by omega)), decide_eq_false q]
      rfl
  refine c_X10_isSchoolDay ok ⟨fun _ _ _ => z_in hp (by decide), ?_⟩
  unfold wp_X10_isSchoolDay_33
  rw [e]
  exact ⟨rfl, z_01 _⟩
theorem z_isSchoolDay0 (ok : sj_ok G) {x : Int32} (hx : x < 0 ∨ nI 280 ≤ x) : sj_C G 2 me_X10_isSchoolDay [.ref (sj_ad G 50), .int x] σ (.ok (nI 0), σ) := by
  have e : (if x < 0 then nI 0 else (if nI 280 ≤ x then nI 0 else (if nI 5 ≤ (x - x / nI 7 * nI 7) then nI 0 else (if (σ 51 x.toNatClampNeg) = 0 then nI 1 else nI 0)))) = nI 0 := by
    by_cases q : x < 0
    · rw [if_pos q]
    · rw [if_neg q, if_pos (hx.resolve_left q)]
  refine c_X10_isSchoolDay ok ⟨fun a b _ => ?_, ?_⟩
  · rcases hx with hx | hx
    · exact absurd hx a
    · exact absurd hx b
  · unfold wp_X10_isSchoolDay_33
    rw [e]
    exact ⟨rfl, Or.inl rfl⟩
theorem z_daysBetween (ok : sj_ok G) (hY : zYr σ B y0 h f g) {a b : Nat} (hab : a ≤ b) (hb : b ≤ 280) : sj_C G 3 me_X10_daysBetween [.ref (sj_ad G 50), .int (nI a), .int (nI b)] σ (.ok (nI (q_cnt (fun i => zSd B h f g (a + i)) (b - a))), σ) := by
  refine c_X10_daysBetween ok ?_
  unfold wp_X10_daysBetween_0
  generalize eS : (fun i => zSd B h f g (a + i)) = S
  have hS : ∀ i, zSd B h f g (a + i) = S i := fun i => by rw [← eS]
  have key : ∀ j i, i + j = b - a → sj_J G 3 me_X10_daysBetween (.ok (nI (q_cnt S (b - a))), σ) 5 [.ref (sj_ad G 50), .null, .int (nI b), .int (nI (q_cnt S i)), .int (nI (a + i))] σ [] := by
    intro j
    induction j with
    | zero =>
      intro i hi
      have : i = b - a := by omega
      subst this
      exact t_X10_daysBetween_5 ⟨fun _ => rfl, fun q => absurd (nI_le (by omega) (by omega)) q⟩
    | succ j ih =>
      intro i hi
      have h1 := ih (i + 1) (by omega)
      have e : q_cnt S (i + 1) = q_cnt S i + (if S i then 1 else 0) := rfl
      refine t_X10_daysBetween_5 ⟨fun q => absurd q (nI_ge (by omega) (by omega)), fun _ => ⟨_, _, z_isSchoolDay ok hY (p := a + i) (by omega), ?_⟩⟩
      unfold wp_X10_daysBetween_26
      have e2 : (if (if zSd B h f g (a + i) then nI 1 else nI 0) = 0 then nI 0 else nI 1) = nI (if S i then 1 else 0) := by
        rw [hS]
        cases S i <;> decide
      rw [e2, nI_add, nI_add, ← e]
      exact h1
  exact key (b - a) 0 (by omega)
theorem z_isSchoolWeek (ok : sj_ok G) (hY : zYr σ B y0 h f g) {w : Nat} (hw : w < 40) : sj_C G 4 me_X10_isSchoolWeek [.ref (sj_ad G 50), .int (nI w)] σ (.ok (if decide (0 < zWk B h f g w) then nI 1 else nI 0), σ) := by
  have h1 := z_daysBetween (a := w * 7) (b := w * 7 + 7) ok hY (by omega) (by omega)
  rw [show w * 7 + 7 - w * 7 = 7 by omega] at h1
  have hb : zWk B h f g w ≤ 7 := q_cnt_le _ 7
  refine c_X10_isSchoolWeek ok ?_
  unfold wp_X10_isSchoolWeek_0
  rw [pk_mul, nI_add]
  refine ⟨_, _, h1, ?_⟩
  unfold wp_X10_isSchoolWeek_23
  have e : (if nI (q_cnt (fun i => zSd B h f g (w * 7 + i)) 7) ≤ 0 then nI 0 else nI 1) = if decide (0 < zWk B h f g w) then nI 1 else nI 0 := by
    show (if nI (zWk B h f g w) ≤ 0 then nI 0 else nI 1) = _
    by_cases q : 0 < zWk B h f g w
    · rw [if_neg (nI_nle q (by omega)), decide_eq_true q]; rfl
    · rw [show zWk B h f g w = 0 by omega, nI_0]; rfl
  rw [e]
  exact ⟨rfl, z_01 _⟩
def zLt (B h : Nat) (f g : Nat → Nat) (w : Nat) : Int32 := if 0 < zWk B h f g w then nI (q_cnt (fun i => decide (0 < zWk B h f g i)) w % 2) else -1
theorem z_letterOf (ok : sj_ok G) (hY : zYr σ B y0 h f g) {w : Nat} (hw : w < 40) : sj_C G 5 me_X10_letterOf [.ref (sj_ad G 50), .int (nI w)] σ (.ok (zLt B h f g w), σ) := by
  refine c_X10_letterOf ok ?_
  unfold wp_X10_letterOf_0
  have key : ∀ j i, i + j = w → sj_J G 5 me_X10_letterOf (.ok (zLt B h f g w), σ) 4 [.ref (sj_ad G 50), .int (nI w), .int (nI (q_cnt (fun i => decide (0 < zWk B h f g i)) i)), .int (nI i)] σ [] := by
    intro j
    induction j with
    | zero =>
      intro i hi
      have : i = w := by omega
      subst this
      have hc : q_cnt (fun i => decide (0 < zWk B h f g i)) i ≤ i := q_cnt_le _ i
      refine t_X10_letterOf_4 ⟨fun _ => ⟨_, _, z_isSchoolWeek ok hY hw, ?_⟩, fun q => absurd (nI_le (by omega) (by omega)) q⟩
      unfold wp_X10_letterOf_46 zLt
      by_cases q : 0 < zWk B h f g i
      · rw [decide_eq_true q, if_pos q, if_pos rfl, if_neg z_10, z_rem (by omega) (by decide) (by decide)]
      · rw [decide_eq_false q, if_neg q, if_pos (show (if false = true then nI 1 else nI 0) = 0 from nI_0)]
    | succ j ih =>
      intro i hi
      have h1 := ih (i + 1) (by omega)
      have e : q_cnt (fun i => decide (0 < zWk B h f g i)) (i + 1) = q_cnt (fun i => decide (0 < zWk B h f g i)) i + (if decide (0 < zWk B h f g i) then 1 else 0) := rfl
      refine t_X10_letterOf_4 ⟨fun q => absurd q (nI_ge (by omega) (by omega)), fun _ => ⟨_, _, z_isSchoolWeek ok hY (by omega), ?_⟩⟩
      unfold wp_X10_letterOf_23
      have e2 : (if (if decide (0 < zWk B h f g i) then nI 1 else nI 0) = 0 then nI 0 else nI 1) = nI (if decide (0 < zWk B h f g i) then 1 else 0) := by
        cases decide (0 < zWk B h f g i) <;> decide
      rw [e2, nI_add, nI_add, ← e]
      exact h1
  exact key w 0 (by omega)
/-! the reference -/
theorem z_place {N : Nat} (hN : N < 41000) (hB : 3652 ≤ B ∧ B < 40180) : (B ≤ N ∧ N < B + 280 ∧ nI (N + 7305) - nI (B + 7305) = nI (N - B)) ∨ (¬ (B ≤ N ∧ N < B + 280) ∧ ((nI (N + 7305) - nI (B + 7305) < 0 ∧ N < B) ∨ (nI 280 ≤ nI (N + 7305) - nI (B + 7305) ∧ B + 280 ≤ N ∧ nI (N + 7305) - nI (B + 7305) = nI (N - B)))) := by
  by_cases q : N < B
  · exact Or.inr ⟨by omega, Or.inl ⟨pk_sneg (by omega) (by omega), q⟩⟩
  · have e : nI (N + 7305) - nI (B + 7305) = nI (N - B) := by rw [pk_sub (by omega), show N + 7305 - (B + 7305) = N - B by omega]
    by_cases q2 : N < B + 280
    · exact Or.inl ⟨by omega, q2, e⟩
    · exact Or.inr ⟨by omega, Or.inr ⟨by rw [e]; exact nI_le (by omega) (by omega), by omega, e⟩⟩
end ZYE
