/-! PAIRS 10: dropLesson -/
def zNm (D : zD) (w l : Nat) : Bool := (decide (2 ≤ D 8 w) && decide (D 9 w = l)) || (decide (4 ≤ D 8 w) && decide (D 10 w = l))
def zRn (D : zD) (l : Nat) (S : Nat → Bool) : zD := fun f i => if f = 9 ∧ S i = true ∧ 2 ≤ D 8 i ∧ l < D 9 i then D 9 i - 1 else if f = 10 ∧ S i = true ∧ 4 ≤ D 8 i ∧ l < D 10 i then D 10 i - 1 else D f i
def zF (l : Nat) : Nat → zD → zD
  | 0, D => D
  | w + 1, D => zF l w (if zNm D w l then zDW D w else D)
def zG (l : Nat) : Nat → zD → zD
  | 0, D => D
  | w + 1, D => zG l w (if zNm D w l then zDW D w else zRn D l (fun i => decide (i = w)))
def zDL (D : zD) (l : Nat) : zD := fun f i => if f = 0 then (if i = 0 then D 0 0 - 1 else D 0 i) else if 3 ≤ f ∧ f ≤ 7 ∧ l ≤ i then D f (i + 1) else D f i
section ZPD
variable {G : sj_G} {σ : sj_S} {D : zD} {l : Nat}
theorem zRn_o {S : Nat → Bool} {f i : Nat} (h : f ≠ 9) (h2 : f ≠ 10) : zRn D l S f i = D f i := by
  unfold zRn
  rw [if_neg (fun q => h q.1), if_neg (fun q => h2 q.1)]
theorem zRn_9 {S : Nat → Bool} {i : Nat} : zRn D l S 9 i = if S i = true ∧ 2 ≤ D 8 i ∧ l < D 9 i then D 9 i - 1 else D 9 i := by
  unfold zRn
  by_cases q : S i = true ∧ 2 ≤ D 8 i ∧ l < D 9 i
  · rw [if_pos ⟨rfl, q⟩, if_pos q]
  · rw [if_neg (fun r => q r.2), if_neg (fun r => absurd r.1 (by decide)), if_neg q]
theorem zRn_10 {S : Nat → Bool} {i : Nat} : zRn D l S 10 i = if S i = true ∧ 4 ≤ D 8 i ∧ l < D 10 i then D 10 i - 1 else D 10 i := by
  unfold zRn
  rw [if_neg (fun q => absurd q.1 (by decide))]
  by_cases q : S i = true ∧ 4 ≤ D 8 i ∧ l < D 10 i
  · rw [if_pos ⟨rfl, q⟩, if_pos q]
  · rw [if_neg (fun r => q r.2), if_neg q]
theorem zRn_ext {D' : zD} {S : Nat → Bool} (h : ∀ f i, f ≠ 9 → f ≠ 10 → D' f i = D f i) (h9 : ∀ i, D' 9 i = if S i = true ∧ 2 ≤ D 8 i ∧ l < D 9 i then D 9 i - 1 else D 9 i) (h10 : ∀ i, D' 10 i = if S i = true ∧ 4 ≤ D 8 i ∧ l < D 10 i then D 10 i - 1 else D 10 i) : D' = zRn D l S := by
  funext f i
  by_cases e : f = 9
  · subst e; rw [h9, zRn_9]
  · by_cases e2 : f = 10
    · subst e2; rw [h10, zRn_10]
    · rw [h f i e e2, zRn_o e e2]
theorem zG_eq : ∀ w (D : zD), zG l w (zRn D l (fun i => decide (w ≤ i))) = zRn (zF l w D) l (fun i => decide (0 ≤ i)) := by
  intro w
  induction w with
  | zero => intro D; rfl
  | succ w ih =>
    intro D
    have hnm : zNm (zRn D l (fun i => decide (w + 1 ≤ i))) w l = zNm D w l := by
      unfold zNm
      rw [zRn_o (by decide) (by decide), zRn_9, zRn_10, if_neg (fun q => absurd (of_decide_eq_true q.1) (by omega)), if_neg (fun q => absurd (of_decide_eq_true q.1) (by omega))]
    show zG l w (if zNm (zRn D l (fun i => decide (w + 1 ≤ i))) w l then zDW (zRn D l (fun i => decide (w + 1 ≤ i))) w else zRn (zRn D l (fun i => decide (w + 1 ≤ i))) l (fun i => decide (i = w))) = zRn (zF l w (if zNm D w l then zDW D w else D)) l (fun i => decide (0 ≤ i))
    rw [hnm]
    cases hq : zNm D w l
    · rw [if_neg (by decide), if_neg (by decide), ← ih D]
      congr 1
      refine zRn_ext (fun f i h1 h2 => by rw [zRn_o h1 h2, zRn_o h1 h2]) (fun i => ?_) (fun i => ?_)
      · rw [zRn_9, zRn_o (by decide) (by decide), zRn_9]
        simp only [decide_eq_true_eq]
        by_cases e : i = w
        · subst e
          simp [show ¬ i + 1 ≤ i by omega]
        · by_cases e2 : w + 1 ≤ i
          · simp [e, e2, show w ≤ i by omega]
          · simp [e, e2, show ¬ w ≤ i by omega]
      · rw [zRn_10, zRn_o (by decide) (by decide), zRn_10]
        simp only [decide_eq_true_eq]
        by_cases e : i = w
        · subst e
          simp [show ¬ i + 1 ≤ i by omega]
        · by_cases e2 : w + 1 ≤ i
          · simp [e, e2, show w ≤ i by omega]
          · simp [e, e2, show ¬ w ≤ i by omega]
    · rw [if_pos rfl, if_pos rfl, ← ih (zDW D w)]
      congr 1
      refine zRn_ext (fun f i h1 h2 => ?_) (fun i => ?_) (fun i => ?_)
      · unfold zDW
        simp only [zRn_o h1 h2, zRn_o (show (1 : Nat) ≠ 9 by decide) (show (1 : Nat) ≠ 10 by decide)]
      · rw [zDW_w (by decide) (by decide), zRn_9, zRn_9, zDW_w (by decide) (by decide), zDW_w (by decide) (by decide)]
        simp only [decide_eq_true_eq]
        by_cases e : w ≤ i
        · simp [e]
        · simp [e, show ¬ w + 1 ≤ i by omega]
      · rw [zDW_w (by decide) (by decide), zRn_10, zRn_10, zDW_w (by decide) (by decide), zDW_w (by decide) (by decide)]
        simp only [decide_eq_true_eq]
        by_cases e : w ≤ i
        · simp [e]
        · simp [e, show ¬ w + 1 ≤ i by omega]
theorem zDW_noT {w : Nat} : zDW (zNoT D) w = zNoT (zDW D w) := by
  funext f i
  unfold zDW zNoT zUp
  by_cases h : f = 2
  · subst h; simp
  · simp [h]
theorem zF_noT : ∀ w (D : zD), zF l w (zNoT D) = zNoT (zF l w D) := by
  intro w
  induction w with
  | zero => intro D; rfl
  | succ w ih =>
    intro D
    have hnm : zNm (zNoT D) w l = zNm D w l := rfl
    show zF l w (if zNm (zNoT D) w l then zDW (zNoT D) w else zNoT D) = zNoT (zF l w (if zNm D w l then zDW D w else D))
    rw [hnm, zDW_noT]
    cases zNm D w l
    · exact ih D
    · exact ih (zDW D w)
theorem zRn_noT {S : Nat → Bool} : zRn (zNoT D) l S = zNoT (zRn D l S) := by
  funext f i
  unfold zRn zNoT zUp
  by_cases h : f = 2
  · subst h; simp
  · simp [h]
theorem zDL_noT : zDL (zNoT D) l = zNoT (zDL D l) := by
  funext f i
  unfold zDL zNoT zUp
  by_cases h : f = 2
  · subst h; simp
  · simp [h]
theorem okD_F : ∀ w (D : zD), okD D → w ≤ dW D → okD (zF l w D) ∧ dN (zF l w D) = dN D ∧ (∀ i, i < dW (zF l w D) → (∀ j, w ≤ j → j < dW D → zNm D j l = false) → zNm (zF l w D) i l = false) := by
  intro w
  induction w with
  | zero => intro D v _; exact ⟨v, rfl, fun i hi h => h i (by omega) hi⟩
  | succ w ih =>
    intro D v hw
    cases hq : zNm D w l
    · have e : zF l (w + 1) D = zF l w D := by
        show zF l w (if zNm D w l then zDW D w else D) = _
        rw [hq]; rfl
      rw [e]
      obtain ⟨a, b, c⟩ := ih D v (by omega)
      refine ⟨a, b, fun i hi h => c i hi (fun j hj hj2 => ?_)⟩
      by_cases q : j = w
      · subst q; exact hq
      · exact h j (by omega) hj2
    · have e : zF l (w + 1) D = zF l w (zDW D w) := by
        show zF l w (if zNm D w l then zDW D w else D) = _
        rw [hq]; rfl
      rw [e]
      have eW : dW (zDW D w) = dW D - 1 := rfl
      obtain ⟨a, b, c⟩ := ih (zDW D w) (okD_dw v) (by rw [eW]; omega)
      refine ⟨a, b, fun i hi h => c i hi (fun j hj hj2 => ?_)⟩
      rw [eW] at hj2
      have := h (j + 1) (by omega) (by omega)
      unfold zNm at this ⊢
      rw [zDW_w (by decide) (by decide), zDW_w (by decide) (by decide), zDW_w (by decide) (by decide), if_pos hj, if_pos hj, if_pos hj]
      exact this
theorem okD_dl {S : Nat → Bool} (v : okD D) (hl : l < dN D) (hS : ∀ i, i < dW D → S i = true) (hn : ∀ i, i < dW D → zNm D i l = false) : okD (zDL (zRn D l S) l) := by
  have h9 := v.1
  have eo : ∀ f i, f ≠ 0 → (f < 3 ∨ 7 < f) → zDL (zRn D l S) l f i = zRn D l S f i := fun f i h1 h2 => by
    unfold zDL
    rw [if_neg h1, if_neg (by omega)]
  refine ⟨?_, ?_, ?_, fun i hi => ?_, fun w hw => ?_, fun t h => ?_, fun k h => ?_, fun e h => ?_⟩
  · show dN D - 1 ≤ 9
    omega
  · rw [show dW (zDL (zRn D l S) l) = _ from eo 1 0 (by decide) (by decide), zRn_o (by decide) (by decide)]
    exact v.2.1
  · rw [show dT (zDL (zRn D l S) l) = _ from eo 2 0 (by decide) (by decide), zRn_o (by decide) (by decide)]
    exact v.2.2.1
  · have hi : i < dN D - 1 := hi
    have e : ∀ f, 3 ≤ f → f ≤ 7 → zDL (zRn D l S) l f i = D f (if l ≤ i then i + 1 else i) := fun f a b => by
      unfold zDL
      rw [if_neg (by omega)]
      by_cases q : l ≤ i
      · rw [if_pos ⟨a, b, q⟩, if_pos q, zRn_o (by omega) (by omega)]
      · rw [if_neg (by omega), if_neg q, zRn_o (by omega) (by omega)]
    rw [show dG (zDL (zRn D l S) l) i = _ from e 3 (by decide) (by decide), show dTe (zDL (zRn D l S) l) i = _ from e 4 (by decide) (by decide), show dSu (zDL (zRn D l S) l) i = _ from e 5 (by decide) (by decide), show dKi (zDL (zRn D l S) l) i = _ from e 6 (by decide) (by decide), show dDb (zDL (zRn D l S) l) i = _ from e 7 (by decide) (by decide)]
    exact v.2.2.2.1 (if l ≤ i then i + 1 else i) (by split <;> omega)
  · have hw : w < dW D := by
      rw [show dW (zDL (zRn D l S) l) = _ from eo 1 0 (by decide) (by decide), zRn_o (by decide) (by decide)] at hw
      exact hw
    have hs := hS w hw
    have hm := hn w hw
    obtain ⟨a1, a2, a3, a4, a5, a6, a7⟩ := v.2.2.2.2.1 w hw
    have eN : dN (zDL (zRn D l S) l) = D 0 0 - 1 := rfl
    have hm2 : (2 ≤ D 8 w → D 9 w ≠ l) ∧ (4 ≤ D 8 w → D 10 w ≠ l) := by
      unfold zNm at hm
      simp only [Bool.or_eq_false_iff, Bool.and_eq_false_iff, decide_eq_false_iff_not] at hm
      exact ⟨fun q r => (hm.1.resolve_left (fun x => x q)) r, fun q r => (hm.2.resolve_left (fun x => x q)) r⟩
    rw [eN, show dSo (zDL (zRn D l S) l) w = _ from eo 8 w (by decide) (by decide), show dA (zDL (zRn D l S) l) w = _ from eo 9 w (by decide) (by decide), show dB (zDL (zRn D l S) l) w = _ from eo 10 w (by decide) (by decide), show dWe (zDL (zRn D l S) l) w = _ from eo 11 w (by decide) (by decide), zRn_o (by decide) (by decide), zRn_o (by decide) (by decide), zRn_9, zRn_10]
    have hl : l < D 0 0 := hl
    have a1 : D 8 w ≤ 6 := a1
    have a2 : D 11 w ≤ 9 := a2
    have a3 : D 8 w = 0 → D 9 w < 6 ∧ D 10 w < 20 := a3
    have a4 : D 8 w = 1 → D 9 w < 4 ∧ D 10 w < 20 := a4
    have a5 : D 8 w = 2 → D 9 w < D 0 0 ∧ D 10 w < 5 := a5
    have a6 : D 8 w = 3 → D 9 w < D 0 0 ∧ D 10 w < 20 := a6
    have a7 : 4 ≤ D 8 w → D 9 w < D 0 0 ∧ D 10 w < D 0 0 ∧ D 9 w ≠ D 10 w := a7
    simp only [hs, true_and]
    generalize D 8 w = s at *
    generalize D 9 w = a at *
    generalize D 10 w = b at *
    generalize D 0 0 = n at *
    refine ⟨a1, a2, fun q => ?_, fun q => ?_, fun q => ?_, fun q => ?_, fun q => ?_⟩
    · rw [if_neg (by omega), if_neg (by omega)]; exact a3 q
    · rw [if_neg (by omega), if_neg (by omega)]; exact a4 q
    · have := a5 q
      have := hm2.1 (by omega)
      rw [if_neg (by omega : ¬ (4 ≤ s ∧ l < b))]
      refine ⟨?_, by omega⟩
      split <;> omega
    · have := a6 q
      have := hm2.1 (by omega)
      rw [if_neg (by omega : ¬ (4 ≤ s ∧ l < b))]
      refine ⟨?_, by omega⟩
      split <;> omega
    · have := a7 q
      have := hm2.1 (by omega)
      have := hm2.2 q
      refine ⟨?_, ?_, ?_⟩
      · split <;> omega
      · split <;> omega
      · split <;> split <;> omega
  · rw [show dTch (zDL (zRn D l S) l) t = _ from eo 12 t (by decide) (by decide), show dIll (zDL (zRn D l S) l) t = _ from eo 14 t (by decide) (by decide), zRn_o (by decide) (by decide), zRn_o (by decide) (by decide)]
    exact v.2.2.2.2.2.1 t h
  · rw [show dRo (zDL (zRn D l S) l) k = _ from eo 13 k (by decide) (by decide), zRn_o (by decide) (by decide)]
    exact v.2.2.2.2.2.2.1 k h
  · have q : ∀ e, dAp (zDL (zRn D l S) l) e = dAp D e := fun e => (eo 15 e (by decide) (by decide)).trans (zRn_o (by decide) (by decide))
    rw [q]
    exact ⟨(v.2.2.2.2.2.2.2 e h).1, fun o ho => by rw [q]; exact (v.2.2.2.2.2.2.2 e h).2 o ho⟩
end ZPD
