/-! P59: THE PROOF IS SMALL: what is shown can't hold, and without any one it can -/
theorem zRi_Hc {D : zD} {H H' : Nat → Bool} {T : Nat → Nat} (h : ∀ w, w < dW D → H w = H' w) : zRi D H T ↔ zRi D H' T := by
  rw [← zRb_iff, ← zRb_iff, zRb_H h]
theorem zRi_less {D : zD} {H H' : Nat → Bool} {T : Nat → Nat} (v : okD D) (h : ∀ w, w < dW D → H' w = true → H w = true) (r : zRi D H T) : zRi D H' T := by
  rw [← zRi_iff v] at r ⊢
  exact ⟨r.1, r.2.1, r.2.2.1, fun w hw hH => r.2.2.2.1 w hw (h w hw hH), r.2.2.2.2⟩
theorem kPr_none {D : zD} {U : Nat → Bool} (h : ∀ T, ¬ zRi D (zHd D) T) (hU : zPf D U (dW D)) : ∀ T, ¬ zRi D (zHu D U) T := by
  have key : ∀ m, m ≤ dW D → ∀ T, ¬ zRi D (fun o => zHd D o && !(decide (o < m) && U o)) T := by
    intro m
    induction m with
    | zero =>
      intro _ T hT
      refine h T ((zRi_Hc (fun w _ => ?_)).mp hT)
      show (zHd D w && !(decide (w < 0) && U w)) = zHd D w
      rw [decide_eq_false (Nat.not_lt_zero w)]
      cases zHd D w <;> rfl
    | succ m ih =>
      intro hm T hT
      cases hu : U m
      · refine ih (by omega) T ((zRi_Hc (fun w _ => ?_)).mp hT)
        show (zHd D w && !(decide (w < m + 1) && U w)) = (zHd D w && !(decide (w < m) && U w))
        by_cases e : w = m
        · rw [e, hu, decide_eq_true (by omega : m < m + 1), decide_eq_false (Nat.lt_irrefl m)]
          rfl
        · by_cases l : w < m
          · rw [decide_eq_true l, decide_eq_true (by omega : w < m + 1)]
          · rw [decide_eq_false l, decide_eq_false (by omega : ¬ w < m + 1)]
      · refine ((hU m (by omega)).mp hu).2 T ((zRi_Hc (fun w _ => ?_)).mp hT)
        show (zHd D w && !(decide (w < m + 1) && U w)) = (zHd D w && !(decide (w = m) || (decide (w < m) && U w)))
        by_cases e : w = m
        · rw [e, hu, decide_eq_true (by omega : m < m + 1), decide_eq_true (rfl : m = m)]
          rfl
        · rw [decide_eq_false e, Bool.false_or]
          by_cases l : w < m
          · rw [decide_eq_true l, decide_eq_true (by omega : w < m + 1)]
          · rw [decide_eq_false l, decide_eq_false (by omega : ¬ w < m + 1)]
  intro T hT
  refine key (dW D) (Nat.le_refl _) T ((zRi_Hc (fun w hw => ?_)).mp hT)
  show zHu D U w = (zHd D w && !(decide (w < dW D) && U w))
  rw [decide_eq_true hw, Bool.true_and]
  rfl
theorem kPr_some {D : zD} {U : Nat → Bool} (v : okD D) (hU : zPf D U (dW D)) {w : Nat} (hw : w < dW D) (hP : zHu D U w = true) : ∃ T, zRi D (fun o => zHu D U o && !decide (o = w)) T := by
  have hP' : zHd D w = true ∧ U w = false := by
    have : (zHd D w && !U w) = true := hP
    rw [Bool.and_eq_true, Bool.not_eq_true'] at this
    exact this
  have h1 : ¬ (∀ T, ¬ zRi D (zKq D U w) T) := fun q => by
    have := (hU w hw).mpr ⟨hP'.1, q⟩
    rw [hP'.2] at this
    cases this
  obtain ⟨T, hT⟩ := Classical.not_forall.mp h1
  refine ⟨T, zRi_less v (fun o ho hO => ?_) (Classical.not_not.mp hT)⟩
  have hO' : ((zHd D o && !U o) && !decide (o = w)) = true := hO
  rw [Bool.and_eq_true, Bool.and_eq_true, Bool.not_eq_true', Bool.not_eq_true'] at hO'
  unfold zKq
  rw [hO'.1.1, hO'.1.2, hO'.2, Bool.and_false]
  rfl
/-- the wish j of D2 is the wish w of D -/
def kWm (D D2 : zD) (w j : Nat) : Prop := dSo D2 j = dSo D w ∧ dA D2 j = dA D w ∧ dB D2 j = dB D w
section LSM
variable {D D2 : zD} {T : Nat → Nat} {H H2 : Nat → Bool}
theorem zAny_ls {b p i : Nat} : ∀ n, kLs D D2 n → zAny D2 b p T i n = zAny D b p T i n := by
  intro n
  induction n with
  | zero => intro _; rfl
  | succ n ih =>
    intro h
    obtain ⟨h1, h2, -, -, h5⟩ := h n (by omega)
    show (zAny D2 b p T i n || (decide (dP D2 b n = p) && zTk D2 T n i)) = (zAny D b p T i n || (decide (dP D b n = p) && zTk D T n i))
    rw [ih (fun l hl => h l (by omega))]
    unfold dP zTk
    rw [h1, h2, h5]
theorem zFul_ls {w j : Nat} (hN : dN D2 = dN D) (hL : kLs D D2 (dN D)) (hm : kWm D D2 w j) : zFul D2 T j = zFul D T w := by
  obtain ⟨h1, h2, h3⟩ := hm
  unfold zFul
  rw [h1, h2, h3, hN, zAny_ls _ hL, zAny_ls _ hL]
theorem zRtH_ls (v : okD D) (hN : dN D2 = dN D) (hL : kLs D D2 (dN D)) (hR : ∀ k, k < 3 → dRo D2 k = dRo D k) (hm1 : ∀ j, j < dW D2 → H2 j = true → ∃ w, w < dW D ∧ H w = true ∧ kWm D D2 w j) (hm2 : ∀ w, w < dW D → H w = true → ∃ j, j < dW D2 ∧ H2 j = true ∧ kWm D D2 w j) : zRtH D2 H2 T ↔ zRtH D H T := by
  have e1 : ∀ l, l < dN D → dDb D2 l = dDb D l := fun l hl => (hL l hl).2.2.2.2
  have eG : ∀ l, l < dN D → dG D2 l = dG D l := fun l hl => (hL l hl).1
  have eT : ∀ l, l < dN D → dTe D2 l = dTe D l := fun l hl => (hL l hl).2.1
  have eS : ∀ l, l < dN D → dSu D2 l = dSu D l := fun l hl => (hL l hl).2.2.1
  have eK : ∀ l, l < dN D → dKi D2 l = dKi D l := fun l hl => (hL l hl).2.2.2.1
  have eM : ∀ l o, l < dN D → o < dN D → zMeet D2 T l o = zMeet D T l o := fun l o hl ho => by
    rw [zMeet_mt, zMeet_mt, e1 l hl, e1 o ho]
  have eTk : ∀ l i, l < dN D → zTk D2 T l i = zTk D T l i := fun l i hl => by
    unfold zTk
    rw [e1 l hl]
  have eC : ∀ l i, l < dN D → q_cnt (fun o => decide (dKi D2 o = dKi D2 l) && zTk D2 T o i) (dN D) = q_cnt (fun o => decide (dKi D o = dKi D l) && zTk D T o i) (dN D) := fun l i hl => q_cnt_congr _ (fun o ho => by rw [eK o ho, eK l hl, eTk o i ho])
  unfold zRtH
  rw [hN]
  constructor
  · rintro ⟨r1, r2, r3, r4, r5⟩
    refine ⟨fun l hl => by rw [← e1 l hl]; exact r1 l hl, fun l o hl ho q => ?_, fun l o hl ho q1 q2 => r3 l o hl ho (by rw [eG l hl, eG o (by omega)]; exact q1) (by rw [eS l hl, eS o (by omega)]; exact q2), fun w hw hH => ?_, fun l i hl q1 q2 => ?_⟩
    · rw [← eM l o hl (by omega)]
      exact r2 l o hl ho (by rw [eG l hl, eG o (by omega), eT l hl, eT o (by omega)]; exact q)
    · obtain ⟨j, h1, h2, h3⟩ := hm2 w hw hH
      rw [← zFul_ls hN hL h3]
      exact r4 j h1 h2
    · have h := r5 l i hl (by rw [eK l hl]; exact q1) (by rw [eTk l i hl]; exact q2)
      rw [eC l i hl, eK l hl, hR _ (by have := (v.2.2.2.1 l hl).2.2.2.1; omega)] at h
      exact h
  · rintro ⟨r1, r2, r3, r4, r5⟩
    refine ⟨fun l hl => by rw [e1 l hl]; exact r1 l hl, fun l o hl ho q => ?_, fun l o hl ho q1 q2 => r3 l o hl ho (by rw [← eG l hl, ← eG o (by omega)]; exact q1) (by rw [← eS l hl, ← eS o (by omega)]; exact q2), fun j hj hH => ?_, fun l i hl q1 q2 => ?_⟩
    · rw [eM l o hl (by omega)]
      exact r2 l o hl ho (by rw [← eG l hl, ← eG o (by omega), ← eT l hl, ← eT o (by omega)]; exact q)
    · obtain ⟨w, h1, h2, h3⟩ := hm1 j hj hH
      rw [zFul_ls hN hL h3]
      exact r4 w h1 h2
    · have h := r5 l i hl (by rw [← eK l hl]; exact q1) (by rw [← eTk l i hl]; exact q2)
      rw [eC l i hl, eK l hl, hR _ (by have := (v.2.2.2.1 l hl).2.2.2.1; omega)]
      exact h
end LSM
