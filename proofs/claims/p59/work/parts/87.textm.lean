/-! TEXTS 2: the reference; a change behind any calls of the reference -/
section ZTM
variable {G : sj_G} {σ : sj_S} {D : zD}
theorem zPu_err {f : Nat → Int32} : ∀ n k st e, zPu D f n k st = .error e → e < k + n := by
  intro n
  induction n with
  | zero => intro k st e h; cases h
  | succ n ih =>
    intro k st e h
    cases hst : zPn D st (f k) with
    | none =>
      rw [zPu_n hst] at h
      cases h
      omega
    | some st' =>
      rw [zPu_s hst] at h
      have := ih (k + 1) st' e h
      omega
theorem zPe_ok {len : Nat} {r : Except Nat zPs} (hl : len < 2 ^ 31) (hr : ∀ e, r = .error e → e < 2 ^ 31) (h : zPe D len r = -1) : ∃ T, zPok D r T := by
  cases r with
  | error e => exact absurd h (z_nm1 (hr e rfl))
  | ok st =>
    by_cases q : st.2.1 = 0 ∧ st.1 = zFll (dN D)
    · exact ⟨st.2.2.2.2, st, rfl, q.1, q.2, rfl⟩
    · have e : zPe D len (.ok st) = nI len := if_neg q
      rw [e] at h
      exact absurd h (z_nm1 hl)
theorem zDy_c (b : Int32) : (if b = nI 109 then nI 0 else (if b = nI 116 then nI 1 else (if b = nI 119 then nI 2 else (if b = nI 104 then nI 3 else (if b = nI 102 then nI 4 else (-1)))))) = if zDy b < 5 then nI (zDy b) else -1 := by
  have key : zDy b = if b = nI 109 then 0 else (if b = nI 116 then 1 else (if b = nI 119 then 2 else (if b = nI 104 then 3 else (if b = nI 102 then 4 else 5)))) := by
    unfold zDy
    rw [zLs_s, zLs_s, zLs_s, zLs_s, zLs_s]
    have e : ∀ d c, zLet d = c → (!decide (nI (zLet d) = b)) = !decide (b = nI c) := fun d c h => by rw [h]; exact congrArg _ (decide_eq_decide.mpr ⟨fun q => q.symm, fun q => q.symm⟩)
    rw [e 0 109 rfl, e (0 + 1) 116 rfl, e (0 + 1 + 1) 119 rfl, e (0 + 1 + 1 + 1) 104 rfl, e (0 + 1 + 1 + 1 + 1) 102 rfl]
    by_cases h1 : b = nI 109
    · rw [decide_eq_true h1, if_pos h1]; rfl
    · rw [decide_eq_false h1, if_neg h1, if_pos (show (!false) = true from rfl)]
      by_cases h2 : b = nI 116
      · rw [decide_eq_true h2, if_pos h2]; rfl
      · rw [decide_eq_false h2, if_neg h2, if_pos (show (!false) = true from rfl)]
        by_cases h3 : b = nI 119
        · rw [decide_eq_true h3, if_pos h3]; rfl
        · rw [decide_eq_false h3, if_neg h3, if_pos (show (!false) = true from rfl)]
          by_cases h4 : b = nI 104
          · rw [decide_eq_true h4, if_pos h4]; rfl
          · rw [decide_eq_false h4, if_neg h4, if_pos (show (!false) = true from rfl)]
            by_cases h5 : b = nI 102
            · rw [decide_eq_true h5, if_pos h5]; rfl
            · rw [decide_eq_false h5, if_neg h5, if_pos (show (!false) = true from rfl)]; rfl
  rw [key]
  by_cases h1 : b = nI 109
  · rw [if_pos h1, if_pos h1, if_pos (by decide)]
  · rw [if_neg h1, if_neg h1]
    by_cases h2 : b = nI 116
    · rw [if_pos h2, if_pos h2, if_pos (by decide)]
    · rw [if_neg h2, if_neg h2]
      by_cases h3 : b = nI 119
      · rw [if_pos h3, if_pos h3, if_pos (by decide)]
      · rw [if_neg h3, if_neg h3]
        by_cases h4 : b = nI 104
        · rw [if_pos h4, if_pos h4, if_pos (by decide)]
        · rw [if_neg h4, if_neg h4]
          by_cases h5 : b = nI 102
          · rw [if_pos h5, if_pos h5, if_pos (by decide)]
          · rw [if_neg h5, if_neg h5, if_neg (by decide)]
end ZTM
