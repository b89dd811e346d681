/-! lostLessons -/
theorem zSumN_plus {f g : Nat → Nat} : ∀ n, zSumN (fun i => f i + g i) n = zSumN f n + zSumN g n := by
  intro n
  induction n with
  | zero => rfl
  | succ n ih =>
    show zSumN (fun i => f i + g i) n + (f n + g n) = (zSumN f n + f n) + (zSumN g n + g n)
    rw [ih]; omega
theorem zSumN_zero : ∀ n, zSumN (fun _ => 0) n = 0 := by
  intro n
  induction n with
  | zero => rfl
  | succ n ih =>
    show zSumN (fun _ => 0) n + 0 = 0
    rw [ih]
theorem zSumN_swap {b : Nat → Nat → Nat} {n : Nat} : ∀ m, zSumN (fun p => zSumN (fun l => b l p) n) m = zSumN (fun l => zSumN (fun p => b l p) m) n := by
  intro m
  induction m with
  | zero => exact (zSumN_zero n).symm
  | succ m ih =>
    show zSumN (fun p => zSumN (fun l => b l p) n) m + zSumN (fun l => b l m) n = zSumN (fun l => zSumN (fun p => b l p) m + b l m) n
    rw [ih, zSumN_plus]
section ZLL
variable {G : sj_G} {σ : sj_S} {B y0 h : Nat} {f g : Nat → Nat}
def zLa (D : zD) (T : Nat → Nat) (q l p : Nat) : Nat := if dG D l = q then (if T l / 4 = p % 7 then 1 else 0) else 0
def zLw (B h : Nat) (f g : Nat → Nat) (p : Nat) : Bool := decide (p % 7 < 5) && zHo f g (B + p) h
theorem zL_one (D : zD) (T : Nat → Nat) {q l : Nat} (hd : T l / 4 < 5) : ∀ w, zSumN (fun p => if zLw B h f g p then zLa D T q l p else 0) (7 * w) = if dG D l = q then q_cnt (fun w => zHo f g (B + (w * 7 + T l / 4)) h) w else 0 := by
  intro w
  induction w with
  | zero => simp [zSumN, q_cnt]
  | succ w ih =>
    have e : zSumN (fun p => if zLw B h f g p then zLa D T q l p else 0) (7 * (w + 1)) = zSumN (fun p => if zLw B h f g p then zLa D T q l p else 0) (7 * w) + (if zLw B h f g (7 * w) then zLa D T q l (7 * w) else 0) + (if zLw B h f g (7 * w + 1) then zLa D T q l (7 * w + 1) else 0) + (if zLw B h f g (7 * w + 2) then zLa D T q l (7 * w + 2) else 0) + (if zLw B h f g (7 * w + 3) then zLa D T q l (7 * w + 3) else 0) + (if zLw B h f g (7 * w + 4) then zLa D T q l (7 * w + 4) else 0) + (if zLw B h f g (7 * w + 5) then zLa D T q l (7 * w + 5) else 0) + (if zLw B h f g (7 * w + 6) then zLa D T q l (7 * w + 6) else 0) := rfl
    have t : ∀ i, i < 7 → (if zLw B h f g (7 * w + i) then zLa D T q l (7 * w + i) else 0) = if dG D l = q ∧ T l / 4 = i then (if zHo f g (B + (w * 7 + T l / 4)) h then 1 else 0) else 0 := by
      intro i hi
      unfold zLw zLa
      rw [show (7 * w + i) % 7 = i by omega]
      by_cases c1 : dG D l = q
      · by_cases c2 : T l / 4 = i
        · rw [c2] at hd ⊢
          rw [decide_eq_true hd, Bool.true_and, show B + (7 * w + i) = B + (w * 7 + i) by omega]
          simp [c1]
        · simp [c1, c2]
      · simp [c1]
    have t0 : (if zLw B h f g (7 * w) then zLa D T q l (7 * w) else 0) = if dG D l = q ∧ T l / 4 = 0 then (if zHo f g (B + (w * 7 + T l / 4)) h then 1 else 0) else 0 := t 0 (by decide)
    rw [e, ih, t0, t 1 (by decide), t 2 (by decide), t 3 (by decide), t 4 (by decide), t 5 (by decide), t 6 (by decide)]
    have eq1 : q_cnt (fun w => zHo f g (B + (w * 7 + T l / 4)) h) (w + 1) = q_cnt (fun w => zHo f g (B + (w * 7 + T l / 4)) h) w + (if zHo f g (B + (w * 7 + T l / 4)) h then 1 else 0) := rfl
    by_cases c1 : dG D l = q
    · rw [if_pos c1, if_pos c1, eq1]
      generalize (if zHo f g (B + (w * 7 + T l / 4)) h = true then 1 else 0) = z
      generalize q_cnt (fun w => zHo f g (B + (w * 7 + T l / 4)) h) w = c
      simp only [c1, true_and]
      rcases (by omega : T l / 4 = 0 ∨ T l / 4 = 1 ∨ T l / 4 = 2 ∨ T l / 4 = 3 ∨ T l / 4 = 4) with r | r | r | r | r <;> simp [r]
    · simp [c1]
theorem zL_sum (D : zD) (T : Nat → Nat) {q n : Nat} (hd : ∀ l, l < n → T l / 4 < 5) : zSumN (fun p => if zLw B h f g p then zSumN (fun l => zLa D T q l p) n else 0) 280 = zSumN (fun l => if dG D l = q then q_cnt (fun w => zHo f g (B + (w * 7 + T l / 4)) h) 40 else 0) n := by
  have e1 : zSumN (fun p => if zLw B h f g p then zSumN (fun l => zLa D T q l p) n else 0) 280 = zSumN (fun p => zSumN (fun l => if zLw B h f g p then zLa D T q l p else 0) n) 280 := by
    refine zSumN_congr 280 (fun p _ => ?_)
    cases zLw B h f g p
    · exact (zSumN_zero n).symm
    · rfl
  rw [e1, zSumN_swap]
  exact zSumN_congr n (fun l hl => zL_one D T (hd l hl) 40)
theorem p_lostLessons (ok : sj_ok G) (hA : zA σ) (hR : zYR σ) (x : Int32) : zPair G (zI2 σ) 11 me_X11_lostLessons 5 me_X12_lostLessons [.int x] (zcd 1 2 0) σ := by
  obtain ⟨B, y0, h, f, g, hY⟩ := hR
  have hB := zYr_B hY
  have h7 : B % 7 = 0 := hY.2.2.2.1
  have hY0 : zYr (sj_st σ 56 0 (nI 0)) B y0 h f g := zYr_th hY
  obtain ⟨D, T, v, hC, hM, hT⟩ := hA.1
  have h9 := v.1
  have e57 : sj_st σ 56 0 (nI 0) 57 = σ 57 := z_stn (by decide)
  have hM0 : repM D (sj_st σ 56 0 (nI 0) 57) := by rw [e57]; exact hM
  rcases z_rg x 4 with ⟨q, hq4, rfl⟩ | hx
  · by_cases hq : dT D = 1
    · obtain ⟨hT, -⟩ := hT hq
      have hd5 : ∀ l, l < dN D → T l / 4 < 5 := fun l hl => by have := (hT l hl).2.2; omega
      generalize eV : zSumN (fun l => if dG D l = q then q_cnt (fun w => zHo f g (B + (w * 7 + T l / 4)) h) 40 else 0) (dN D) = V
      have eV2 := (zL_sum (B := B) (h := h) (f := f) (g := g) D T (q := q) hd5).trans eV
      have hc : sj_C G 11 me_X11_lostLessons [.ref (sj_ad G 0), .int (nI q)] σ (.ok (nI V), σ) := by
        have key : ∀ j i, i + j = dN D → sj_J G 11 me_X11_lostLessons (.ok (nI V), σ) 14 [.ref (sj_ad G 0), .int (nI q), .int (nI (zSumN (fun l => if dG D l = q then q_cnt (fun w => zHo f g (B + (w * 7 + T l / 4)) h) 40 else 0) i)), .int (nI i)] σ [] := by
          intro j
          induction j with
          | zero =>
            intro i hi
            have : i = dN D := by omega
            subst this
            refine t_X11_lostLessons_14 ⟨_, _, z_lessonTotal ok, fun _ => by rw [eV], fun r => ?_⟩
            rw [hC.1] at r
            exact absurd (nI_le (by omega) (by omega)) r
          | succ j ih =>
            intro i hi
            have h1 := ih (i + 1) (by omega)
            have e : zSumN (fun l => if dG D l = q then q_cnt (fun w => zHo f g (B + (w * 7 + T l / 4)) h) 40 else 0) (i + 1) = zSumN (fun l => if dG D l = q then q_cnt (fun w => zHo f g (B + (w * 7 + T l / 4)) h) 40 else 0) i + (if dG D i = q then q_cnt (fun w => zHo f g (B + (w * 7 + T i / 4)) h) 40 else 0) := rfl
            refine t_X11_lostLessons_14 ⟨_, _, z_lessonTotal ok, fun r => ?_, fun _ => ⟨_, _, z_isOfD (b := 0) ok hC v (by omega) (by decide) (by omega), fun r => ?_, fun r => ⟨z_in (by omega) (by decide), ?_⟩⟩⟩
            · rw [hC.1] at r
              exact absurd r (nI_ge (by omega) (by omega))
            · unfold wp_X11_lostLessons_59
              have hne : ¬ dG D i = q := fun s => by
                have s : dP D 0 i = q := s
                rw [if_pos s] at r
                exact absurd r z_10
              rw [if_neg hne, Nat.add_zero] at e
              rw [e] at h1
              rw [nI_add]
              exact h1
            · have hpe : dG D i = q := by
                by_cases s : dP D 0 i = q
                · exact s
                · rw [if_neg s] at r; exact absurd nI_0 r
              rw [if_pos hpe] at e
              rw [e] at h1
              rw [nI_clamp (by omega), (hT i (by omega)).1, z_d4 (hT i (by omega)).2.2]
              refine ⟨_, _, z_holidaysOn ok hY (hd5 i (by omega)), ?_⟩
              unfold wp_X11_lostLessons_59
              rw [nI_add, nI_add]
              exact h1
        exact c_X11_lostLessons ok (Or.inl ⟨_, z_range0 ok hq4 (by decide), Or.inl ⟨_, z_requireTable0 ok (hC.2.2.1.trans (by rw [hq])), key (dN D) 0 (by omega)⟩⟩)
      have hd := y_dayY ok hY0
      rw [show (sj_st σ 56 0 (nI 0)) 56 21 = σ 56 21 from z_sti (by decide)] at hd
      have hm : sj_C G 5 me_X12_lostLessons [.ref (sj_ad G 56), .int (nI q)] σ (.ok (nI V), sj_st σ 56 0 (nI 0)) := by
        have key : ∀ j i, i + j = 280 → sj_J G 5 me_X12_lostLessons (.ok (nI V), sj_st σ 56 0 (nI 0)) 42 [.ref (sj_ad G 56), .int (nI q), .int (nI B), .int (nI (zSumN (fun p => if zLw B h f g p then zSumN (fun l => zLa D T q l p) (dN D) else 0) i)), .int (nI (B + i)), .null] (sj_st σ 56 0 (nI 0)) [] := by
          intro j
          induction j with
          | zero =>
            intro i hi
            have : i = 280 := by omega
            subst this
            refine t_X12_lostLessons_42 ⟨fun _ => by rw [eV2], fun r => ?_⟩
            rw [nI_add] at r
            exact absurd (nI_le (by omega) (by omega)) r
          | succ j ih =>
            intro i hi
            have h1 := ih (i + 1) (by omega)
            have e : zSumN (fun p => if zLw B h f g p then zSumN (fun l => zLa D T q l p) (dN D) else 0) (i + 1) = zSumN (fun p => if zLw B h f g p then zSumN (fun l => zLa D T q l p) (dN D) else 0) i + (if zLw B h f g i then zSumN (fun l => zLa D T q l i) (dN D) else 0) := rfl
            generalize zSumN (fun p => if zLw B h f g p then zSumN (fun l => zLa D T q l p) (dN D) else 0) i = c at e ⊢
            have hnx : zLw B h f g i = false → wp_X12_lostLessons_132 G (.ok (nI V), sj_st σ 56 0 (nI 0)) (nI q) (nI B) (nI c) (nI (B + i)) (sj_st σ 56 0 (nI 0)) := fun s => by
              unfold wp_X12_lostLessons_132
              rw [s, if_neg (by decide), Nat.add_zero] at e
              rw [e] at h1
              rw [nI_add]
              exact h1
            refine t_X12_lostLessons_42 ⟨fun r => ?_, fun _ => ?_⟩
            · rw [nI_add] at r
              exact absurd r (nI_ge (by omega) (by omega))
            · rw [z_rem (by omega) (by decide) (by decide), show (B + i) % 7 = i % 7 by omega]
              refine ⟨fun r => hnx ?_, fun r => ⟨_, _, y_isHoliday ok hY0 (by omega), fun r2 => ?_, fun r2 => hnx ?_⟩⟩
              · rw [nI_leI (by decide) (by omega)] at r
                unfold zLw
                rw [decide_eq_false (by omega)]; rfl
              · rw [nI_leI (by decide) (by omega)] at r
                have hw : zLw B h f g i = true := by
                  unfold zLw
                  rw [decide_eq_true (by omega)]
                  cases hz : zHo f g (B + i) h
                  · rw [hz] at r2; exact absurd nI_0 r2
                  · rfl
                rw [hw, if_pos rfl] at e
                have key2 : ∀ m l, l + m = dN D → sj_J G 5 me_X12_lostLessons (.ok (nI V), sj_st σ 56 0 (nI 0)) 76 [.ref (sj_ad G 56), .int (nI q), .int (nI B), .int (nI (c + zSumN (fun l => zLa D T q l i) l)), .int (nI (B + i)), .int (nI l)] (sj_st σ 56 0 (nI 0)) [] := by
                  intro m
                  induction m with
                  | zero =>
                    intro l hl
                    have : l = dN D := by omega
                    subst this
                    refine t_X12_lostLessons_76 ⟨_, _, y_many ok, fun _ => ?_, fun s => ?_⟩
                    · unfold wp_X12_lostLessons_132
                      rw [← e, nI_add]
                      exact h1
                    · rw [hM0.1] at s
                      exact absurd (nI_le (by omega) (by omega)) s
                  | succ m ihm =>
                    intro l hl
                    have h2 := ihm (l + 1) (by omega)
                    have e2 : zSumN (fun l => zLa D T q l i) (l + 1) = zSumN (fun l => zLa D T q l i) l + zLa D T q l i := rfl
                    refine t_X12_lostLessons_76 ⟨_, _, y_many ok, fun s => ?_, fun _ => ⟨?_, fun _ => ?_, ?_⟩⟩
                    · rw [hM0.1] at s
                      exact absurd s (nI_ge (by omega) (by omega))
                    · rw [nI_add]; exact z_in (by omega) (by decide)
                    · rw [nI_add]; exact z_in (by omega) (by decide)
                    · unfold wp_X12_lostLessons_124
                      have hg := (hM.2.2.2.1 l (by omega)).1
                      have hgl := (v.2.2.2.1 l (by omega)).1
                      obtain ⟨-, t2, t3⟩ := hT l (by omega)
                      rw [z_rem (by omega) (by decide) (by decide), show (B + i) % 7 = i % 7 by omega, nI_add 0 l, nI_add 116 l, nI_clamp (by omega), nI_clamp (by omega), e57, hg, t2, z_d4 t3]
                      have e3 : (if nI (dG D l) = nI q then (if nI (T l / 4) = nI (i % 7) then nI 1 else nI 0) else nI 0) = nI (zLa D T q l i) := by
                        unfold zLa
                        have c1 : (nI (dG D l) = nI q) = (dG D l = q) := by rw [nI_eq (by omega) (by omega)]
                        have c2 : (nI (T l / 4) = nI (i % 7)) = (T l / 4 = i % 7) := by rw [nI_eq (by omega) (by omega)]
                        simp only [c1, c2]
                        repeat' split
                        all_goals rfl
                      rw [e3, nI_add, nI_add, Nat.add_assoc, ← e2]
                      exact h2
                exact key2 (dN D) 0 (by omega)
              · unfold zLw
                cases hz : zHo f g (B + i) h
                · simp
                · rw [hz] at r2; exact absurd r2 z_10
        exact c_X12_lostLessons ok ⟨_, _, y_inr1 ok (B := 3) hq4 (by decide), _, _, y_fails1 ok zT00, fun r => absurd nI_0 r, fun _ => ⟨_, _, y_noTable0 ok zT00 (hM0.2.2.1.trans (by rw [hq])), fun _ => ⟨_, _, by rw [show (sj_st σ 56 0 (nI 0)) 56 21 = σ 56 21 from z_sti (by decide)]; exact hd, key 280 0 (by omega)⟩, fun r => absurd nI_0 r⟩⟩
      exact ⟨_, _, _, _, hc, hm, zSame_ok z_ste rfl, zI2_th hA⟩
    · have hq := zT_of v hq
      exact ⟨_, _, _, _, c_X11_lostLessons ok (Or.inl ⟨_, z_range0 ok hq4 (by decide), Or.inr ⟨_, _, z_requireTable1 ok (hC.2.2.1.trans (by rw [hq])), rfl⟩⟩), c_X12_lostLessons ok (R := (.ok (nI 0), sj_st (sj_st σ 56 0 (nI 0)) 56 0 (nI 2))) ⟨_, _, y_inr1 ok (B := 3) hq4 (by decide), _, _, y_fails1 ok zT00, fun r => absurd nI_0 r, fun _ => ⟨_, _, y_noTable1 ok zT00 (hM0.2.2.1.trans (by rw [hq])) (by decide), fun r => absurd r z_10, fun _ => rfl⟩⟩, zSame_er (by decide) z_ste, zI2_th2 hA⟩
  · exact ⟨_, _, _, _, c_X11_lostLessons ok (Or.inr ⟨_, _, z_range1 ok hx (by decide) (by decide), rfl⟩), c_X12_lostLessons ok (R := (.ok (nI 0), sj_st (sj_st σ 56 0 (nI 0)) 56 0 (nI 1))) ⟨_, _, y_inr0 ok (B := 3) hx (by decide), _, _, y_fails0 ok zT00 (by decide), fun _ => rfl, fun r => absurd r z_10⟩, zSame_er (by decide) z_ste, zI2_th2 hA⟩
end ZLL
