/-! P59, THE LAW 3: gaps, cost, looks, tries -/
def lSt (f : Nat → Bool) (d : Nat) : Nat → Int32 × Int32 × Int32
  | 0 => (nI 9, -1, nI 0)
  | j + 1 => if f (4 * d + j) then ((if nI j < (lSt f d j).1 then nI j else (lSt f d j).1), nI j, (lSt f d j).2.2 + nI 1) else lSt f d j
def lFin (x : Int32 × Int32 × Int32) : Int32 := if 0 ≤ x.2.1 then ((x.2.1 - x.1) + nI 1) - x.2.2 else nI 0
def lGd (a b c e : Bool) : Nat := (if a && (c || e) && !b then 1 else 0) + (if (b || a) && e && !c then 1 else 0)
def lS1 (a : Bool) (j : Nat) (x : Int32 × Int32 × Int32) : Int32 × Int32 × Int32 := if a then ((if nI j < x.1 then nI j else x.1), nI j, x.2.2 + nI 1) else x
theorem lS4 : ∀ a b c e : Bool, lFin (lS1 e 3 (lS1 c 2 (lS1 b 1 (lS1 a 0 (nI 9, -1, nI 0))))) = nI (lGd a b c e) := by decide +kernel
theorem lFin_4 {f : Nat → Bool} {d : Nat} : lFin (lSt f d 4) = nI (lGd (f (4 * d)) (f (4 * d + 1)) (f (4 * d + 2)) (f (4 * d + 3))) := lS4 _ _ _ _
theorem lGd_q {f : Nat → Bool} {d : Nat} : q_cnt (zGp f) (4 * (d + 1)) = q_cnt (zGp f) (4 * d) + lGd (f (4 * d)) (f (4 * d + 1)) (f (4 * d + 2)) (f (4 * d + 3)) := by
  have m0 : 4 * d % 4 = 0 := by omega
  have m1 : (4 * d + 1) % 4 = 1 := by omega
  have m2 : (4 * d + 2) % 4 = 2 := by omega
  have m3 : (4 * d + 3) % 4 = 3 := by omega
  have g0 : zGp f (4 * d) = false := by
    unfold zGp
    rw [m0]
    simp
  have g3 : zGp f (4 * d + 3) = false := by
    unfold zGp
    rw [m3]
    simp
  have g1 : zGp f (4 * d + 1) = (f (4 * d) && (f (4 * d + 2) || f (4 * d + 3)) && !f (4 * d + 1)) := by
    unfold zGp
    rw [m1, show 4 * d + 1 - 1 = 4 * d by omega, show 1 + (4 * d + 1) = 4 * d + 2 by omega, show 2 + (4 * d + 1) = 4 * d + 3 by omega]
    simp
  have g2 : zGp f (4 * d + 2) = ((f (4 * d + 1) || f (4 * d)) && f (4 * d + 3) && !f (4 * d + 2)) := by
    unfold zGp
    rw [m2, show 4 * d + 2 - 1 = 4 * d + 1 by omega, show 4 * d + 2 - 2 = 4 * d by omega, show 1 + (4 * d + 2) = 4 * d + 3 by omega]
    simp
  rw [show 4 * (d + 1) = 4 * d + 3 + 1 by omega, q_cnt_s, g3, show 4 * d + 3 = 4 * d + 2 + 1 by omega, q_cnt_s, g2, show 4 * d + 2 = 4 * d + 1 + 1 by omega, q_cnt_s, g1, q_cnt_s, g0, if_neg (show ¬ (false = true) by decide)]
  unfold lGd
  simp only [Nat.add_zero, Nat.add_assoc]
/-- the number of a table among all, the first lesson counting most -/
def lCd (T : Nat → Nat) : Nat → Nat
  | 0 => 0
  | n + 1 => 20 * lCd T n + T n
theorem lCd_eq {T U : Nat → Nat} : ∀ n, (∀ k, k < n → T k = U k) → lCd T n = lCd U n := by
  intro n
  induction n with
  | zero => intro _; rfl
  | succ n ih =>
    intro h
    show 20 * lCd T n + T n = 20 * lCd U n + U n
    rw [ih (fun k hk => h k (by omega)), h n (by omega)]
theorem lCd_lt {T U : Nat → Nat} : ∀ n, (∀ k, k < n → T k < 20 ∧ U k < 20) → ∀ j, j < n → (∀ k, k < j → T k = U k) → T j < U j → lCd T n < lCd U n := by
  intro n
  induction n with
  | zero => intro _ j hj; omega
  | succ n ih =>
    intro h j hj he hlt
    show 20 * lCd T n + T n < 20 * lCd U n + U n
    have hn := h n (by omega)
    by_cases e : j = n
    · subst e
      rw [lCd_eq j he]
      omega
    · have := ih (fun k hk => h k (by omega)) j (by omega) he hlt
      omega
theorem lCd_ex : ∀ n m, m < 20 ^ n → ∃ T : Nat → Nat, (∀ k, k < n → T k < 20) ∧ lCd T n = m := by
  intro n
  induction n with
  | zero => intro m hm; exact ⟨fun _ => 0, fun k hk => absurd hk (Nat.not_lt_zero k), by show 0 = m; rw [Nat.pow_zero] at hm; omega⟩
  | succ n ih =>
    intro m hm
    obtain ⟨T, h1, h2⟩ := ih (m / 20) (by rw [Nat.pow_succ] at hm; omega)
    refine ⟨fun k => if k = n then m % 20 else T k, fun k hk => ?_, ?_⟩
    · show (if k = n then m % 20 else T k) < 20
      split
      · omega
      · exact h1 k (by omega)
    · show 20 * lCd (fun k => if k = n then m % 20 else T k) n + (if n = n then m % 20 else T n) = m
      rw [lCd_eq (U := T) n (fun k hk => by show (if k = n then m % 20 else T k) = T k; rw [if_neg (by omega)]), h2, if_pos rfl]
      omega
theorem lCd_20 {T : Nat → Nat} : ∀ n, (∀ k, k < n → T k < 20) → lCd T n < 20 ^ n := by
  intro n
  induction n with
  | zero => intro _; exact Nat.lt_succ_self 0
  | succ n ih =>
    intro h
    have h1 := ih (fun k hk => h k (by omega))
    have h2 := h n (by omega)
    show 20 * lCd T n + T n < 20 ^ (n + 1)
    rw [Nat.pow_succ]
    omega
theorem lCd_lx {T U : Nat → Nat} : ∀ n, (∀ k, k < n → T k < 20 ∧ U k < 20) → lCd T n ≤ lCd U n → zLx n T U := by
  have first : ∀ n, (∀ k, k < n → T k = U k) ∨ ∃ j, j < n ∧ (∀ k, k < j → T k = U k) ∧ T j ≠ U j := by
    intro n
    induction n with
    | zero => exact Or.inl (fun k hk => absurd hk (Nat.not_lt_zero k))
    | succ n ih =>
      rcases ih with h | ⟨j, j1, j2, j3⟩
      · by_cases e : T n = U n
        · refine Or.inl (fun k hk => ?_)
          by_cases q : k = n
          · rw [q]; exact e
          · exact h k (by omega)
        · exact Or.inr ⟨n, by omega, h, e⟩
      · exact Or.inr ⟨j, by omega, j2, j3⟩
  intro n hn hle
  rcases first n with h | ⟨j, j1, j2, j3⟩
  · exact Or.inl h
  · by_cases hlt : T j < U j
    · exact Or.inr ⟨j, j1, j2, hlt⟩
    · have := lCd_lt (T := U) (U := T) n (fun k hk => ⟨(hn k hk).2, (hn k hk).1⟩) j j1 (fun k hk => (j2 k hk).symm) (by omega)
      omega
theorem zRi_ext {D : zD} {H : Nat → Bool} {T U : Nat → Nat} (h : ∀ l, l < dN D → U l = T l) (hR : zRi D H U) : zRi D H T := by
  refine zRi_all.mpr (fun l hl => ?_)
  rw [← zAl_congr (T := U) (fun o ho _ _ => h o ho), ← h l hl]
  exact zRi_all.mp hR l hl
section L3
variable {G : sj_G} {σ : sj_S} {D : zD} {T : Nat → Nat}
theorem l_gaps (ok : sj_ok G) (v : okD D) (hL : lR D σ) (hA : lA D T σ) {b p : Nat} (hb : b ≤ 1) (hp : p < 2 ^ 20) : sj_C G 3 me_L_gaps [.ref (sj_ad G 56), .int (nI b), .int (nI p)] σ (.ok (nI (zGap D T b p)), σ) := by
  have h9 := v.1
  unfold zGap
  generalize ef : (fun i => zAny D b p T i (dN D)) = f
  have hf : ∀ i, zAny D b p T i (dN D) = f i := fun i => by rw [← ef]
  have hour : ∀ d j (R : sj_R) x3 x5 x6 x7, d < 5 → j < 4 → sj_J G 3 me_L_gaps R 24 [.ref (sj_ad G 56), .int (nI b), .int (nI p), .int x3, .int (nI d), .int (if f (4 * d + j) then (if nI j < x5 then nI j else x5) else x5), .int (if f (4 * d + j) then nI j else x6), .int (if f (4 * d + j) then x7 + nI 1 else x7), .int (nI (j + 1)), .null, .null] σ [] →
      ∀ k l, l + k = dN D → sj_J G 3 me_L_gaps R 36 [.ref (sj_ad G 56), .int (nI b), .int (nI p), .int x3, .int (nI d), .int x5, .int x6, .int x7, .int (nI j), .int (if zAny D b p T (4 * d + j) l then nI 1 else nI 0), .int (nI l)] σ [] := by
    intro d j R x3 x5 x6 x7 hd hj hR k
    induction k with
    | zero =>
      intro l hl
      obtain rfl : l = dN D := by omega
      refine t_L_gaps_36 ⟨fun _ => ?_, fun q => ?_⟩
      · unfold wp_L_gaps_126
        rw [hf, nI_add]
        have hz : ((if f (4 * d + j) = true then nI 1 else nI 0) = 0) = (f (4 * d + j) = false) := z_nz _
        cases hfj : f (4 * d + j)
        · rw [hfj] at hR
          rw [if_pos (show (if false = true then nI 1 else nI 0) = 0 from nI_0), if_pos (show (if false = true then nI 1 else nI 0) = 0 from nI_0), if_pos (show (if false = true then nI 1 else nI 0) = 0 from nI_0)]
          exact hR
        · rw [hfj] at hR
          rw [if_neg (show ¬ (if true = true then nI 1 else nI 0) = 0 by decide), if_neg (show ¬ (if true = true then nI 1 else nI 0) = 0 by decide), if_neg (show ¬ (if true = true then nI 1 else nI 0) = 0 by decide)]
          exact hR
      · rw [hL.1] at q
        exact absurd (nI_le (Nat.le_refl _) (by omega)) q
    | succ k ih =>
      intro l hl
      have hlN : l < dN D := by omega
      have nx := ih (l + 1) (by omega)
      obtain ⟨c1, c2, -, -, -⟩ := hL.2.2.1 l hlN
      obtain ⟨g4, t6, -, -, -⟩ := v.2.2.2.1 l hlN
      have hli : vp_in (nI l) 9 := z_in (by omega) (by decide)
      have ez : zAny D b p T (4 * d + j) (l + 1) = (zAny D b p T (4 * d + j) l || (decide (dP D b l = p) && zTk D T l (4 * d + j))) := rfl
      have ep : (if nI b = 0 then σ 57 (nI l).toNatClampNeg else σ 58 (nI l).toNatClampNeg) = nI (dP D b l) := by
        rw [nI_clamp (by omega), c1, c2]
        unfold dP
        rcases (by omega : b = 0 ∨ b = 1) with e | e <;> subst e
        · rw [if_pos nI_0, if_neg (by decide)]
        · rw [if_neg (by decide), if_pos rfl]
      have hpl : dP D b l < 2 ^ 20 := by
        unfold dP
        split <;> omega
      refine t_L_gaps_36 ⟨fun q => ?_, fun _ => ⟨fun _ => hli, fun _ => hli, ?_⟩⟩
      · rw [hL.1] at q
        exact absurd q (nI_ge (by omega) (by omega))
      · rw [ep]
        refine ⟨fun q => ?_, fun q => ?_⟩
        · unfold wp_L_gaps_92 wp_L_gaps_93
          have eo : (if zAny D b p T (4 * d + j) l then nI 1 else nI 0) ||| nI 0 = (if zAny D b p T (4 * d + j) l then nI 1 else nI 0) := by
            have := z_nor (zAny D b p T (4 * d + j) l) false
            rw [Bool.or_false] at this
            exact this
          rw [nI_add, eo]
          rw [ez, decide_eq_false (fun e => q (by rw [e])), Bool.false_and, Bool.or_false] at nx
          exact nx
        · have e := (nI_eq (by omega) (by omega)).mp q
          rw [pk_mul, nI_add]
          refine ⟨_, _, l_isOn ok v hL hA hlN (by omega), ?_⟩
          unfold wp_L_gaps_93
          have e2 : (if (if zTk D T l (4 * d + j) then nI 1 else nI 0) = 0 then nI 0 else nI 1) = (if zTk D T l (4 * d + j) then nI 1 else nI 0) := by
            cases zTk D T l (4 * d + j)
            · exact if_pos nI_0
            · exact if_neg (by decide)
          rw [e2, z_nor, nI_add]
          rw [ez, decide_eq_true e, Bool.true_and] at nx
          exact nx
  have day : ∀ d, d < 5 → ∀ (R : sj_R) x3, sj_J G 3 me_L_gaps R 5 [.ref (sj_ad G 56), .int (nI b), .int (nI p), .int (x3 + nI (lGd (f (4 * d)) (f (4 * d + 1)) (f (4 * d + 2)) (f (4 * d + 3)))), .int (nI (d + 1)), .null, .null, .null, .null, .null, .null] σ [] →
      ∀ k j, j + k = 4 → sj_J G 3 me_L_gaps R 24 [.ref (sj_ad G 56), .int (nI b), .int (nI p), .int x3, .int (nI d), .int (lSt f d j).1, .int (lSt f d j).2.1, .int (lSt f d j).2.2, .int (nI j), .null, .null] σ [] := by
    intro d hd R x3 hR k
    induction k with
    | zero =>
      intro j hj
      obtain rfl : j = 4 := by omega
      refine t_L_gaps_24 ⟨fun _ => ?_, fun q => absurd (nI_le (Nat.le_refl 4) (by decide)) q⟩
      unfold wp_L_gaps_152
      have e : (if 0 ≤ (lSt f d 4).2.1 then (((lSt f d 4).2.1 - (lSt f d 4).1) + nI 1) - (lSt f d 4).2.2 else nI 0) = nI (lGd (f (4 * d)) (f (4 * d + 1)) (f (4 * d + 2)) (f (4 * d + 3))) := lFin_4
      rw [e, nI_add]
      exact hR
    | succ k ih =>
      intro j hj
      have nx := ih (j + 1) (by omega)
      refine t_L_gaps_24 ⟨fun q => absurd q (nI_ge (by omega) (by decide)), fun _ => ?_⟩
      refine hour d j R x3 _ _ _ hd (by omega) ?_ (dN D) 0 (by omega)
      cases hfj : f (4 * d + j)
      · have e : lSt f d (j + 1) = lSt f d j := by
          show (if f (4 * d + j) then _ else lSt f d j) = lSt f d j
          rw [hfj, if_neg (by decide)]
        rw [e] at nx
        exact nx
      · have e : lSt f d (j + 1) = ((if nI j < (lSt f d j).1 then nI j else (lSt f d j).1), nI j, (lSt f d j).2.2 + nI 1) := by
          show (if f (4 * d + j) then _ else lSt f d j) = _
          rw [hfj, if_pos rfl]
        rw [e] at nx
        exact nx
  have key : ∀ k d, d + k = 5 → sj_J G 3 me_L_gaps (.ok (nI (q_cnt (zGp f) 20)), σ) 5 [.ref (sj_ad G 56), .int (nI b), .int (nI p), .int (nI (q_cnt (zGp f) (4 * d))), .int (nI d), .null, .null, .null, .null, .null, .null] σ [] := by
    intro k
    induction k with
    | zero =>
      intro d hd
      obtain rfl : d = 5 := by omega
      exact t_L_gaps_5 ⟨fun _ => rfl, fun q => absurd (nI_le (Nat.le_refl 5) (by decide)) q⟩
    | succ k ih =>
      intro d hd
      have nx := ih (d + 1) (by omega)
      rw [lGd_q, ← nI_add] at nx
      exact t_L_gaps_5 ⟨fun q => absurd q (nI_ge (by omega) (by decide)), fun _ => day d (by omega) _ _ nx 4 0 (by decide)⟩
  exact c_L_gaps ok (key 5 0 (by decide))
theorem l_cost (ok : sj_ok G) (v : okD D) (hL : lR D σ) (hA : lA D T σ) : sj_C G 4 me_L_cost [.ref (sj_ad G 56)] σ (.ok (nI (zCost D T)), σ) := by
  have h12 := v.2.1
  have k3 : ∀ k w s, w + k = dW D → s + zSumN (zWt D T) (dW D) = zCost D T + zSumN (zWt D T) w → sj_J G 4 me_L_cost (.ok (nI (zCost D T)), σ) 49 [.ref (sj_ad G 56), .int (nI s), .int (nI w)] σ [] := by
    intro k
    induction k with
    | zero =>
      intro w s hw hs
      obtain rfl : w = dW D := by omega
      refine t_L_cost_49 ⟨fun _ => ?_, fun q => ?_⟩
      · rw [show s = zCost D T by omega]
      · rw [hL.2.1] at q
        exact absurd (nI_le (Nat.le_refl _) (by omega)) q
    | succ k ih =>
      intro w s hw hs
      have hwN : w < dW D := by omega
      obtain ⟨-, -, -, q4⟩ := hL.2.2.2.1 w hwN
      have hwe := (v.2.2.2.2.1 w hwN).2.1
      have nx := ih (w + 1) (s + zWt D T w) (by omega) (by
        show _ = zCost D T + (zSumN (zWt D T) w + zWt D T w)
        omega)
      have hwi : vp_in (nI w) 12 := z_in (by omega) (by decide)
      refine t_L_cost_49 ⟨fun q => ?_, fun _ => ⟨hwi, ?_, ?_⟩⟩
      · rw [hL.2.1] at q
        exact absurd q (nI_ge (by omega) (by omega))
      · rw [nI_clamp (by omega), q4]
        intro q
        have e0 : dWe D w = 0 := by
          by_cases e : dWe D w = 0
          · exact e
          · exact absurd q (nI_nle (by omega) (by omega))
        have e : zWt D T w = 0 := by
          unfold zWt
          split
          · rfl
          · exact e0
        rw [e] at nx
        unfold wp_L_cost_84 wp_L_cost_85
        rw [nI_add, nI_add]
        exact nx
      · intro _
        refine ⟨_, _, l_holdsW ok v hL hA hwN, fun _ => hwi, ?_⟩
        unfold wp_L_cost_85
        rw [nI_clamp (by omega), q4]
        have e : (if (if zFul D T w then nI 1 else nI 0) = 0 then nI (dWe D w) else nI 0) = nI (zWt D T w) := by
          unfold zWt
          cases zFul D T w
          · exact if_pos nI_0
          · exact if_neg (by decide)
        rw [e, nI_add, nI_add]
        exact nx
  have k2 : ∀ k g s, g + k = 4 → s = zSumN (zGap D T 1) 6 + zSumN (zGap D T 0) g → sj_J G 4 me_L_cost (.ok (nI (zCost D T)), σ) 27 [.ref (sj_ad G 56), .int (nI s), .int (nI g)] σ [] := by
    intro k
    induction k with
    | zero =>
      intro g s hg hs
      obtain rfl : g = 4 := by omega
      refine t_L_cost_27 ⟨fun _ => k3 (dW D) 0 s (by omega) ?_, fun q => absurd (nI_le (Nat.le_refl 4) (by decide)) q⟩
      show _ = zCost D T + 0
      unfold zCost
      omega
    | succ k ih =>
      intro g s hg hs
      refine t_L_cost_27 ⟨fun q => absurd q (nI_ge (by omega) (by decide)), fun _ => ⟨_, _, l_gaps ok v hL hA (b := 0) (by decide) (by omega), ?_⟩⟩
      rw [nI_add, nI_add]
      refine ih (g + 1) _ (by omega) ?_
      show _ = zSumN (zGap D T 1) 6 + (zSumN (zGap D T 0) g + zGap D T 0 g)
      omega
  have k1 : ∀ k t s, t + k = 6 → s = zSumN (zGap D T 1) t → sj_J G 4 me_L_cost (.ok (nI (zCost D T)), σ) 4 [.ref (sj_ad G 56), .int (nI s), .int (nI t)] σ [] := by
    intro k
    induction k with
    | zero =>
      intro t s ht hs
      obtain rfl : t = 6 := by omega
      exact t_L_cost_4 ⟨fun _ => k2 4 0 s (by decide) (by rw [hs]; rfl), fun q => absurd (nI_le (Nat.le_refl 6) (by decide)) q⟩
    | succ k ih =>
      intro t s ht hs
      refine t_L_cost_4 ⟨fun q => absurd q (nI_ge (by omega) (by decide)), fun _ => ⟨_, _, l_gaps ok v hL hA (b := 1) (by decide) (by omega), ?_⟩⟩
      rw [nI_add, nI_add]
      exact ih (t + 1) _ (by omega) (by rw [hs]; rfl)
  exact c_L_cost ok (k1 6 0 0 (by decide) rfl)
theorem l_looks (ok : sj_ok G) (hO : sj_ad G 70 = sj_ad G 0) (v : okD D) (hC : repC D (σ 2)) (hq : dT D = 1) (hL : lR D σ) : ∃ σ', sj_C G 11 me_L_looks [.ref (sj_ad G 56)] σ (.ok 0, σ') ∧ (∀ x, x ≠ 62 → σ' x = σ x) ∧ ∀ l, l < dN D → σ' 62 l = σ 3 l := by
  have h9 := v.1
  have key : ∀ k l (ρ : sj_S), l + k = dN D → (∀ x, x ≠ 62 → ρ x = σ x) → (∀ o, o < l → ρ 62 o = σ 3 o) → ∃ σ', sj_J G 11 me_L_looks (.ok 0, σ') 2 [.ref (sj_ad G 56), .int (nI l)] ρ [] ∧ (∀ x, x ≠ 62 → σ' x = σ x) ∧ ∀ l, l < dN D → σ' 62 l = σ 3 l := by
    intro k
    induction k with
    | zero =>
      intro l ρ hl h1 h2
      obtain rfl : l = dN D := by omega
      refine ⟨ρ, t_L_looks_2 hO ⟨fun _ => rfl, fun q => ?_⟩, h1, h2⟩
      rw [h1 56 (by decide), hL.1] at q
      exact absurd (nI_le (Nat.le_refl _) (by omega)) q
    | succ k ih =>
      intro l ρ hl h1 h2
      obtain ⟨σ', e1, e2, e3⟩ := ih (l + 1) (sj_st ρ 62 l (σ 3 l)) (by omega) (fun x hx => by rw [z_stn hx, h1 x hx]) (fun o ho => by
        by_cases e : o = l
        · subst e; exact z_ste
        · rw [z_sti e]; exact h2 o (by omega))
      refine ⟨σ', t_L_looks_2 hO ⟨fun q => ?_, fun _ => ⟨_, _, k_slotOf ok v (by rw [h1 2 (by decide)]; exact hC) hq (by omega : l < dN D), z_in (by omega) (by decide), ?_⟩⟩, e2, e3⟩
      · rw [h1 56 (by decide), hL.1] at q
        exact absurd q (nI_ge (by omega) (by omega))
      · rw [nI_clamp (by omega), nI_add, h1 3 (by decide)]
        exact e1
  obtain ⟨σ', e1, e2, e3⟩ := key (dN D) 0 σ (by omega) (fun _ _ => rfl) (fun o ho => absurd ho (Nat.not_lt_zero o))
  exact ⟨σ', c_L_looks ok hO e1, e2, e3⟩
theorem l_tries (ok : sj_ok G) (v : okD D) (hL : lR D σ) (h1 : 1 ≤ dN D) (h3 : dN D ≤ 3) : ∃ (b : Bool) (σ' : sj_S), sj_C G 5 me_L_tries [.ref (sj_ad G 56)] σ (.ok (if b then nI 1 else nI 0), σ') ∧ (∀ x, x ≠ 62 → σ' x = σ x) ∧
    (b = true → ∃ T, zFst D (zHd D) T ∧ lA D T σ') ∧ (b = false → ∀ T, ¬ zRi D (zHd D) T) := by
  have hall : ∀ N, N < 4 → 1 ≤ N → (if nI N = nI 1 then nI 20 else if nI N = nI 2 then nI 400 else nI 8000) = nI (20 ^ N) := by decide +kernel
  have hpw : ∀ N, N < 4 → 20 ^ N ≤ 8000 := by decide
  have hp := hpw (dN D) (by omega)
  have digits : ∀ (T : Nat → Nat), (∀ k, k < dN D → T k < 20) → ∀ x1 x2 m (ρ : sj_S), m ≤ dN D → (∀ x, x ≠ 62 → ρ x = σ x) → (∀ k, m ≤ k → k < dN D → ρ 62 k = nI (T k)) →
      ∃ ρ', (∀ x, x ≠ 62 → ρ' x = σ x) ∧ lA D T ρ' ∧ ∀ R : sj_R, (∃ v2 σ2, sj_C G 4 me_L_isGood [.ref (sj_ad G 56)] ρ' (.ok v2, σ2) ∧ (v2 = 0 → sj_J G 5 me_L_tries R 33 [.ref (sj_ad G 56), .int x1, .int (x2 + nI 1), .null, .null] σ2 []) ∧ (¬ v2 = 0 → R = (.ok (nI 1), σ2))) →
        sj_J G 5 me_L_tries R 48 [.ref (sj_ad G 56), .int x1, .int x2, .int (nI (lCd T m)), .int (if m = 0 then -1 else nI (m - 1))] ρ [] := by
    intro T hT x1 x2 m
    induction m with
    | zero =>
      intro ρ hm e1 e2
      refine ⟨ρ, e1, fun l hl => ⟨e2 l (Nat.zero_le l) hl, hT l hl⟩, fun R hR => t_L_tries_48 ⟨fun _ => hR, fun q => ?_⟩⟩
      rw [if_pos rfl] at q
      exact absurd (by decide) q
    | succ m ih =>
      intro ρ hm e1 e2
      obtain ⟨ρ', g1, g2, g3⟩ := ih (sj_st ρ 62 m (nI (T m))) (by omega) (fun x hx => by rw [z_stn hx, e1 x hx]) (fun k hk hkN => by
        by_cases e : k = m
        · subst e; exact z_ste
        · rw [z_sti e]; exact e2 k (by omega) hkN)
      refine ⟨ρ', g1, g2, fun R hR => ?_⟩
      have hlt : lCd T (m + 1) < 2 ^ 20 := by
        have := lCd_20 (T := T) (m + 1) (fun k hk => hT k (by omega))
        have := hpw (m + 1) (by omega)
        omega
      have hTm := hT m (by omega)
      have ed : lCd T (m + 1) = 20 * lCd T m + T m := rfl
      rw [if_neg (by omega), show m + 1 - 1 = m by omega]
      refine t_L_tries_48 ⟨fun q => absurd q (nI_pos (by omega)), fun _ => ⟨z_in (by omega) (by decide), ?_⟩⟩
      have em : nI m + (-1) = (if m = 0 then -1 else nI (m - 1)) := by
        by_cases e : m = 0
        · subst e; decide
        · obtain ⟨j, rfl⟩ : ∃ j, m = j + 1 := ⟨m - 1, by omega⟩
          rw [if_neg e, pk_m1, show j + 1 - 1 = j by omega]
      rw [nI_clamp (by omega), z_rem (by omega) (by decide) (by decide), pk_div (by omega) (by decide) (by decide), em, show lCd T (m + 1) % 20 = T m by omega, show lCd T (m + 1) / 20 = lCd T m by omega]
      exact g3 R hR
  have key : ∀ k n (ρ : sj_S), n + k = 20 ^ dN D → (∀ x, x ≠ 62 → ρ x = σ x) → (∀ U, (∀ l, l < dN D → U l < 20) → lCd U (dN D) < n → ¬ zRi D (zHd D) U) →
      ∃ (b : Bool) (σ' : sj_S), sj_J G 5 me_L_tries (.ok (if b then nI 1 else nI 0), σ') 33 [.ref (sj_ad G 56), .int (nI (20 ^ dN D)), .int (nI n), .null, .null] ρ [] ∧ (∀ x, x ≠ 62 → σ' x = σ x) ∧
        (b = true → ∃ T, zFst D (zHd D) T ∧ lA D T σ') ∧ (b = false → ∀ T, ¬ zRi D (zHd D) T) := by
    intro k
    induction k with
    | zero =>
      intro n ρ hn e1 hno
      refine ⟨false, ρ, t_L_tries_33 ⟨fun _ => rfl, fun q => absurd (nI_le (by omega) (by omega)) q⟩, e1, fun q => (by cases q), fun _ U hU => ?_⟩
      have h20 : ∀ l, l < dN D → U l < 20 := fun l hl => (hU l hl).1
      exact hno U h20 (by have := lCd_20 (T := U) (dN D) h20; omega) hU
    | succ k ih =>
      intro n ρ hn e1 hno
      obtain ⟨T, hT, hTn⟩ := lCd_ex (dN D) n (by omega)
      obtain ⟨ρ', g1, g2, g3⟩ := digits T hT (nI (20 ^ dN D)) (nI n) (dN D) ρ (Nat.le_refl _) e1 (fun k hk hkN => absurd hkN (by omega))
      have hL' : lR D ρ' := lR_e hL (fun b hb => g1 b (by revert b; decide)) (by rw [g1 56 (by decide)]) (by rw [g1 56 (by decide)])
      obtain ⟨b, hg, hb⟩ := l_isGood (σ := ρ') ok v hL' g2
      have start : ∀ R : sj_R, sj_J G 5 me_L_tries R 48 [.ref (sj_ad G 56), .int (nI (20 ^ dN D)), .int (nI n), .int (nI (lCd T (dN D))), .int (if dN D = 0 then -1 else nI (dN D - 1))] ρ [] → sj_J G 5 me_L_tries R 33 [.ref (sj_ad G 56), .int (nI (20 ^ dN D)), .int (nI n), .null, .null] ρ [] := fun R hR => by
        refine t_L_tries_33 ⟨fun q => absurd q (nI_ge (by omega) (by omega)), fun _ => ?_⟩
        rw [e1 56 (by decide), hL.1, pk_sub h1]
        rw [hTn, if_neg (by omega)] at hR
        exact hR
      cases hbb : b
      · rw [hbb] at hg
        have hnT : ¬ zRi D (zHd D) T := fun q => by
          rw [hb.mpr ((zRi_iff v).mpr q)] at hbb
          cases hbb
        obtain ⟨b2, σ', r1, r2⟩ := ih (n + 1) ρ' (by omega) g1 (fun U hU hlt hR => by
          by_cases e : lCd U (dN D) < n
          · exact hno U hU e hR
          · have eUT : ∀ l, l < dN D → U l = T l := by
              have a := lCd_lx (T := U) (U := T) (dN D) (fun k hk => ⟨hU k hk, hT k hk⟩) (by omega)
              have c := lCd_lx (T := T) (U := U) (dN D) (fun k hk => ⟨hT k hk, hU k hk⟩) (by omega)
              rcases a with a | ⟨j, j1, j2, j3⟩
              · exact a
              · have := lCd_lt (T := U) (U := T) (dN D) (fun k hk => ⟨hU k hk, hT k hk⟩) j j1 j2 j3
                omega
            exact hnT (zRi_ext eUT hR))
        refine ⟨b2, σ', start _ (g3 _ ⟨_, _, hg, fun _ => ?_, fun q => absurd z_00 q⟩), r2⟩
        rw [nI_add]
        exact r1
      · rw [hbb] at hg
        refine ⟨true, ρ', start _ (g3 _ ⟨_, _, hg, fun q => absurd q z_10, fun _ => rfl⟩), g1, fun _ => ⟨T, ⟨(zRi_iff v).mp (hb.mp hbb), fun U hU => ?_⟩, g2⟩, fun q => by cases q⟩
        have h20 : ∀ l, l < dN D → U l < 20 := fun l hl => (hU l hl).1
        refine lCd_lx (dN D) (fun k hk => ⟨hT k hk, h20 k hk⟩) ?_
        by_cases e : lCd U (dN D) < n
        · exact absurd hU (hno U h20 e)
        · omega
  obtain ⟨b, σ', r1, r2, r3, r4⟩ := key (20 ^ dN D) 0 σ (by omega) (fun _ _ => rfl) (fun U _ h => absurd h (Nat.not_lt_zero _))
  refine ⟨b, σ', c_L_tries ok ?_, r2, r3, r4⟩
  unfold wp_L_tries_0 wp_L_tries_30
  rw [hL.1, hall (dN D) (by omega) h1]
  exact r1
end L3
