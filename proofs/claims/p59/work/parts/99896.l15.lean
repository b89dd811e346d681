/-! P59, THE LAW 15: all is drawn -/
theorem kAw_o {D : zD} {s a b g f i : Nat} (h : f ≠ 1) (h1 : f ≠ 2) (h2 : f < 8 ∨ 11 < f) : zAW (zNoT D) s a b g f i = D f i := by
  rw [zAW_o h h2]
  simp [zUp, zNoT, h1]
theorem kAw_n {D : zD} {s a b g f i : Nat} (h : f ≠ 1) (h1 : f ≠ 2) (h2 : i ≠ dW D) : zAW (zNoT D) s a b g f i = D f i := by
  rw [zAW_n (D := zNoT D) h h2]
  simp [zUp, zNoT, h1]
theorem kAw_e {D : zD} {s a b g f : Nat} (h : 8 ≤ f) (h2 : f ≤ 11) : zAW (zNoT D) s a b g f (dW D) = (if f = 8 then s else if f = 9 then a else if f = 10 then b else g) := zAW_e (D := zNoT D) h h2
/-- what drawing leaves alone -/
def kDr (σ κ : sj_S) : Prop := (∀ b, b ≠ 2 → b ≠ 3 → b ≠ 4 → b ≠ 5 → b ≠ 30 → b < 56 ∨ 67 < b → κ b = σ b) ∧ ∀ k, k ≠ 3 → κ 30 k = σ 30 k
theorem kDr_r (σ : sj_S) : kDr σ σ := ⟨fun _ _ _ _ _ _ _ => rfl, fun _ _ => rfl⟩
theorem kDr_t {σ σ1 σ2 : sj_S} (h : kDr σ σ1) (g : kDr σ1 σ2) : kDr σ σ2 := ⟨fun b h2 h3 h4 h5 h30 hb => (g.1 b h2 h3 h4 h5 h30 hb).trans (h.1 b h2 h3 h4 h5 h30 hb), fun k hk => (g.2 k hk).trans (h.2 k hk)⟩
theorem kDr_c {σ σ' : sj_S} (q : kCh σ σ') : kDr σ σ' := ⟨fun b h2 h3 h4 h5 h30 _ => q.1 b h2 h3 h4 h5 h30, q.2⟩
theorem kDr_st {σ : sj_S} {a i : Nat} {x : Int32} (h1 : 56 ≤ a) (h2 : a ≤ 67) : kDr σ (sj_st σ a i x) := ⟨fun b _ _ _ _ _ hb => z_stn (by omega), fun k _ => by rw [z_stn (by omega)]⟩
/-- the law's rows and the class hold D, w wishes of W being drawn -/
def lDr (N W w : Nat) (D : zD) (κ : sj_S) : Prop := okD D ∧ repC D (κ 2) ∧ kH κ ∧ dN D = N ∧ dW D = w ∧ dT D = 0 ∧ κ 56 13 = nI N ∧ κ 56 14 = nI W ∧
  (∀ l, l < N → κ 57 l = nI (dG D l) ∧ κ 58 l = nI (dTe D l) ∧ κ 59 l = nI (dSu D l) ∧ κ 60 l = zk (dKi D l) ∧ κ 61 l = nI (1 + dDb D l)) ∧ (∀ k, k < 3 → κ 67 k = nI (dRo D k)) ∧
  ∀ i, i < w → κ 63 i = nI (dSo D i) ∧ κ 64 i = nI (dA D i) ∧ κ 65 i = nI (dB D i) ∧ κ 66 i = nI (dWe D i)
theorem lDr_e {N W w : Nat} {D : zD} {κ κ' : sj_S} (h : lDr N W w D κ) (e : ∀ b, b = 2 ∨ b = 4 ∨ (57 ≤ b ∧ b ≤ 61) ∨ b = 67 → κ' b = κ b) (e13 : κ' 56 13 = κ 56 13) (e14 : κ' 56 14 = κ 56 14) (er : ∀ b, 63 ≤ b → b ≤ 66 → ∀ i, i < w → κ' b i = κ b i) : lDr N W w D κ' := by
  obtain ⟨h1, h2, h3, h4, h5, h6, h7, h8, h9, h10, h11⟩ := h
  refine ⟨h1, by rw [e 2 (by omega)]; exact h2, kH_e h3 (e 4 (by omega)), h4, h5, h6, by rw [e13]; exact h7, by rw [e14]; exact h8, fun l hl => ?_, fun k hk => ?_, fun i hi => ?_⟩
  · rw [e 57 (by omega), e 58 (by omega), e 59 (by omega), e 60 (by omega), e 61 (by omega)]
    exact h9 l hl
  · rw [e 67 (by omega)]
    exact h10 k hk
  · rw [er 63 (by decide) (by decide) i hi, er 64 (by decide) (by decide) i hi, er 65 (by decide) (by decide) i hi, er 66 (by decide) (by decide) i hi]
    exact h11 i hi
theorem lDr_x {N W w : Nat} {D : zD} {κ : sj_S} (h : lDr N W w D κ) (x : Int32) : lDr N W w D (sj_st κ 56 0 x) :=
  lDr_e h (fun b hb => z_stn (by omega)) (z_sti (by decide)) (z_sti (by decide)) (fun b h1 h2 i hi => by rw [z_stn (by omega)])
theorem lDr_w {N W w a : Nat} {D : zD} {κ : sj_S} (h : lDr N W w D κ) (x : Int32) (h1 : 63 ≤ a) (h2 : a ≤ 66) : lDr N W w D (sj_st κ a w x) :=
  lDr_e h (fun b hb => z_stn (by omega)) (by rw [z_stn (by omega)]) (by rw [z_stn (by omega)]) (fun b _ _ i hi => by
    by_cases e : b = a
    · subst e
      exact z_sti (by omega)
    · rw [z_stn e])
theorem lDr_R {N W : Nat} {D : zD} {κ : sj_S} (h : lDr N W W D κ) : lR D κ := by
  obtain ⟨h1, h2, h3, h4, h5, h6, h7, h8, h9, h10, h11⟩ := h
  exact ⟨by rw [h4]; exact h7, by rw [h5]; exact h8, fun l hl => h9 l (by omega), fun w hw => h11 w (by omega), h10⟩
section L15
variable {G : sj_G} {σ : sj_S} {D0 : zD} {N W gs ts : Nat}
/-- the end of drawing, from 208 on -/
def lFn (G : sj_G) (σ : sj_S) (D0 : zD) (N W : Nat) (P : sj_R → Prop) : Prop := ∃ (D' : zD) (σ' : sj_S), lDr N W W D' σ' ∧ kDr σ σ' ∧ kRest D0 D' ∧ P (.ok (nI 1), σ')
theorem lFn_m {P Q : sj_R → Prop} (h : lFn G σ D0 N W P) (k : ∀ R, P R → Q R) : lFn G σ D0 N W Q := by
  obtain ⟨D', σ', h1, h2, h3, h4⟩ := h
  exact ⟨D', σ', h1, h2, h3, k _ h4⟩
theorem l_wishes (ok : sj_ok G) (hO : sj_ad G 70 = sj_ad G 0) (hN : 1 ≤ N) (hN9 : N ≤ 9) (hW : W < 12) (hg : 1 ≤ gs) (hg4 : gs ≤ 4) (ht : 1 ≤ ts) (ht5 : ts ≤ 5) : ∀ j w (D : zD) (κ : sj_S), w + j = W → lDr N W w D κ → kDr σ κ → kRest D0 D →
    lFn G σ D0 N W (fun R => sj_J G 13 me_L_isDrawn R 208 [.ref (sj_ad G 56), .int (nI gs), .int (nI ts), .int (nI w)] κ []) := by
  intro j
  induction j with
  | zero =>
    intro w D κ hw h q hr
    obtain rfl : w = W := by omega
    have c1 := k_wishes (σ := κ) ok h.2.1
    rw [h.2.2.2.2.1] at c1
    refine ⟨D, κ, h, q, hr, t_L_isDrawn_208 hO ⟨fun _ => ⟨_, _, c1, ?_⟩, fun x => ?_⟩⟩
    · unfold wp_L_isDrawn_457
      rw [h.2.2.2.2.2.2.2.1, if_pos rfl]
      exact ⟨rfl, Or.inr rfl⟩
    · rw [h.2.2.2.2.2.2.2.1] at x
      exact absurd (nI_le (Nat.le_refl _) (by omega)) x
  | succ j ih =>
    intro w D κ hw h q hr
    have hwW : w < W := by omega
    have hin : vp_in (nI w) 12 := z_in (by omega) (by decide)
    have hcl : (nI w).toNatClampNeg = w := nI_clamp (by omega)
    -- the weight
    have s394 : ∀ (κ : sj_S) (s a b g : Nat), lDr N W w D κ → kDr σ κ → κ 63 w = nI s → κ 64 w = nI a → κ 65 w = nI b → okW N s a b g → lFn G σ D0 N W (fun R => wp_L_isDrawn_394 G R (nI gs) (nI ts) (nI w) (nI g) (nI w) κ) := by
      intro κ s a b g h q r63 r64 r65 hok
      generalize eκ : sj_st κ 66 w (nI g) = κ'
      have h' : lDr N W w D κ' := by rw [← eκ]; exact lDr_w h _ (by decide) (by decide)
      have q' : kDr σ κ' := by rw [← eκ]; exact kDr_t q (kDr_st (by decide) (by decide))
      have y : ∀ c, c ≠ 66 → κ' c = κ c := fun c hc => by rw [← eκ, z_stn hc]
      have y66 : κ' 66 w = nI g := by rw [← eκ, z_ste]
      obtain ⟨h1, h2, h3, h4, h5, h6, h7, h8, h9, h10, h11⟩ := h'
      obtain ⟨σ1, c1, v1, hC1, hH1, q1⟩ := k_wish (σ := κ') (D := D) (s := s) (a := a) (b := b) (g := g) ok h1 h2 h3 (by rw [h4]; exact hok) (by omega)
      rw [h5] at c1
      have f1 : ∀ c, 56 ≤ c → σ1 c = κ' c := fun c hc => q1.1 c (by omega) (by omega) (by omega) (by omega) (by omega)
      have hr1 : kRest D (zAW (zNoT D) s a b g) := ⟨fun t _ => ⟨kAw_o (by decide) (by decide) (by decide), kAw_o (by decide) (by decide) (by decide)⟩, fun e _ => kAw_o (by decide) (by decide) (by decide)⟩
      have hd : lDr N W (w + 1) (zAW (zNoT D) s a b g) σ1 := by
        refine ⟨v1, hC1, hH1, (kAw_o (by decide) (by decide) (by decide)).trans h4, ?_, (zAW_o (by decide) (by decide)).trans rfl, by rw [f1 56 (by decide)]; exact h7, by rw [f1 56 (by decide)]; exact h8, fun l hl => ?_, fun k hk => ?_, fun i hi => ?_⟩
        · show D 1 0 + 1 = w + 1
          rw [show D 1 0 = w from h5]
        · rw [f1 57 (by decide), f1 58 (by decide), f1 59 (by decide), f1 60 (by decide), f1 61 (by decide)]
          rw [show dG (zAW (zNoT D) s a b g) l = _ from kAw_o (by decide) (by decide) (by decide), show dTe (zAW (zNoT D) s a b g) l = _ from kAw_o (by decide) (by decide) (by decide), show dSu (zAW (zNoT D) s a b g) l = _ from kAw_o (by decide) (by decide) (by decide), show dKi (zAW (zNoT D) s a b g) l = _ from kAw_o (by decide) (by decide) (by decide), show dDb (zAW (zNoT D) s a b g) l = _ from kAw_o (by decide) (by decide) (by decide)]
          exact h9 l hl
        · rw [f1 67 (by decide), show dRo (zAW (zNoT D) s a b g) k = _ from kAw_o (by decide) (by decide) (by decide)]
          exact h10 k hk
        · rw [f1 63 (by decide), f1 64 (by decide), f1 65 (by decide), f1 66 (by decide)]
          by_cases x : i = w
          · have e : ∀ f, 8 ≤ f → f ≤ 11 → zAW (zNoT D) s a b g f i = (if f = 8 then s else if f = 9 then a else if f = 10 then b else g) := fun f g1 g2 => by
              have := kAw_e (D := D) (s := s) (a := a) (b := b) (g := g) g1 g2
              rw [h5, ← x] at this
              exact this
            rw [show dSo (zAW (zNoT D) s a b g) i = _ from e 8 (by decide) (by decide), show dA (zAW (zNoT D) s a b g) i = _ from e 9 (by decide) (by decide), show dB (zAW (zNoT D) s a b g) i = _ from e 10 (by decide) (by decide), show dWe (zAW (zNoT D) s a b g) i = _ from e 11 (by decide) (by decide), x]
            exact ⟨by rw [y 63 (by decide)]; exact r63, by rw [y 64 (by decide)]; exact r64, by rw [y 65 (by decide)]; exact r65, y66⟩
          · have e : ∀ f, 8 ≤ f → zAW (zNoT D) s a b g f i = D f i := fun f g1 => kAw_n (by omega) (by omega) (by omega)
            rw [show dSo (zAW (zNoT D) s a b g) i = _ from e 8 (by decide), show dA (zAW (zNoT D) s a b g) i = _ from e 9 (by decide), show dB (zAW (zNoT D) s a b g) i = _ from e 10 (by decide), show dWe (zAW (zNoT D) s a b g) i = _ from e 11 (by decide)]
            exact h11 i (by omega)
      refine lFn_m (ih (w + 1) _ σ1 (by omega) hd (kDr_t q' (kDr_c q1)) (kRest_t hr hr1)) (fun R hR => ?_)
      unfold wp_L_isDrawn_394
      rw [hcl, z_ste, eκ, r63, r64, r65]
      refine ⟨hin, hin, hin, hin, hin, _, _, c1, fun _ => ?_, fun x => absurd rfl x⟩
      rw [nI_add]
      exact hR
    -- the second
    have s368 : ∀ (κ : sj_S) (s a b : Nat), lDr N W w D κ → kDr σ κ → κ 63 w = nI s → κ 64 w = nI a → (∀ g, g ≤ 9 → okW N s a b g) → lFn G σ D0 N W (fun R => wp_L_isDrawn_368 G R (nI gs) (nI ts) (nI w) (nI b) (nI w) κ) := by
      intro κ s a b h q r63 r64 hok
      generalize eκ : sj_st κ 65 w (nI b) = κ'
      have h' : lDr N W w D κ' := by rw [← eκ]; exact lDr_w h _ (by decide) (by decide)
      have q' : kDr σ κ' := by rw [← eκ]; exact kDr_t q (kDr_st (by decide) (by decide))
      have y : ∀ c, c ≠ 65 → κ' c = κ c := fun c hc => by rw [← eκ, z_stn hc]
      have y65 : κ' 65 w = nI b := by rw [← eκ, z_ste]
      obtain ⟨v, x, hv, hn⟩ := l_next (σ := κ') ok (n := 2) (by decide) (by decide)
      generalize e1 : sj_st κ' 56 0 x = κ1 at hn
      have h1 : lDr N W w D κ1 := by rw [← e1]; exact lDr_x h' x
      have q1 : kDr σ κ1 := by rw [← e1]; exact kDr_t q' (kDr_st (by decide) (by decide))
      have y1 : ∀ c, c ≠ 56 → κ1 c = κ' c := fun c hc => by rw [← e1, z_stn hc]
      by_cases v0 : v = 0
      · subst v0
        refine lFn_m (s394 κ1 s a b 0 h1 q1 (by rw [y1 63 (by decide), y 63 (by decide)]; exact r63) (by rw [y1 64 (by decide), y 64 (by decide)]; exact r64) (by rw [y1 65 (by decide)]; exact y65) (hok 0 (by decide))) (fun R hR => ?_)
        unfold wp_L_isDrawn_368
        rw [hcl, eκ]
        exact ⟨hin, _, _, hn, fun x => absurd nI_0 x, fun _ => hR⟩
      · obtain ⟨u, x2, hu, hn2⟩ := l_next (σ := κ1) ok (n := 9) (by decide) (by decide)
        generalize e2 : sj_st κ1 56 0 x2 = κ2 at hn2
        have y2 : ∀ c, c ≠ 56 → κ2 c = κ1 c := fun c hc => by rw [← e2, z_stn hc]
        refine lFn_m (s394 κ2 s a b (1 + u) (by rw [← e2]; exact lDr_x h1 x2) (by rw [← e2]; exact kDr_t q1 (kDr_st (by decide) (by decide))) (by rw [y2 63 (by decide), y1 63 (by decide), y 63 (by decide)]; exact r63) (by rw [y2 64 (by decide), y1 64 (by decide), y 64 (by decide)]; exact r64) (by rw [y2 65 (by decide), y1 65 (by decide)]; exact y65) (hok (1 + u) (by omega))) (fun R hR => ?_)
        unfold wp_L_isDrawn_368
        rw [hcl, eκ]
        refine ⟨hin, _, _, hn, fun _ => ⟨_, _, hn2, ?_⟩, fun x => absurd x (nI_ne0 (by omega) (by omega))⟩
        rw [nI_add]
        exact hR
    -- the first
    have s288 : ∀ (κ : sj_S) (s a : Nat), lDr N W w D κ → kDr σ κ → κ 63 w = nI s → s ≤ 6 → (s = 0 → a < 6) → (s = 1 → a < 4) → (2 ≤ s → a < N) → (4 ≤ s → 2 ≤ N) → a < 16 → lFn G σ D0 N W (fun R => wp_L_isDrawn_288 G R (nI gs) (nI ts) (nI w) (nI a) (nI w) κ) := by
      intro κ s a h q r63 hs a0 a1 a2 a4 a16
      generalize eκ : sj_st κ 64 w (nI a) = κ'
      have h' : lDr N W w D κ' := by rw [← eκ]; exact lDr_w h _ (by decide) (by decide)
      have q' : kDr σ κ' := by rw [← eκ]; exact kDr_t q (kDr_st (by decide) (by decide))
      have y : ∀ c, c ≠ 64 → κ' c = κ c := fun c hc => by rw [← eκ, z_stn hc]
      have y64 : κ' 64 w = nI a := by rw [← eκ, z_ste]
      have y13 : κ 56 13 = nI N := h.2.2.2.2.2.2.1
      by_cases s2 : s = 2
      · obtain ⟨v, x, hv, hn⟩ := l_next (σ := κ') ok (n := 3) (by decide) (by decide)
        generalize e1 : sj_st κ' 56 0 x = κ1 at hn
        have y1 : ∀ c, c ≠ 56 → κ1 c = κ' c := fun c hc => by rw [← e1, z_stn hc]
        refine lFn_m (s368 κ1 s a v (by rw [← e1]; exact lDr_x h' x) (by rw [← e1]; exact kDr_t q' (kDr_st (by decide) (by decide))) (by rw [y1 63 (by decide), y 63 (by decide)]; exact r63) (by rw [y1 64 (by decide)]; exact y64) (fun g hg => ⟨hs, hg, fun e => by omega, fun e => by omega, fun _ => ⟨a2 (by omega), by omega⟩, fun e => by omega, fun e => by omega⟩)) (fun R hR => ?_)
        unfold wp_L_isDrawn_288
        rw [hcl, eκ, r63]
        exact ⟨hin, hin, fun x => absurd (by rw [s2]) x, fun _ => ⟨_, _, hn, hR⟩⟩
      · have n2 : ¬ nI s = nI 2 := by
          rw [nI_eq (by omega) (by decide)]
          exact s2
        by_cases s3 : s ≤ 3
        · obtain ⟨v, x, hv, hn⟩ := l_next (σ := κ') ok (n := 2) (by decide) (by decide)
          generalize e1 : sj_st κ' 56 0 x = κ1 at hn
          have h1 : lDr N W w D κ1 := by rw [← e1]; exact lDr_x h' x
          have q1 : kDr σ κ1 := by rw [← e1]; exact kDr_t q' (kDr_st (by decide) (by decide))
          have y1 : ∀ c, c ≠ 56 → κ1 c = κ' c := fun c hc => by rw [← e1, z_stn hc]
          obtain ⟨m, m1, m2, m3⟩ : ∃ m, 1 ≤ m ∧ m ≤ 20 ∧ (if nI v = 0 then nI 6 else nI 20) = nI m := by
            split
            · exact ⟨6, by decide, by decide, rfl⟩
            · exact ⟨20, by decide, by decide, rfl⟩
          obtain ⟨b, x2, hb, hn2⟩ := l_next (σ := κ1) (n := m) ok (by omega) (by omega)
          generalize e2 : sj_st κ1 56 0 x2 = κ2 at hn2
          have y2 : ∀ c, c ≠ 56 → κ2 c = κ1 c := fun c hc => by rw [← e2, z_stn hc]
          refine lFn_m (s368 κ2 s a b (by rw [← e2]; exact lDr_x h1 x2) (by rw [← e2]; exact kDr_t q1 (kDr_st (by decide) (by decide))) (by rw [y2 63 (by decide), y1 63 (by decide), y 63 (by decide)]; exact r63) (by rw [y2 64 (by decide), y1 64 (by decide)]; exact y64) (fun g hg => ⟨hs, hg, fun e => ⟨a0 e, by omega⟩, fun e => ⟨a1 e, by omega⟩, fun e => by omega, fun e => ⟨a2 (by omega), by omega⟩, fun e => by omega⟩)) (fun R hR => ?_)
          unfold wp_L_isDrawn_288
          rw [hcl, eκ, r63]
          refine ⟨hin, hin, fun _ => ⟨hin, fun _ => ⟨_, _, hn, ?_⟩, fun x => absurd (nI_le s3 (by decide)) x⟩, fun x => absurd x n2⟩
          unfold wp_L_isDrawn_365
          rw [m3]
          exact ⟨_, _, hn2, hR⟩
        · have hN2 := a4 (by omega)
          have haN := a2 (by omega)
          obtain ⟨v, x, hv, hn⟩ := l_next (σ := κ') (n := N - 1) ok (by omega) (by omega)
          generalize e1 : sj_st κ' 56 0 x = κ1 at hn
          have h1 : lDr N W w D κ1 := by rw [← e1]; exact lDr_x h' x
          have y1 : ∀ c, c ≠ 56 → κ1 c = κ' c := fun c hc => by rw [← e1, z_stn hc]
          have hb : (a + 1 + v) % N < N := Nat.mod_lt _ (by omega)
          have hab : a ≠ (a + 1 + v) % N := by
            intro e
            by_cases l1 : a + 1 + v < N
            · rw [Nat.mod_eq_of_lt l1] at e
              omega
            · rw [Nat.mod_eq_sub_mod (by omega), Nat.mod_eq_of_lt (by omega)] at e
              omega
          refine lFn_m (s368 κ1 s a ((a + 1 + v) % N) h1 (by rw [← e1]; exact kDr_t q' (kDr_st (by decide) (by decide))) (by rw [y1 63 (by decide), y 63 (by decide)]; exact r63) (by rw [y1 64 (by decide)]; exact y64) (fun g hg => ⟨hs, hg, fun e => by omega, fun e => by omega, fun e => by omega, fun e => by omega, fun _ => ⟨haN, hb, hab⟩⟩)) (fun R hR => ?_)
          unfold wp_L_isDrawn_288
          rw [hcl, eκ, r63, y13, pk_sub (by omega), y64]
          refine ⟨hin, hin, fun _ => ⟨hin, fun x => absurd x (nI_ge (by omega) (by omega)), fun _ => ⟨hin, _, _, hn, ?_, ?_⟩⟩, fun x => absurd x n2⟩
          · rw [h1.2.2.2.2.2.2.1]
            exact nI_ne0 (by omega) (by omega)
          · rw [h1.2.2.2.2.2.2.1, nI_add, nI_add, z_rem (by omega) (by omega) (by omega)]
            exact hR
    -- the sort
    obtain ⟨m, m1, m2, m3⟩ : ∃ m, (m = 4 ∨ (m = 7 ∧ 2 ≤ N)) ∧ 1 ≤ m ∧ (if nI N ≤ nI 1 then nI 4 else nI 7) = nI m := by
      by_cases x : N ≤ 1
      · exact ⟨4, Or.inl rfl, by decide, if_pos (nI_le x (by decide))⟩
      · exact ⟨7, Or.inr ⟨rfl, by omega⟩, by decide, if_neg (nI_ge (by omega) (by omega))⟩
    obtain ⟨s, x, hs, hn⟩ := l_next (σ := κ) (n := m) ok (by omega) (by omega)
    generalize e1 : sj_st κ 56 0 x = κ1 at hn
    have h1 : lDr N W w D κ1 := by rw [← e1]; exact lDr_x h x
    have q1 : kDr σ κ1 := by rw [← e1]; exact kDr_t q (kDr_st (by decide) (by decide))
    generalize e2 : sj_st κ1 63 w (nI s) = κ2
    have h2 : lDr N W w D κ2 := by rw [← e2]; exact lDr_w h1 _ (by decide) (by decide)
    have q2 : kDr σ κ2 := by rw [← e2]; exact kDr_t q1 (kDr_st (by decide) (by decide))
    have r63 : κ2 63 w = nI s := by rw [← e2, z_ste]
    obtain ⟨n, n1, n2, n3, n4, n5⟩ : ∃ n, 1 ≤ n ∧ n ≤ 9 ∧ (s = 0 → n = ts) ∧ (s = 1 → n = gs) ∧ (2 ≤ s → n = N) := by
      by_cases s0 : s = 0
      · exact ⟨ts, ht, by omega, fun _ => rfl, fun e => by omega, fun e => by omega⟩
      · by_cases s1 : s = 1
        · exact ⟨gs, hg, by omega, fun e => by omega, fun _ => rfl, fun e => by omega⟩
        · exact ⟨N, hN, hN9, fun e => by omega, fun e => by omega, fun _ => rfl⟩
    obtain ⟨a, x3, ha, hn3⟩ := l_next (σ := κ2) (n := n) ok (by omega) (by omega)
    generalize e3 : sj_st κ2 56 0 x3 = κ3 at hn3
    have y3 : ∀ c, c ≠ 56 → κ3 c = κ2 c := fun c hc => by rw [← e3, z_stn hc]
    refine lFn_m (s288 κ3 s a (by rw [← e3]; exact lDr_x h2 x3) (by rw [← e3]; exact kDr_t q2 (kDr_st (by decide) (by decide))) (by rw [y3 63 (by decide)]; exact r63) (by omega) (fun e => by have := n3 e; omega) (fun e => by have := n4 e; omega) (fun e => by have := n5 e; omega) (fun e => by omega) (by omega)) (fun R hR => ?_)
    refine t_L_isDrawn_208 hO ⟨fun r => ?_, fun _ => ?_⟩
    · rw [h.2.2.2.2.2.2.2.1] at r
      exact absurd r (nI_ge hwW (by omega))
    · rw [h.2.2.2.2.2.2.1, m3]
      unfold wp_L_isDrawn_236
      refine ⟨_, _, hn, hin, hin, ?_⟩
      rw [hcl, z_ste, e2, h1.2.2.2.2.2.2.1]
      refine ⟨fun s0 => ⟨hin, fun s1 => ?_, fun s1 => ?_⟩, fun s0 => ?_⟩
      · have s0' : s ≠ 0 := fun e => s0 (by rw [e]; exact nI_0)
        have s1' : s ≠ 1 := fun e => s1 (by rw [e])
        rw [n5 (by omega)] at hn3
        exact ⟨_, _, hn3, hR⟩
      · rw [nI_eq (by omega) (by decide)] at s1
        rw [n4 s1] at hn3
        exact ⟨_, _, hn3, hR⟩
      · rw [z_eq0 (by omega)] at s0
        rw [n3 s0] at hn3
        exact ⟨_, _, hn3, hR⟩
end L15
