/-! P59, THE CLASS ALONE 1: a school is made, a table is sought -/
def kH (σ : sj_S) : Prop := ∃ nx t, nx < 20 ∧ t ≤ 20 ∧ σ 4 1 = nI nx ∧ σ 4 2 = nI t
/-- what a question leaves alone -/
def kQ (σ σ' : sj_S) : Prop := ∀ b, (b < 6 ∨ (29 ≤ b ∧ b ≤ 30) ∨ (32 ≤ b ∧ b ≤ 33) ∨ 45 < b) → σ' b = σ b
theorem kQ_r (σ : sj_S) : kQ σ σ := fun _ _ => rfl
theorem kQ_t {σ σ1 σ2 : sj_S} (h : kQ σ σ1) (g : kQ σ1 σ2) : kQ σ σ2 := fun b hb => (g b hb).trans (h b hb)
/-- what a change of the school leaves alone -/
def kCh (σ σ' : sj_S) : Prop := (∀ b, b ≠ 2 → b ≠ 3 → b ≠ 4 → b ≠ 5 → b ≠ 30 → σ' b = σ b) ∧ ∀ k, k ≠ 3 → σ' 30 k = σ 30 k
theorem kCh_r (σ : sj_S) : kCh σ σ := ⟨fun _ _ _ _ _ _ => rfl, fun _ _ => rfl⟩
theorem kCh_t {σ σ1 σ2 : sj_S} (h : kCh σ σ1) (g : kCh σ1 σ2) : kCh σ σ2 := ⟨fun b h2 h3 h4 h5 h30 => (g.1 b h2 h3 h4 h5 h30).trans (h.1 b h2 h3 h4 h5 h30), fun k hk => (g.2 k hk).trans (h.2 k hk)⟩
theorem kCh_rd {σ σ' : sj_S} {r : Nat} (h : kCh σ σ') (g : zRd σ r) : zRd σ' r := ⟨by rw [h.2 7 (by decide)]; exact g.1, by rw [h.1 33 (by decide) (by decide) (by decide) (by decide) (by decide)]; exact g.2⟩
/-- the last state that the history keeps -/
def kU (σ : sj_S) (c tb : Nat → Int32) : Prop := ∃ nx t, nx < 20 ∧ 0 < t ∧ t ≤ 20 ∧ σ 4 1 = nI nx ∧ σ 4 2 = nI t ∧ (∀ i, i < 119 → σ 5 ((nx + 19) % 20 * 128 + i) = c i) ∧ ∀ i, i < 9 → σ 5 ((nx + 19) % 20 * 128 + 119 + i) = tb i
section K1
variable {G : sj_G} {σ : sj_S} {D : zD} {T : Nat → Nat} {r : Nat}
theorem kH_e {σ' : sj_S} (h : kH σ) (e : σ' 4 = σ 4) : kH σ' := by
  unfold kH at h ⊢
  rw [e]
  exact h
theorem k_begin (ok : sj_ok G) (h : kH σ) : ∃ B, sj_C G 3 me_X11_beginChange [.ref (sj_ad G 0)] σ (.ok 0, B) ∧ (∀ b, b ≠ 4 → b ≠ 5 → b ≠ 30 → B b = σ b) ∧ (∀ k, k ≠ 3 → B 30 k = σ 30 k) ∧ B 30 3 = -1 ∧ kH B ∧ kU B (σ 2) (σ 3) := by
  obtain ⟨nx, t, hnx, ht, h1, h2⟩ := h
  have hm : (nx + 1) % 20 < 20 := Nat.mod_lt _ (by decide)
  refine ⟨zBeg σ nx t, z_begin ok hnx ht h1 h2, fun b b4 b5 b30 => zBeg_n b4 b5 b30, fun k hk => zBeg_30 hk, zBeg_p, ⟨_, _, hm, by split <;> omega, zBeg_1, zBeg_2⟩, ⟨_, _, hm, by split <;> omega, by split <;> omega, zBeg_1, zBeg_2, fun i hi => ?_, fun i hi => ?_⟩⟩
  · rw [zBeg_5, show ((nx + 1) % 20 + 19) % 20 = nx by omega]
    unfold va_cpy
    rw [if_neg (by omega), if_pos (by omega)]
    congr 1
    omega
  · rw [zBeg_5, show ((nx + 1) % 20 + 19) % 20 = nx by omega]
    unfold va_cpy
    rw [if_pos (by omega)]
    congr 1
    omega
theorem k_setRooms (ok : sj_ok G) (v : okD D) (hC : repC D (σ 2)) (hH : kH σ) {k n : Nat} (hk : k < 3) (hn : n < 4) :
    ∃ σ', sj_C G 11 me_X11_setRooms [.ref (sj_ad G 0), .int (nI k), .int (nI n)] σ (.ok (nI (dRo D k)), σ') ∧ okD (zUp (zNoT D) 13 k n) ∧ repC (zUp (zNoT D) 13 k n) (σ' 2) ∧ kH σ' ∧ kCh σ σ' := by
  obtain ⟨B, hB, eB, e30, eP, bH, -⟩ := k_begin (σ := σ) ok hH
  generalize eτ : sj_st (sj_st B 2 2 (nI 0)) 2 (102 + k) (nI n) = τ
  have hc : sj_C G 11 me_X11_setRooms [.ref (sj_ad G 0), .int (nI k), .int (nI n)] σ (.ok (σ 2 (102 + k)), τ) := by
    subst eτ
    refine c_X11_setRooms ok (Or.inl ⟨_, z_range0 ok hk (by decide), Or.inl ⟨_, z_range0 ok hn (by decide), _, hB, _, z_loseTable ok, _, _, z_putRooms ok hk, ?_⟩⟩)
    rw [z_sti (by omega), eB 2 (by decide) (by decide) (by decide)]
  have hτ : ∀ b, b ≠ 2 → τ b = B b := fun b hb => by
    subst eτ
    rw [z_stn hb, z_stn hb]
  have t2 : τ 2 = upd (upd (σ 2) 2 (nI 0)) (102 + k) (nI n) := by
    subst eτ
    rw [z_sta, z_sta, eB 2 (by decide) (by decide) (by decide)]
  rw [hC.2.2.2.2.2.2.1 k hk] at hc
  refine ⟨τ, hc, okD_13 (okD_noT v) (by omega), by rw [t2]; exact repC_13 (okD_noT v) (repC_noT v hC) hk, kH_e bH (hτ 4 (by decide)), fun b h2 h3 h4 h5 h30 => by rw [hτ b h2, eB b h4 h5 h30], fun k hk => by rw [hτ 30 (by decide), e30 k hk]⟩
theorem k_lesson (ok : sj_ok G) (v : okD D) (hC : repC D (σ 2)) (hH : kH σ) {g t s K : Nat} {b : Bool} (hg : g < 4) (ht : t < 6) (hs : s < 6) (hK : K ≤ 3) (hT : bt (nI (dTch D t)) s = true) (hn : dN D < 9) :
    ∃ σ', sj_C G 11 me_X11_lesson [.ref (sj_ad G 0), .int (nI g), .int (nI t), .int (nI s), .int (zk K), .int (if b then nI 1 else nI 0)] σ (.ok (nI (dN D)), σ') ∧ okD (zAL (zNoT D) g t s K (if b then 1 else 0)) ∧ repC (zAL (zNoT D) g t s K (if b then 1 else 0)) (σ' 2) ∧ kH σ' ∧ kCh σ σ' := by
  have c1 : σ 2 (96 + t) = nI (dTch D t) := (hC.2.2.2.2.2.1 t ht).1
  have hb1 : ¬ ((σ 2 (96 + t) >>> (nI s &&& 31)) &&& nI 1) = 0 := by
    rw [z_bit (by omega), c1, hT]
    decide
  obtain ⟨B, hB, eB, e30, eP, bH, -⟩ := k_begin (σ := σ) ok hH
  generalize eL : sj_st B 2 2 (nI 0) = L
  have hL2 : L 2 = upd (σ 2) 2 (nI 0) := by
    rw [← eL, z_sta, eB 2 (by decide) (by decide) (by decide)]
  have hlt : sj_C G 2 me_X8_loseTable [.ref (sj_ad G 1)] B (.ok 0, L) := by
    rw [← eL]
    exact z_loseTable ok
  have hr := z_addLesson (σ := L) ok (g := nI g) (t := nI t) (s := nI s) (k := zk K) (d := nI (if b then 1 else 0)) hn (by rw [hL2, z_un (by decide)]; exact hC.1)
  generalize eτ : zAddL L (dN D) (nI g) (nI t) (nI s) (zk K) (nI (if b then 1 else 0)) = τ at hr
  have hτ : ∀ b, b ≠ 2 → τ b = B b := fun b hb => by
    rw [← eτ]
    unfold zAddL
    rw [z_stn hb, z_stn hb, z_stn hb, z_stn hb, z_stn hb, z_stn hb, ← eL, z_stn hb]
  have t2 : τ 2 = upd (upd (upd (upd (upd (upd (upd (σ 2) 2 (nI 0)) (3 + dN D * 5 + 0) (nI g)) (3 + dN D * 5 + 1) (nI t)) (3 + dN D * 5 + 2) (nI s)) (3 + dN D * 5 + 3) (zk K)) (3 + dN D * 5 + 4) (nI (if b then 1 else 0))) 0 (nI (dN D + 1)) := by
    rw [← eτ]
    unfold zAddL
    rw [z_sta, z_sta, z_sta, z_sta, z_sta, z_sta, hL2]
  have hc : sj_C G 11 me_X11_lesson [.ref (sj_ad G 0), .int (nI g), .int (nI t), .int (nI s), .int (zk K), .int (if b then nI 1 else nI 0)] σ (.ok (nI (dN D)), τ) := by
    refine z_lesson_cls ok hg ht hs hK ⟨_, _, z_subjectsOf ok ht, fun _ => ⟨_, _, z_lessonTotal ok, fun _ => ⟨_, hB, _, hlt, ?_⟩, fun q => ?_⟩, fun q => absurd q hb1⟩
    · unfold wp_X11_lesson_110
      rw [z_bb]
      exact ⟨_, _, hr, rfl⟩
    · rw [hC.1] at q
      exact absurd (nI_lt hn (by omega)) q
  have hd : (if b then 1 else 0) ≤ 1 := by split <;> omega
  have v0 : okD (zNoT D) := okD_noT v
  exact ⟨τ, hc, okD_al v0 hn hg ht hs hK hd, by rw [t2]; exact repC_al v0 (repC_noT v hC) hn, kH_e bH (hτ 4 (by decide)), fun b h2 h3 h4 h5 h30 => by rw [hτ b h2, eB b h4 h5 h30], fun k hk => by rw [hτ 30 (by decide), e30 k hk]⟩
theorem k_lessons (ok : sj_ok G) (hC : repC D (σ 2)) : sj_C G 3 me_X11_lessons [.ref (sj_ad G 0)] σ (.ok (nI (dN D)), σ) := by
  refine c_X11_lessons ok ⟨_, _, z_lessonTotal ok, ?_⟩
  rw [hC.1]
theorem k_wishes (ok : sj_ok G) (hC : repC D (σ 2)) : sj_C G 3 me_X11_wishes [.ref (sj_ad G 0)] σ (.ok (nI (dW D)), σ) := by
  refine c_X11_wishes ok ⟨_, _, z_wishTotal ok, ?_⟩
  rw [hC.2.1]
theorem k_wish (ok : sj_ok G) (v : okD D) (hC : repC D (σ 2)) (hH : kH σ) {s a b g : Nat} (ha : okW (dN D) s a b g) (hn : dW D < 12) :
    ∃ σ', sj_C G 11 me_X11_wish [.ref (sj_ad G 0), .int (nI s), .int (nI a), .int (nI b), .int (nI g)] σ (.ok (nI (dW D)), σ') ∧ okD (zAW (zNoT D) s a b g) ∧ repC (zAW (zNoT D) s a b g) (σ' 2) ∧ kH σ' ∧ kCh σ σ' := by
  have h9 := v.1
  obtain ⟨B, hB, eB, e30, eP, bH, -⟩ := k_begin (σ := σ) ok hH
  generalize eL : sj_st B 2 2 (nI 0) = L
  have hlt : sj_C G 2 me_X8_loseTable [.ref (sj_ad G 1)] B (.ok 0, L) := by
    rw [← eL]
    exact z_loseTable ok
  have hL2 : L 2 = upd (σ 2) 2 (nI 0) := by
    rw [← eL, z_sta, eB 2 (by decide) (by decide) (by decide)]
  have hr := z_addWish (σ := L) ok (s := nI s) (a := nI a) (b := nI b) (g := nI g) hn (by rw [hL2, z_un (by decide)]; exact hC.2.1)
  generalize eτ : zAddW L (dW D) (nI s) (nI a) (nI b) (nI g) = τ at hr
  have hτ : ∀ b, b ≠ 2 → τ b = B b := fun b hb => by
    rw [← eτ]
    unfold zAddW
    rw [z_stn hb, z_stn hb, z_stn hb, z_stn hb, z_stn hb, ← eL, z_stn hb]
  have t2 : τ 2 = upd (upd (upd (upd (upd (upd (σ 2) 2 (nI 0)) (48 + dW D * 4 + 0) (nI s)) (48 + dW D * 4 + 1) (nI a)) (48 + dW D * 4 + 2) (nI b)) (48 + dW D * 4 + 3) (nI g)) 1 (nI (dW D + 1)) := by
    rw [← eτ]
    unfold zAddW
    rw [z_sta, z_sta, z_sta, z_sta, z_sta, hL2]
  have fin : wp_X11_wish_108 G (.ok (nI (dW D)), τ) (nI s) (nI a) (nI b) (nI g) σ := by
    refine ⟨_, _, z_wishTotal ok, fun _ => ⟨_, hB, _, hlt, _, _, hr, rfl⟩, fun q => ?_⟩
    rw [hC.2.1] at q
    exact absurd (nI_lt hn (by omega)) q
  obtain ⟨w1, w2, w3, w4, w5, w6, w7⟩ := ha
  have hc : sj_C G 11 me_X11_wish [.ref (sj_ad G 0), .int (nI s), .int (nI a), .int (nI b), .int (nI g)] σ (.ok (nI (dW D)), τ) := by
    refine z_wish_cls ok (by omega) (by omega) (fun q => ?_) (fun q => ?_) (fun q => ?_)
    · obtain ⟨A, hA1, hA3⟩ : ∃ A, (if nI s = 0 then nI 6 else nI 4) = nI (A + 1) ∧ ((s = 0 ∧ A = 5) ∨ (s = 1 ∧ A = 3)) := by
        rcases (by omega : s = 0 ∨ s = 1) with e | e <;> subst e
        · exact ⟨5, by decide, Or.inl ⟨rfl, rfl⟩⟩
        · exact ⟨3, by decide, Or.inr ⟨rfl, rfl⟩⟩
      unfold wp_X11_wish_24
      rw [hA1]
      exact Or.inl ⟨_, z_range0 ok (by omega) (by omega), Or.inl ⟨_, z_range0 ok (by omega) (by decide), fin⟩⟩
    · obtain ⟨A, hA1, hA3⟩ : ∃ A, (if nI s = nI 2 then nI 5 else nI 20) = nI (A + 1) ∧ ((s = 2 ∧ A = 4) ∨ (s = 3 ∧ A = 19)) := by
        rcases (by omega : s = 2 ∨ s = 3) with e | e <;> subst e
        · exact ⟨4, by decide, Or.inl ⟨rfl, rfl⟩⟩
        · exact ⟨19, by decide, Or.inr ⟨rfl, rfl⟩⟩
      unfold wp_X11_wish_59
      rw [hA1]
      exact Or.inl ⟨_, z_range0 ok (by omega) (by omega), Or.inl ⟨_, z_requireLesson0 ok hC v (by omega), fin⟩⟩
    · obtain ⟨a1, a2, a3⟩ := w7 (by omega)
      refine ⟨fun _ => Or.inl ⟨_, z_requireLesson0 ok hC v a1, Or.inl ⟨_, z_requireLesson0 ok hC v a2, fin⟩⟩, fun e => absurd ((nI_eq (by omega) (by omega)).mp e) a3⟩
  have v0 : okD (zNoT D) := okD_noT v
  exact ⟨τ, hc, okD_aw v0 hn ⟨w1, w2, w3, w4, w5, w6, w7⟩, by rw [t2]; exact repC_aw v0 (repC_noT v hC) hn, kH_e bH (hτ 4 (by decide)), fun b h2 h3 h4 h5 h30 => by rw [hτ b h2, eB b h4 h5 h30], fun k hk => by rw [hτ 30 (by decide), e30 k hk]⟩
/-- what find leaves alone -/
def kFd (σ σ' : sj_S) : Prop := ∀ b, (5 < b ∧ b < 18) ∨ b = 29 ∨ 35 < b → σ' b = σ b
theorem k_find (ok : sj_ok G) (v : okD D) (hC : repC D (σ 2)) (hH : kH σ) (hr : r + 200 < 2 ^ 27) (hd : zRd σ r) :
    ∃ (b : Bool) (σ' : sj_S), sj_C G 123 me_X11_find [.ref (sj_ad G 0)] σ (.ok (if b then nI 1 else nI 0), σ') ∧ kFd σ σ' ∧ kH σ' ∧ (∃ r', r' ≤ r + 200 ∧ zRd σ' r') ∧
      (b = true → ∃ T, zFst D (zHd D) T ∧ (∀ l, l < dN D → σ' 3 l = nI (T l)) ∧ σ' 2 = upd (σ 2) 2 (nI 1) ∧ σ' 30 3 = -1) ∧
      (b = false → (∀ T, ¬ zRi D (zHd D) T) ∧ σ' 2 = σ 2 ∧ σ' 3 = σ 3 ∧ ∃ U : Nat → Bool, zPf D U (dW D) ∧ σ' 30 3 = nI (q_cnt (zHu D U) (dW D)) ∧ zPl (zHu D U) (σ' 32) (dW D)) := by
  have h9 := v.1
  obtain ⟨b, σ1, s1, s2, ⟨r1, r2, r3, r4⟩, s5, s6⟩ := z_seekFirst ok hC v hr hd
  have H1 : kH σ1 := kH_e hH (s2.1 4 (by decide))
  cases hb : b
  · rw [hb] at s1
    have σ2 : σ1 2 = σ 2 := s2.1 2 (by decide)
    obtain ⟨σ5, U, p1, p2, ⟨q1, q2, q3, q4⟩, p5, p6, p7⟩ := z_seekProof (σ := σ1) ok (by rw [σ2]; exact hC) v (by omega) r4
    refine ⟨false, σ5, c_X11_find ok ⟨_, _, s1, fun q => absurd z_00 q, fun _ => ⟨_, p1, rfl⟩⟩, fun x hx => by rw [p2.1 x (by omega), s2.1 x (by omega)], kH_e H1 (p2.1 4 (by decide)), ⟨q1, by omega, q4⟩, fun q => (by cases q), fun _ => ⟨s6 hb, by rw [p2.1 2 (by decide), σ2], by rw [p2.1 3 (by decide), s2.1 3 (by decide)], U, p5, p6, p7⟩⟩
  · rw [hb] at s1
    obtain ⟨T, t1, t2⟩ := s5 hb
    obtain ⟨B, hB, eB, e30, eP, bH, -⟩ := k_begin (σ := σ1) ok H1
    have hpt := z_putTable (σ := B) (sl := 31) ok ⟨rfl, by decide, rfl⟩
    generalize eχ : sj_up (sj_st B 2 2 (nI 1)) 3 (va_cpy (sj_st B 2 2 (nI 1) 31) (sj_st B 2 2 (nI 1) 3) 0 0 9) = χ at hpt
    have χn : ∀ b, b ≠ 2 → b ≠ 3 → χ b = B b := fun b h1 h2 => by rw [← eχ, z_upn h2, z_stn h1]
    refine ⟨true, χ, c_X11_find ok ⟨_, _, s1, fun _ => ⟨_, hB, _, hpt, rfl⟩, fun q => absurd q z_10⟩, fun x hx => by rw [χn x (by omega) (by omega), eB x (by omega) (by omega) (by omega), s2.1 x (by omega)], kH_e bH (χn 4 (by decide) (by decide)), ⟨r1, by omega, ?_⟩, fun _ => ⟨T, t1, fun i hi => ?_, ?_, by rw [χn 30 (by decide) (by decide), eP]⟩, fun q => by cases q⟩
    · refine ⟨by rw [χn 30 (by decide) (by decide), e30 7 (by decide)]; exact r4.1, by rw [χn 33 (by decide) (by decide), eB 33 (by decide) (by decide) (by decide)]; exact r4.2⟩
    · rw [← eχ, sj_up_s]
      unfold va_cpy
      rw [if_pos (by omega), z_stn (by decide), eB 31 (by decide) (by decide) (by decide), show 0 + (i - 0) = i by omega]
      exact t2 i hi
    · rw [← eχ, z_upn (by decide), z_sta, eB 2 (by decide) (by decide) (by decide), s2.1 2 (by decide)]
theorem k_proof (ok : sj_ok G) : sj_C G 2 me_X11_proof [.ref (sj_ad G 0)] σ (.ok (σ 30 3), σ) := c_X11_proof ok rfl
theorem k_proofAt (ok : sj_ok G) {q j : Nat} (hp : σ 30 3 = nI q) (hj : j < q) (hq : q ≤ 12) : sj_C G 9 me_X11_proofAt [.ref (sj_ad G 0), .int (nI j)] σ (.ok (σ 32 j), σ) := by
  refine c_X11_proofAt ok ⟨fun h => absurd h (nI_pos (by omega)), fun _ => ⟨fun _ => ⟨z_in (by omega) (by decide), by rw [nI_clamp (by omega)]⟩, fun h => absurd (by rw [hp]; exact nI_lt hj (by omega)) h⟩⟩
theorem k_slotOf (ok : sj_ok G) (v : okD D) (hC : repC D (σ 2)) (hq : dT D = 1) {l : Nat} (hl : l < dN D) : sj_C G 10 me_X11_slotOf [.ref (sj_ad G 0), .int (nI l)] σ (.ok (σ 3 l), σ) := by
  have h9 := v.1
  refine c_X11_slotOf ok (Or.inl ⟨_, z_requireLesson0 ok hC v hl, Or.inl ⟨_, z_requireTable0 ok (hC.2.2.1.trans (by rw [hq])), z_in (by omega) (by decide), by rw [nI_clamp (by omega)]⟩⟩)
theorem k_checksum0 (ok : sj_ok G) (hC : repC D (σ 2)) (hq : dT D = 0) : sj_C G 3 me_X11_checksum [.ref (sj_ad G 0)] σ (.ok (nI 0), σ) := by
  have c2 : σ 2 2 = nI 0 := hC.2.2.1.trans (by rw [hq])
  have ht := z_hasTable (σ := σ) ok
  rw [c2, if_pos nI_0] at ht
  exact c_X11_checksum ok ⟨_, _, ht, fun q => absurd z_00 q, fun _ => rfl⟩
theorem k_checksum1 (ok : sj_ok G) (v : okD D) (hC : repC D (σ 2)) (hq : dT D = 1) (hT : ∀ l, l < dN D → σ 3 l = nI (T l)) : sj_C G 3 me_X11_checksum [.ref (sj_ad G 0)] σ (.ok (zSum T (dN D) 0 (nI 17)), σ) := by
  have h9 := v.1
  have c2 : σ 2 2 = nI 1 := hC.2.2.1.trans (by rw [hq])
  have key : ∀ k i x, i + k = dN D → sj_J G 3 me_X11_checksum (.ok (zSum T k i x), σ) 17 [.ref (sj_ad G 0), .int x, .int (nI i)] σ [] := by
    intro k
    induction k with
    | zero =>
      intro i x hi
      refine t_X11_checksum_17 ⟨_, _, z_lessonTotal ok, fun _ => rfl, fun q => ?_⟩
      rw [hC.1] at q
      exact absurd (nI_le (by omega) (by omega)) q
    | succ k ih =>
      intro i x hi
      refine t_X11_checksum_17 ⟨_, _, z_lessonTotal ok, fun q => ?_, fun _ => ⟨z_in (by omega) (by decide), ?_⟩⟩
      · rw [hC.1] at q
        exact absurd q (nI_ge (by omega) (by omega))
      · rw [nI_clamp (by omega), hT i (by omega), nI_add]
        exact ih (i + 1) _ (by omega)
  have ht := z_hasTable (σ := σ) ok
  rw [c2, if_neg z_10] at ht
  exact c_X11_checksum ok ⟨_, _, ht, fun _ => key (dN D) 0 (nI 17) (by omega), fun q => absurd q z_10⟩
end K1
