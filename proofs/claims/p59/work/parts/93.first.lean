/-! FINDER 4: the first table -/
def zLx (l : Nat) (T T' : Nat → Nat) : Prop := (∀ k, k < l → T k = T' k) ∨ ∃ j, j < l ∧ (∀ k, k < j → T k = T' k) ∧ T j < T' j
def zFst (D : zD) (H : Nat → Bool) (T : Nat → Nat) : Prop := zRi D H T ∧ ∀ T', zRi D H T' → zLx (dN D) T T'
def zOpn (D : zD) (H : Nat → Bool) (l : Nat) (T : Nat → Nat) : Nat → Nat → Bool := fun o i => zOb D H o i (dW D) && (decide (l ≤ o) || decide (i = T o))
def zOpm (O : Nat → Nat → Bool) (l t : Nat) : Nat → Nat → Bool := fun o i => O o i && (!decide (o = l) || decide (i < t))
theorem zRi_ob {D : zD} {H : Nat → Bool} {T : Nat → Nat} (v : okD D) (h : zRi D H T) {l : Nat} (hl : l < dN D) : zOb D H l (T l) (dW D) = true := by
  obtain ⟨h1, h2, h3, -⟩ := h l hl
  have e : zOb D H l (T l) (dW D) = ((decide (dKi D l = 0) || decide (0 < dRo D (dKi D l - 1))) && zSt D H l (T l)) := rfl
  rw [e, h2, Bool.and_true]
  unfold zRm at h3
  rw [Bool.or_eq_true, Bool.and_eq_true, decide_eq_true_eq, decide_eq_true_eq] at h3
  rw [Bool.or_eq_true, decide_eq_true_eq, decide_eq_true_eq]
  rcases h3 with q | ⟨q, -⟩
  · exact Or.inl q
  · exact Or.inr (by omega)
theorem zFst_uni {D : zD} {H : Nat → Bool} {T U : Nat → Nat} (h : zFst D H T) (g : zFst D H U) : ∀ l, l < dN D → T l = U l := by
  rcases h.2 U g.1 with q | ⟨j, j1, j2, j3⟩
  · exact q
  · rcases g.2 T h.1 with q | ⟨i, i1, i2, i3⟩
    · exact fun l hl => (q l hl).symm
    · exfalso
      rcases Nat.lt_trichotomy i j with x | x | x
      · have := j2 i x
        omega
      · subst x; omega
      · have := i2 j x
        omega
theorem zRuO_st {D : zD} {H : Nat → Bool} {O O' : Nat → Nat → Bool} {σ : sj_S} {l : Nat} {w : Int32} (h : zRuO D H O σ 18) (hw : ∀ i, i < 32 → bt w i = (decide (i < 20) && O' l i)) (he : ∀ o, o < dN D → o ≠ l → ∀ i, O' o i = O o i) : zRuO D H O' (sj_st σ 19 l w) 18 := by
  obtain ⟨h0, hL⟩ := h
  refine ⟨by rw [z_stn (by decide)]; exact h0, fun o ho => ?_⟩
  obtain ⟨r1, r2⟩ := hL o ho
  rw [z_stn (show 18 + 2 ≠ 19 by decide), z_stn (show 18 + 3 ≠ 19 by decide), z_stn (show 18 + 4 ≠ 19 by decide), z_stn (show 18 + 5 ≠ 19 by decide), z_stn (show 18 + 6 ≠ 19 by decide), z_stn (show 18 + 7 ≠ 19 by decide), z_stn (show 18 + 8 ≠ 19 by decide), z_stn (show 18 + 9 ≠ 19 by decide), z_stn (show 18 + 10 ≠ 19 by decide)]
  refine ⟨fun i hi => ?_, r2⟩
  by_cases e : o = l
  · subst e
    rw [show (18 + 1 : Nat) = 19 from rfl, z_ste]
    exact hw i hi
  · rw [show (18 + 1 : Nat) = 19 from rfl, z_sti e, he o ho e]
    exact r1 i hi
section ZFS
variable {G : sj_G} {σ : sj_S} {D : zD} {H : Nat → Bool} {r : Nat}
def zFk (σ σ' : sj_S) : Prop := (∀ x, (x < 18 ∨ x = 29 ∨ x = 32 ∨ 35 < x) → σ' x = σ x) ∧ ∀ k, k ≠ 7 → σ' 30 k = σ 30 k
theorem zFk_r : zFk σ σ := ⟨fun _ _ => rfl, fun _ _ => rfl⟩
theorem zFk_t {a b c : sj_S} (h : zFk a b) (g : zFk b c) : zFk a c := ⟨fun x hx => (g.1 x hx).trans (h.1 x hx), fun k hk => (g.2 k hk).trans (h.2 k hk)⟩
def zRd (σ : sj_S) (r : Nat) : Prop := σ 30 7 = nI r ∧ zMz r (σ 33)
def zNrw (G : sj_G) (D : zD) (H : Nat → Bool) (l : Nat) (T : Nat → Nat) (σ : sj_S) (r k : Nat) (P : sj_R → Prop) : Prop := ∃ (σ' : sj_S) (U : Nat → Nat) (r' : Nat),
  (∀ R : sj_R, sj_J G 122 me_X4_seekFirst R 23 [.ref (sj_ad G 30), .null, .int (nI (l + 1)), .null, .null, .null] σ' [] → P R) ∧ zFk σ σ' ∧ r ≤ r' ∧ r' ≤ r + k ∧ zRd σ' r' ∧ (∀ o, o < l → U o = T o) ∧ zRuO D H (zOpn D H (l + 1) U) σ' 18 ∧ zSol D H (zOpn D H (l + 1) U) U ∧ (∀ o, o < dN D → σ' 31 o = nI (U o)) ∧ ∀ V, zSol D H (zOpn D H l T) V → U l ≤ V l
theorem z_narrow0 (v : okD D) {l : Nat} (hl : l < dN D) {σ : sj_S} {T : Nat → Nat} {r : Nat} (k : Nat) (hR : ∃ O0, zRuO D H O0 σ 18 ∧ ∀ o, o < dN D → o ≠ l → ∀ i, O0 o i = zOpn D H l T o i) (hS : zSol D H (zOpn D H l T) T) (hT : ∀ o, o < dN D → σ 31 o = nI (T o)) (hd : zRd σ r) (hmin : ∀ U, zSol D H (zOpn D H l T) U → T l ≤ U l) :
    zNrw G D H l T σ r k (fun R => wp_X4_seekFirst_95 G R (nI l) σ) := by
  have h9 := v.1
  have kl : (nI l).toNatClampNeg = l := nI_clamp (by omega)
  have hin : vp_in (nI l) 9 := z_in (by omega) (by decide)
  obtain ⟨O0, hR1, hR2⟩ := hR
  have t20 := (hS.1 l hl).1
  have hon : ∀ o, o < dN D → o ≠ l → ∀ i, zOpn D H (l + 1) T o i = O0 o i := fun o ho hne i => by
    rw [hR2 o ho hne]
    unfold zOpn
    rw [decide_eq_decide.mpr (by omega : l + 1 ≤ o ↔ l ≤ o)]
  have hobl := zRi_ob v hS.1 hl
  refine ⟨sj_st σ 19 l (nI 1 <<< (nI (T l) &&& 31)), T, r, fun R hR => ⟨hin, hin, ?_⟩, ⟨fun x hx => z_stn (by omega), fun k _ => by rw [z_stn (by decide)]⟩, Nat.le_refl r, by omega, ⟨by rw [z_stn (by decide)]; exact hd.1, by rw [z_stn (by decide)]; exact hd.2⟩, fun _ _ => rfl, zRuO_st hR1 (fun i hi => ?_) hon, ⟨hS.1, fun o ho => ?_⟩, fun o ho => by rw [z_stn (by decide)]; exact hT o ho, hmin⟩
  · rw [kl, hT l hl, nI_add]
    exact hR
  · rw [z_shl1 (by omega) hi]
    unfold zOpn
    rw [decide_eq_false (by omega : ¬ l + 1 ≤ l), Bool.false_or]
    by_cases e : i = T l
    · subst e
      rw [hobl, decide_eq_true t20, decide_eq_true rfl]; rfl
    · rw [decide_eq_false e, Bool.and_false, Bool.and_false]
  · unfold zOpn
    rw [zRi_ob v hS.1 ho, decide_eq_true (rfl : T o = T o), Bool.or_true]; rfl
theorem z_narrow (ok : sj_ok G) (v : okD D) {l : Nat} (hl : l < dN D) {x3 : Int32} (hx : ∀ i, i < 32 → bt x3 i = (decide (i < 20) && zOb D H l i (dW D))) :
    ∀ k (b : Bool) j (σ : sj_S) (T : Nat → Nat) (r : Nat), j + k = 20 → r + k < 2 ^ 27 → (∃ O0, zRuO D H O0 σ 18 ∧ ∀ o, o < dN D → o ≠ l → ∀ i, O0 o i = zOpn D H l T o i) → zSol D H (zOpn D H l T) T → (∀ o, o < dN D → σ 31 o = nI (T o)) → zRd σ r → (b = true → T l + j < 20) → (b = false → ∀ U, zSol D H (zOpn D H l T) U → T l ≤ U l) →
    zNrw G D H l T σ r k (fun R => sj_J G 122 me_X4_seekFirst R 50 [.ref (sj_ad G 30), .null, .int (nI l), .int x3, .int (if b then nI 1 else nI 0), .int (nI j)] σ []) := by
  have h9 := v.1
  have kl : (nI l).toNatClampNeg = l := nI_clamp (by omega)
  have hin : vp_in (nI l) 9 := z_in (by omega) (by decide)
  intro k
  induction k with
  | zero =>
    intro b j σ T r hj hr hR hS hT hd hb1 hb2
    cases b
    · obtain ⟨σ', U, r', n1, n2⟩ := z_narrow0 (G := G) v hl 0 hR hS hT hd (hb2 rfl)
      exact ⟨σ', U, r', fun R hR => t_X4_seekFirst_50 ⟨fun _ => n1 R hR, fun q => absurd (nI_le (by omega) (by omega)) q⟩, n2⟩
    · have := hb1 rfl
      omega
  | succ k ih =>
    intro b j σ T r hj hr hR hS hT hd hb1 hb2
    cases b
    · obtain ⟨σ', U, r', n1, n2⟩ := z_narrow0 (G := G) v hl (k + 1) hR hS hT hd (hb2 rfl)
      exact ⟨σ', U, r', fun R hR => t_X4_seekFirst_50 ⟨fun _ => n1 R hR, fun _ => ⟨fun _ => n1 R hR, fun q => absurd z_00 q⟩⟩, n2⟩
    · obtain ⟨O0, hR1, hR2⟩ := hR
      have t20 := (hS.1 l hl).1
      have tj := hb1 rfl
      have hon : ∀ o, o < dN D → o ≠ l → ∀ i, zOpm (zOpn D H l T) l (T l) o i = O0 o i := fun o ho hne i => by
        rw [hR2 o ho hne]
        unfold zOpm
        rw [decide_eq_false hne]
        simp
      have hnl : ∀ i, zOpn D H l T l i = zOb D H l i (dW D) := fun i => by
        unfold zOpn
        rw [decide_eq_true (Nat.le_refl l)]
        simp
      have hR3 : zRuO D H (zOpm (zOpn D H l T) l (T l)) (sj_st σ 19 l (x3 &&& ((nI 1 <<< (nI (T l) &&& 31)) - nI 1))) 18 := zRuO_st hR1 (fun i hi => by
        rw [b_and, hx i hi, z_lowm _ t20 i hi]
        unfold zOpm
        rw [hnl, decide_eq_true (rfl : l = l)]
        simp [Bool.and_assoc]) hon
      obtain ⟨b', σ1, c1, c2, c3, ⟨r', r1, r2, r3, r4⟩, c5, c6⟩ := z_isSolvable ok v (r := r) (fun o ho i hi hoi => by
        unfold zOpm zOpn at hoi
        simp only [Bool.and_eq_true] at hoi
        exact hoi.1.1) (by omega) hR3 (by rw [z_stn (by decide)]; exact hd.1) (by rw [z_stn (by decide)]; exact hd.2)
      have fk : zFk σ σ1 := ⟨fun x hx => by rw [c2 x (by omega) (by omega) (by omega) (by omega) (by omega), z_stn (by omega)], fun k hk => by rw [c3 k hk, z_stn (by decide)]⟩
      have step : ∀ R : sj_R, sj_J G 122 me_X4_seekFirst R 50 [.ref (sj_ad G 30), .null, .int (nI l), .int x3, .int (if b' then nI 1 else nI 0), .int (nI (j + 1))] σ1 [] → sj_J G 122 me_X4_seekFirst R 50 [.ref (sj_ad G 30), .null, .int (nI l), .int x3, .int (if true = true then nI 1 else nI 0), .int (nI j)] σ [] := fun R hR => by
        refine t_X4_seekFirst_50 ⟨fun q => absurd q (nI_ge (by omega) (by decide)), fun _ => ⟨fun q => absurd q z_10, fun _ => ⟨hin, hin, ?_⟩⟩⟩
        rw [kl, hT l hl, nI_add]
        exact ⟨_, _, c1, hR⟩
      have hR4 := zRuO_fr hR3 (fun b h1 h2 => c2 b (by omega) (by omega) (by omega) (by omega) (by omega))
      cases hb' : b'
      · rw [hb'] at step
        obtain ⟨d1, d2⟩ := c6 hb'
        obtain ⟨σ', U, r'', n1, f1, f2, f3, n2⟩ := ih false (j + 1) σ1 T r' (by omega) (by omega) ⟨_, hR4, fun o ho hne i => (hon o ho hne i).trans (hR2 o ho hne i)⟩ hS (fun o ho => by rw [d2, z_stn (by decide)]; exact hT o ho) ⟨r3, r4⟩ (fun q => (by cases q)) (fun _ U hU => by
          refine Nat.le_of_not_lt (fun q => d1 U ⟨hU.1, fun o ho => ?_⟩)
          unfold zOpm
          rw [hU.2 o ho, Bool.true_and]
          by_cases e : o = l
          · subst e
            rw [decide_eq_true q, Bool.or_true]
          · rw [decide_eq_false e]; rfl)
        exact ⟨σ', U, r'', fun R hR => step R (n1 R hR), zFk_t fk f1, by omega, by omega, n2⟩
      · rw [hb'] at step
        obtain ⟨U, u1, u2⟩ := c5 hb'
        have uo : ∀ o, o < dN D → zOpn D H l T o (U o) = true ∧ (o = l → U o < T l) := fun o ho => by
          have := u1.2 o ho
          unfold zOpm at this
          rw [Bool.and_eq_true, Bool.or_eq_true, Bool.not_eq_true', decide_eq_false_iff_not, decide_eq_true_eq] at this
          exact ⟨this.1, fun e => this.2.resolve_left (fun q => q e)⟩
        have ul := (uo l hl).2 rfl
        have us : ∀ o, o < l → U o = T o := fun o ho => by
          have := (uo o (by omega)).1
          unfold zOpn at this
          rw [Bool.and_eq_true, Bool.or_eq_true, decide_eq_true_eq, decide_eq_true_eq] at this
          exact this.2.resolve_left (by omega)
        have eO : zOpn D H l U = zOpn D H l T := by
          funext o i
          unfold zOpn
          by_cases q : l ≤ o
          · rw [decide_eq_true q]; rfl
          · rw [us o (by omega)]
        obtain ⟨σ', V, r'', n1, f1, f2, f3, f4, f5, f6, f7, f8, f9⟩ := ih true (j + 1) σ1 U r' (by omega) (by omega) ⟨_, hR4, fun o ho hne i => by rw [eO]; exact (hon o ho hne i).trans (hR2 o ho hne i)⟩ (by rw [eO]; exact ⟨u1.1, fun o ho => (uo o ho).1⟩) u2 ⟨r3, r4⟩ (fun _ => by omega) (fun q => (by cases q))
        exact ⟨σ', V, r'', fun R hR => step R (n1 R hR), zFk_t fk f1, by omega, by omega, f4, fun o ho => (f5 o ho).trans (us o ho), f6, f7, f8, fun W hW => f9 W (by rw [eO]; exact hW)⟩
theorem z_take18 (ok : sj_ok G) (hC : repC D (σ 2)) (v : okD D) {x : Int32} (hx : ∀ w, w < dW D → bt x w = H w) : ∃ τ, sj_C G 5 me_X7_take [.ref (sj_ad G 18), .ref (sj_ad G 1), .int x] σ (.ok 0, τ) ∧ zRuO D H (fun l i => zOb D H l i (dW D)) τ 18 ∧ ∀ k, (k < 18 ∨ 28 < k) → τ k = σ k := by
  obtain ⟨τ, h1, h2, h3⟩ := z_take (b := 18) ok hC v (Or.inr rfl) x
  exact ⟨τ, h1, zRuO_of (zRu_H hx h2), fun k hk => h3 k (fun j hj => by omega)⟩
theorem z_seekFirst (ok : sj_ok G) (hC : repC D (σ 2)) (v : okD D) (hr : r + 200 < 2 ^ 27) (hd : zRd σ r) : ∃ (b : Bool) (σ' : sj_S), sj_C G 122 me_X4_seekFirst [.ref (sj_ad G 30), .ref (sj_ad G 1)] σ (.ok (if b then nI 1 else nI 0), σ') ∧ zFk σ σ' ∧ (∃ r', r ≤ r' ∧ r' ≤ r + 181 ∧ zRd σ' r') ∧
    (b = true → ∃ T, zFst D (zHd D) T ∧ ∀ l, l < dN D → σ' 31 l = nI (T l)) ∧ (b = false → ∀ T, ¬ zRi D (zHd D) T) := by
  have h9 := v.1
  obtain ⟨τ, t1, t2, t3⟩ := z_take18 (σ := σ) ok hC v (zHard_H v)
  have hh := z_hardWishes (σ := σ) ok hC v
  obtain ⟨b, σ1, c1, c2, c3, ⟨r', r1, r2, r3, r4⟩, c5, c6⟩ := z_isSolvable ok v (r := r) (fun o ho i hi hoi => hoi) (by omega) t2 (by rw [t3 30 (by omega)]; exact hd.1) (by rw [t3 33 (by omega)]; exact hd.2)
  have fk : zFk σ σ1 := ⟨fun x hx => by rw [c2 x (by omega) (by omega) (by omega) (by omega) (by omega), t3 x (by omega)], fun k hk => by rw [c3 k hk, t3 30 (by omega)]⟩
  cases hb : b
  · refine ⟨false, σ1, c_X4_seekFirst ok ⟨_, _, hh, _, t1, _, _, c1, fun q => absurd (by rw [hb]; exact z_00) q, fun _ => rfl⟩, fk, ⟨r', r1, by omega, r3, r4⟩, fun q => (by cases q), fun _ T hT => (c6 hb).1 T ⟨hT, fun l hl => zRi_ob v hT hl⟩⟩
  · obtain ⟨T, s1, s2⟩ := c5 hb
    have hR1 := zRuO_fr t2 (fun b h1 h2 => c2 b (by omega) (by omega) (by omega) (by omega) (by omega))
    -- lesson by lesson
    have key : ∀ k l (ρ : sj_S) (T : Nat → Nat) (q : Nat), l + k = dN D → q + 20 * k < 2 ^ 27 → zRuO D (zHd D) (zOpn D (zHd D) l T) ρ 18 → zSol D (zHd D) (zOpn D (zHd D) l T) T → (∀ o, o < dN D → ρ 31 o = nI (T o)) → zRd ρ q → (∀ V, zRi D (zHd D) V → zLx l T V) →
        ∃ (ρ' : sj_S) (q' : Nat) (U : Nat → Nat), (∀ R : sj_R, R = (.ok (nI 1), ρ') → sj_J G 122 me_X4_seekFirst R 23 [.ref (sj_ad G 30), .null, .int (nI l), .null, .null, .null] ρ []) ∧ zFk ρ ρ' ∧ q ≤ q' ∧ q' ≤ q + 20 * k ∧ zRd ρ' q' ∧ zFst D (zHd D) U ∧ ∀ l, l < dN D → ρ' 31 l = nI (U l) := by
      intro k
      induction k with
      | zero =>
        intro l ρ T q hl hq hR hS hT hd hx
        obtain rfl : l = dN D := by omega
        exact ⟨ρ, q, T, fun R hR' => t_X4_seekFirst_23 ⟨fun _ => hR', fun x => by rw [hR.1] at x; exact absurd (nI_le (Nat.le_refl _) (by omega)) x⟩, zFk_r, Nat.le_refl _, by omega, hd, ⟨hS.1, hx⟩, hT⟩
      | succ k ih =>
        intro l ρ T q hl hq hR hS hT hd hx
        have kl : (nI l).toNatClampNeg = l := nI_clamp (by omega)
        have hin : vp_in (nI l) 9 := z_in (by omega) (by decide)
        obtain ⟨ρ1, U, q1, n0, n2, n3, n4, n5, n6, n7, n8, n9, n10⟩ := z_narrow (G := G) (H := zHd D) (x3 := ρ 19 l) ok v (show l < dN D by omega) (fun i hi => by
          rw [show ρ 19 l = ρ (18 + 1) l from rfl, (hR.2 l (by omega)).1 i hi]
          unfold zOpn
          rw [decide_eq_true (Nat.le_refl l)]
          simp) 20 true 0 ρ T q (by decide) (by omega) ⟨_, hR, fun _ _ _ _ => rfl⟩ hS hT hd (fun _ => by have := (hS.1 l (by omega)).1; omega) (fun x => (by cases x))
        have n1 : ∀ R : sj_R, sj_J G 122 me_X4_seekFirst R 23 [.ref (sj_ad G 30), .null, .int (nI (l + 1)), .null, .null, .null] ρ1 [] → sj_J G 122 me_X4_seekFirst R 23 [.ref (sj_ad G 30), .null, .int (nI l), .null, .null, .null] ρ [] := fun R hR' => t_X4_seekFirst_23 ⟨fun x => by rw [hR.1] at x; exact absurd x (nI_ge (by omega) (by omega)), fun _ => ⟨hin, by rw [kl]; exact n0 R hR'⟩⟩
        obtain ⟨ρ', q', W, m1, m2, m3, m4, m5, m6, m7⟩ := ih (l + 1) ρ1 U q1 (by omega) (by omega) n7 n8 n9 n5 (fun V hV => by
          rcases hx V hV with x | ⟨j, j1, j2, j3⟩
          · have hVs : zSol D (zHd D) (zOpn D (zHd D) l T) V := ⟨hV, fun o ho => by
              unfold zOpn
              rw [zRi_ob v hV ho, Bool.true_and]
              by_cases y : l ≤ o
              · rw [decide_eq_true y]; rfl
              · rw [decide_eq_true (x o (by omega)).symm, Bool.or_true]⟩
            have hle := n10 V hVs
            rcases Nat.lt_or_eq_of_le hle with y | y
            · exact Or.inr ⟨l, by omega, fun k hk => (n6 k hk).trans (x k hk), y⟩
            · refine Or.inl (fun k hk => ?_)
              by_cases e : k = l
              · subst e; exact y
              · exact (n6 k (by omega)).trans (x k (by omega))
          · exact Or.inr ⟨j, by omega, fun k hk => (n6 k (by omega)).trans (j2 k hk), by rw [n6 j j1]; exact j3⟩)
        exact ⟨ρ', q', W, fun R hR' => n1 R (m1 R hR'), zFk_t n2 m2, by omega, by omega, m5, m6, m7⟩
    obtain ⟨ρ', q', U, m1, m2, m3, m4, m5, m6, m7⟩ := key (dN D) 0 σ1 T r' (by omega) (by omega) (by
      have e : zOpn D (zHd D) 0 T = fun l i => zOb D (zHd D) l i (dW D) := by
        funext o i
        unfold zOpn
        rw [decide_eq_true (Nat.zero_le o)]
        simp
      rw [e]; exact hR1) ⟨s1.1, fun o ho => by
        unfold zOpn
        rw [decide_eq_true (Nat.zero_le o), zRi_ob v s1.1 ho]; rfl⟩ s2 ⟨r3, r4⟩ (fun V hV => Or.inl (fun k hk => absurd hk (Nat.not_lt_zero k)))
    refine ⟨true, ρ', c_X4_seekFirst ok ⟨_, _, hh, _, t1, _, _, c1, fun _ => m1 _ rfl, fun q => absurd (by rw [hb] at q; exact q) z_10⟩, zFk_t fk m2, ⟨q', by omega, by omega, m5⟩, fun _ => ⟨U, m6, m7⟩, fun q => (by cases q)⟩
end ZFS
