/-! gapsOf; the pair of gaps -/
section ZPG
variable {G : sj_G} {σ : sj_S} {D : zD} {T : Nat → Nat}
theorem zThen_none {b p s : Nat} : ∀ k i, (zThen D T b p s k i = none ↔ ∀ j, i ≤ j → j < i + k → ¬ (dP D b j = p ∧ zTk D T j s = true)) := by
  intro k
  induction k with
  | zero => intro i; exact ⟨fun _ j h1 h2 => absurd h1 (by omega), fun _ => rfl⟩
  | succ k ih =>
    intro i
    by_cases q : dP D b i = p ∧ zTk D T i s = true
    · have e : zThen D T b p s (k + 1) i = some i := by unfold zThen; rw [if_pos q]
      rw [e]
      exact ⟨fun h => (nomatch h), fun h => absurd q (h i (Nat.le_refl i) (by omega))⟩
    · have e : zThen D T b p s (k + 1) i = zThen D T b p s k (i + 1) := by
        show (if dP D b i = p ∧ zTk D T i s = true then some i else zThen D T b p s k (i + 1)) = _
        rw [if_neg q]
      rw [e, ih (i + 1)]
      constructor
      · intro h j h1 h2
        by_cases hj : j = i
        · subst hj; exact q
        · exact h j (by omega) (by omega)
      · intro h j h1 h2
        exact h j (by omega) (by omega)
theorem zThen_lt {b p s : Nat} : ∀ k i j, zThen D T b p s k i = some j → j < i + k := by
  intro k
  induction k with
  | zero => intro i j h; exact nomatch h
  | succ k ih =>
    intro i j h
    have e : zThen D T b p s (k + 1) i = (if dP D b i = p ∧ zTk D T i s = true then some i else zThen D T b p s k (i + 1)) := rfl
    rw [e] at h
    split at h
    · cases h; omega
    · have := ih (i + 1) j h
      omega
theorem zOp_m1 {b p s n : Nat} (hn : n < 2 ^ 31) : (zOp (zThen D T b p s n 0) = -1) = (zAny D b p T s n = false) := by
  rw [eq_iff_iff, ← Bool.not_eq_true, zAny_iff]
  cases h : zThen D T b p s n 0 with
  | none =>
    refine ⟨fun _ => ?_, fun _ => rfl⟩
    rintro ⟨l, h1, h2⟩
    exact (zThen_none n 0).mp h l (Nat.zero_le l) (by omega) h2
  | some k =>
    have hk := zThen_lt n 0 k h
    refine ⟨fun e => ?_, fun q => ?_⟩
    · exfalso
      have e : nI k = -1 := e
      exact absurd (by rw [e]; decide : nI k < 0) (nI_pos (by omega))
    · exfalso
      have : zThen D T b p s n 0 = none := (zThen_none n 0).mpr (fun j _ h2 h3 => q ⟨j, by omega, h3⟩)
      rw [h] at this
      cases this
def zAh (f : Nat → Bool) (s d : Nat) : Nat → Bool
  | 0 => false
  | j + 1 => zAh f s d j || (f (4 * d + j) && decide (4 * d + j < s))
def zBh (f : Nat → Bool) (s d : Nat) : Nat → Bool
  | 0 => false
  | j + 1 => zBh f s d j || (f (4 * d + j) && decide (s < 4 * d + j))
theorem zGp_ab (f : Nat → Bool) {s : Nat} (h : f s = false) : (zAh f s (s / 4) 4 && zBh f s (s / 4) 4) = zGp f s := by
  obtain ⟨d, r, hr, rfl⟩ : ∃ d r, r < 4 ∧ s = 4 * d + r := ⟨s / 4, s % 4, by omega, by omega⟩
  have e1 : (4 * d + r) / 4 = d := by omega
  have e2 : (4 * d + r) % 4 = r := by omega
  rw [e1]
  unfold zGp
  rw [e2, h]
  rcases (by omega : r = 0 ∨ r = 1 ∨ r = 2 ∨ r = 3) with e | e | e | e <;> subst e
  · have n1 : ¬ 4 * d + 1 < 4 * d := by omega
    have n2 : ¬ 4 * d + 2 < 4 * d := by omega
    have n3 : ¬ 4 * d + 3 < 4 * d := by omega
    simp [zAh, zBh, n1, n2, n3]
  · have a1 : 4 * d + 1 - 1 = 4 * d := by omega
    have a2 : 1 + (4 * d + 1) = 4 * d + 2 := by omega
    have a3 : 2 + (4 * d + 1) = 4 * d + 3 := by omega
    have n1 : ¬ 4 * d + 1 < 4 * d := by omega
    simp [zAh, zBh, a1, a2, a3, n1]
  · have a1 : 4 * d + 2 - 1 = 4 * d + 1 := by omega
    have a2 : 4 * d + 2 - 2 = 4 * d := by omega
    have a3 : 1 + (4 * d + 2) = 4 * d + 3 := by omega
    have n1 : ¬ 4 * d + 2 < 4 * d := by omega
    simp [zAh, zBh, a1, a2, a3, n1, Bool.or_comm]
  · simp [zAh, zBh]
theorem zGp_t (f : Nat → Bool) {s : Nat} (h : f s = true) : zGp f s = false := by
  unfold zGp
  rw [h]; simp
theorem z_nor (a b : Bool) : (if a then nI 1 else nI 0) ||| (if b then nI 1 else nI 0) = if (a || b) then nI 1 else nI 0 := by
  cases a <;> cases b <;> decide
theorem z_b2n (b : Bool) : (if b then nI 1 else nI 0) = nI (if b then 1 else 0) := by cases b <;> rfl
theorem z_nz (b : Bool) : ((if b then nI 1 else nI 0) = 0) = (b = false) := by cases b <;> simp <;> decide
theorem y_gapsOf (ok : sj_ok G) (hM : repM D (σ 57)) (v : okD D) (hT : ∀ l, l < dN D → σ 59 l = nI (T l) ∧ T l < 40) {b p : Nat} (hb : b ≤ 1) (hp : p < 2 ^ 31) : sj_C G 5 me_X12_gapsOf [.ref (sj_ad G 56), .int (nI b), .int (nI p)] σ (.ok (nI (q_cnt (zGp (fun i => zAny D b p T i (dN D))) 20)), σ) := by
  have h9 := v.1
  have hq : ∀ s, s < 2 ^ 31 → sj_C G 4 me_X12_lessonThen [.ref (sj_ad G 56), .int (nI b), .int (nI p), .int (nI s)] σ (.ok (zOp (zThen D T b p s (dN D) 0)), σ) := fun s hs => y_lessonThen ok hM v hT hb hp hs
  have hz : ∀ s, (zOp (zThen D T b p s (dN D) 0) = -1) = (zAny D b p T s (dN D) = false) := fun s => zOp_m1 (by omega)
  generalize ef : (fun i => zAny D b p T i (dN D)) = f
  have hf : ∀ s, zAny D b p T s (dN D) = f s := fun s => by rw [← ef]
  refine c_X12_gapsOf ok ?_
  unfold wp_X12_gapsOf_0
  have key : ∀ k s, s + k = 20 → sj_J G 5 me_X12_gapsOf (.ok (nI (q_cnt (zGp f) 20)), σ) 5 [.ref (sj_ad G 56), .int (nI b), .int (nI p), .int (nI (q_cnt (zGp f) s)), .int (nI s), .null, .null, .null, .null, .null] σ [] := by
    intro k
    induction k with
    | zero =>
      intro s hs
      have : s = 20 := by omega
      subst this
      exact t_X12_gapsOf_5 ⟨fun _ => rfl, fun h => absurd (nI_le (by omega) (by omega)) h⟩
    | succ k ih =>
      intro s hs
      have h1 := ih (s + 1) (by omega)
      have eq1 : q_cnt (zGp f) (s + 1) = q_cnt (zGp f) s + (if zGp f s then 1 else 0) := rfl
      refine t_X12_gapsOf_5 ⟨fun h => absurd h (nI_ge (by omega) (by omega)), fun _ => ⟨_, _, hq s (by omega), fun h => ?_, fun h => ?_⟩⟩
      · rw [hz, hf] at h
        have ed : nI s / nI 4 = nI (s / 4) := pk_div (by omega) (by decide) (by decide)
        rw [ed, pk_mul]
        have key2 : ∀ m j, j + m = 4 → sj_J G 5 me_X12_gapsOf (.ok (nI (q_cnt (zGp f) 20)), σ) 45 [.ref (sj_ad G 56), .int (nI b), .int (nI p), .int (nI (q_cnt (zGp f) s)), .int (nI s), .int (if zAh f s (s / 4) j then nI 1 else nI 0), .int (if zBh f s (s / 4) j then nI 1 else nI 0), .int (nI (s / 4)), .int (nI (4 * (s / 4) + j)), .null] σ [] := by
          intro m
          induction m with
          | zero =>
            intro j hj
            have : j = 4 := by omega
            subst this
            refine t_X12_gapsOf_45 ⟨fun _ => ?_, fun h => ?_⟩
            · unfold wp_X12_gapsOf_141 wp_X12_gapsOf_143
              have e : (if (if zAh f s (s / 4) 4 = true then nI 1 else nI 0) = 0 then nI 0 else if (if zBh f s (s / 4) 4 = true then nI 1 else nI 0) = 0 then nI 0 else nI 1) = nI (if zGp f s then 1 else 0) := by
                rw [← zGp_ab f h]
                cases zAh f s (s / 4) 4 <;> cases zBh f s (s / 4) 4 <;> decide
              rw [e, nI_add, nI_add, ← eq1]
              exact h1
            · rw [pk_mul, nI_add] at h
              exact absurd (nI_le (by omega) (by omega)) h
          | succ m ihm =>
            intro j hj
            have h2 := ihm (j + 1) (by omega)
            refine t_X12_gapsOf_45 ⟨fun h => ?_, fun _ => ⟨_, _, hq (4 * (s / 4) + j) (by omega), ?_⟩⟩
            · rw [pk_mul, nI_add] at h
              exact absurd h (nI_ge (by omega) (by omega))
            · unfold wp_X12_gapsOf_73 wp_X12_gapsOf_94 wp_X12_gapsOf_116
              have e3 : (if zOp (zThen D T b p (4 * (s / 4) + j) (dN D) 0) = -1 then nI 0 else nI 1) = (if f (4 * (s / 4) + j) then nI 1 else nI 0) := by
                simp only [hz, hf]
                cases f (4 * (s / 4) + j) <;> rfl
              rw [e3]
              have e4 : (if (if f (4 * (s / 4) + j) = true then nI 1 else nI 0) = 0 then nI 0 else if nI s ≤ nI (4 * (s / 4) + j) then nI 0 else nI 1) = (if (f (4 * (s / 4) + j) && decide (4 * (s / 4) + j < s)) then nI 1 else nI 0) := by
                by_cases r : s ≤ 4 * (s / 4) + j
                · rw [if_pos (nI_le r (by omega)), decide_eq_false (by omega)]
                  cases f (4 * (s / 4) + j) <;> rfl
                · rw [if_neg (nI_ge (by omega) (by omega)), decide_eq_true (by omega)]
                  cases f (4 * (s / 4) + j) <;> rfl
              have e5 : (if (if f (4 * (s / 4) + j) = true then nI 1 else nI 0) = 0 then nI 0 else if nI (4 * (s / 4) + j) ≤ nI s then nI 0 else nI 1) = (if (f (4 * (s / 4) + j) && decide (s < 4 * (s / 4) + j)) then nI 1 else nI 0) := by
                by_cases r : 4 * (s / 4) + j ≤ s
                · rw [if_pos (nI_le r (by omega)), decide_eq_false (by omega)]
                  cases f (4 * (s / 4) + j) <;> rfl
                · rw [if_neg (nI_ge (by omega) (by omega)), decide_eq_true (by omega)]
                  cases f (4 * (s / 4) + j) <;> rfl
              rw [e4, e5, z_nor, z_nor, nI_add]
              exact h2
        exact key2 4 0 (by omega)
      · rw [hz, hf, Bool.not_eq_false] at h
        unfold wp_X12_gapsOf_143
        have e : q_cnt (zGp f) (s + 1) = q_cnt (zGp f) s := by rw [eq1, zGp_t f h]; rfl
        rw [e] at h1
        rw [nI_add]
        exact h1
  exact key 20 0 (by omega)
theorem p_gaps (ok : sj_ok G) (h : zA σ) (b : Bool) (x : Int32) : zPair G (zI2 σ) 12 me_X11_gaps 6 me_X12_gaps [.int (if b then nI 1 else nI 0), .int x] (zcd 1 2 0) σ := by
  obtain ⟨D, T, v, hC, hM, hT⟩ := h.1
  have h9 := v.1
  obtain ⟨c, P, hc1, eb, hP, h4, h3⟩ := z_who b
  rw [eb]
  have e57 : sj_st σ 56 0 (nI 0) 57 = σ 57 := z_stn (by decide)
  have hM0 : repM D (sj_st σ 56 0 (nI 0) 57) := by rw [e57]; exact hM
  rcases z_rg x (P + 1) with ⟨p, hp, rfl⟩ | hx
  · by_cases hq : dT D = 1
    · obtain ⟨hT, -⟩ := hT hq
      have hR : repT (dN D) T (σ 3) := fun l hl => ⟨(hT l hl).1, (hT l hl).2.2⟩
      obtain ⟨σ', hlk, f1, f2, f3⟩ := y_looksAtTable (σ := sj_st σ 56 0 (nI 0)) ok h9 hM0.1
      have f57 : σ' 57 = σ 57 := by rw [f1 57 (by decide) (by decide), e57]
      have hg := y_gapsOf (σ := σ') (T := T) (b := c) (p := p) ok (by rw [f57]; exact hM) v (fun l hl => ⟨by rw [f2 l hl, e57]; exact (hT l hl).2.1, by have := (hT l hl).2.2; omega⟩) hc1 (by omega)
      have hs := z_slotsOfPerson (σ := σ) (b := c) (p := p) ok hC v z_sl3 hc1 (by omega) hR
      have hi := z_gapsIn (σ := σ) ok (zSp D c p T (dN D))
      have ec : q_cnt (zGp (bt (zSp D c p T (dN D)))) 20 = q_cnt (zGp (fun i => zAny D c p T i (dN D))) 20 := by
        refine q_cnt_congr 20 (fun i hi => ?_)
        have hb : ∀ i, i < 32 → bt (zSp D c p T (dN D)) i = zAny D c p T i (dN D) := fun i hi => zSp_bt hi (dN D) (fun l hl => by have := (hT l hl).2.2; omega)
        unfold zGp
        rw [hb i (by omega), hb (i - 1) (by omega), hb (i - 2) (by omega), hb (i - 3) (by omega), hb (1 + i) (by omega), hb (2 + i) (by omega), hb (3 + i) (by omega)]
      rw [ec] at hi
      exact ⟨_, _, _, _, c_X11_gaps ok (Or.inl ⟨_, z_person0 ok h4 hP hp, Or.inl ⟨_, z_requireTable0 ok (hC.2.2.1.trans (by rw [hq])), _, _, hs, _, _, hi, rfl⟩⟩), c_X12_gaps ok ⟨_, _, y_noWho0 ok zT00 h3 hP hp, fun q => absurd nI_0 q, fun _ => ⟨_, _, y_noTable0 ok zT00 (hM0.2.2.1.trans (by rw [hq])), fun _ => ⟨_, hlk, _, _, hg, rfl⟩, fun q => absurd nI_0 q⟩⟩, zSame_ok (by rw [f1 56 (by decide) (by decide), z_ste]) rfl, zI2_lk h f1⟩
    · have hq := zT_of v hq
      exact ⟨_, _, _, _, c_X11_gaps ok (Or.inl ⟨_, z_person0 ok h4 hP hp, Or.inr ⟨_, _, z_requireTable1 ok (hC.2.2.1.trans (by rw [hq])), rfl⟩⟩), c_X12_gaps ok (R := (.ok (nI 0), sj_st (sj_st σ 56 0 (nI 0)) 56 0 (nI 2))) ⟨_, _, y_noWho0 ok zT00 h3 hP hp, fun q => absurd nI_0 q, fun _ => ⟨_, _, y_noTable1 ok zT00 (hM0.2.2.1.trans (by rw [hq])) (by decide), fun q => absurd q z_10, fun _ => rfl⟩⟩, zSame_er (by decide) z_ste, zI2_th2 h⟩
  · exact ⟨_, _, _, _, c_X11_gaps ok (Or.inr ⟨_, _, z_person1 ok h4 hP hx, rfl⟩), c_X12_gaps ok (R := (.ok (nI 0), sj_st (sj_st σ 56 0 (nI 0)) 56 0 (nI 1))) ⟨_, _, y_noWho1 ok zT00 h3 hP hx, fun _ => rfl, fun q => absurd q z_10⟩, zSame_er (by decide) z_ste, zI2_th2 h⟩
end ZPG
