/-! TEXTS 1: the grammar, and the class's reading of it -/
def zDy (b : Int32) : Nat := zLs (fun d => !decide (nI (zLet d) = b)) 5 0
abbrev zPs : Type := Int32 × Nat × Nat × Nat × (Nat → Nat)
def zChr (b : Int32) : Nat := (b - nI 48).toNatClampNeg
def zPn (D : zD) (st : zPs) (b : Int32) : Option zPs :=
  if b = nI 32 ∨ b = nI 10 then some st
  else if st.2.1 = 0 then (if b - nI 48 = nI (zChr b) ∧ zChr b < dN D ∧ bt st.1 (zChr b) = false then some (st.1 ||| (nI 1 <<< (nI (zChr b) &&& 31)), 1, zChr b, st.2.2.2.1, st.2.2.2.2) else none)
  else if st.2.1 = 1 then (if zDy b < 5 then some (st.1, 2, st.2.2.1, zDy b, st.2.2.2.2) else none)
  else if st.2.1 = 2 then (if b - nI 48 = nI (zChr b) ∧ zChr b < 4 - dDb D st.2.2.1 then some (st.1, 3, st.2.2.1, st.2.2.2.1, zEu st.2.2.2.2 st.2.2.1 (4 * st.2.2.2.1 + zChr b)) else none)
  else (if b = nI 59 then some (st.1, 0, st.2.2.1, st.2.2.2.1, st.2.2.2.2) else none)
def zPu (D : zD) (f : Nat → Int32) : Nat → Nat → zPs → Except Nat zPs
  | 0, _, st => .ok st
  | n + 1, k, st => match zPn D st (f k) with
    | none => .error k
    | some st' => zPu D f n (k + 1) st'
theorem zPu_0 {D : zD} {f : Nat → Int32} {k : Nat} {st : zPs} : zPu D f 0 k st = .ok st := rfl
theorem zPu_n {D : zD} {f : Nat → Int32} {n k : Nat} {st : zPs} (h : zPn D st (f k) = none) : zPu D f (n + 1) k st = .error k := by
  show (match zPn D st (f k) with | none => Except.error k | some st' => zPu D f n (k + 1) st') = _
  rw [h]
theorem zPu_s {D : zD} {f : Nat → Int32} {n k : Nat} {st st' : zPs} (h : zPn D st (f k) = some st') : zPu D f (n + 1) k st = zPu D f n (k + 1) st' := by
  show (match zPn D st (f k) with | none => Except.error k | some st' => zPu D f n (k + 1) st') = _
  rw [h]
def zFll (N : Nat) : Int32 := (nI 1 <<< (nI N &&& 31)) - nI 1
def zPe (D : zD) (len : Nat) (r : Except Nat zPs) : Int32 := match r with
  | .error k => nI k
  | .ok st => if st.2.1 = 0 ∧ st.1 = zFll (dN D) then -1 else nI len
def zPok (D : zD) (r : Except Nat zPs) (T : Nat → Nat) : Prop := ∃ st : zPs, r = .ok st ∧ st.2.1 = 0 ∧ st.1 = zFll (dN D) ∧ st.2.2.2.2 = T
def zPv (D : zD) (st : zPs) : Prop := st.2.1 ≤ 3 ∧ (1 ≤ st.2.1 → st.2.2.1 < dN D) ∧ (st.2.1 = 2 → st.2.2.2.1 < 5)
def zPg (D : zD) (st : zPs) (g : Nat → Int32) : Prop := ∀ j, j < dN D → bt st.1 j = true → (j = st.2.2.1 → st.2.1 = 0 ∨ st.2.1 = 3) → g j = nI (st.2.2.2.2 j) ∧ st.2.2.2.2 j < 20 ∧ ¬ (dDb D j = 1 ∧ st.2.2.2.2 j % 4 = 3)
theorem zFll_bt : ∀ N, N < 10 → ∀ i, i < N → bt (zFll N) i = true := by decide +kernel
theorem zChr_of {b : Int32} {j : Nat} (h : b - nI 48 = nI j) (hj : j < 2 ^ 31) : zChr b = j := by
  unfold zChr
  rw [h, nI_clamp hj]
theorem zChr_no {b : Int32} {B : Nat} (h : ∀ j, j < B → ¬ b - nI 48 = nI j) : ¬ (b - nI 48 = nI (zChr b) ∧ zChr b < B) := fun q => h _ q.2 q.1
theorem zDy_5 {b : Int32} : zDy b ≤ 5 := by
  have := (zLs_spec (f := fun d => !decide (nI (zLet d) = b)) 5 0).2.1
  unfold zDy
  omega
section ZTX
variable {G : sj_G} {σ : sj_S} {D : zD}
theorem z_acceptsLesson1 (ok : sj_ok G) (hC : repC D (σ 2)) (v : okD D) {j : Nat} (hj : j < dN D) (hb : bt (σ 52 6) j = false) : sj_C G 3 me_X9_acceptsLesson [.ref (sj_ad G 52), .ref (sj_ad G 1), .int (nI j)] σ (.ok (nI 1), sj_st (sj_st σ 52 6 ((σ 52 6) ||| (nI 1 <<< (nI j &&& 31)))) 52 7 (nI j)) := by
  have h9 := v.1
  refine c_X9_acceptsLesson ok ⟨fun q => absurd q (nI_pos (by omega)), fun _ => ⟨_, _, z_lessonTotal ok, fun q => ?_, fun _ => ⟨fun _ => rfl, fun q => ?_⟩⟩⟩
  · rw [hC.1] at q
    exact absurd q (nI_ge (by omega) (by omega))
  · rw [z_bit (by omega)] at q
    exact absurd hb q
theorem z_acceptsLesson0 (ok : sj_ok G) (hC : repC D (σ 2)) (v : okD D) {x : Int32} (h : ∀ j, j < dN D → x = nI j → bt (σ 52 6) j = true) : sj_C G 3 me_X9_acceptsLesson [.ref (sj_ad G 52), .ref (sj_ad G 1), .int x] σ (.ok (nI 0), σ) := by
  have h9 := v.1
  refine c_X9_acceptsLesson ok ⟨fun _ => rfl, fun h0 => ⟨_, _, z_lessonTotal ok, fun _ => rfl, fun q => ⟨fun q2 => ?_, fun _ => rfl⟩⟩⟩
  exfalso
  obtain ⟨j, hj, rfl⟩ := nI_of h0
  rw [hC.1] at q
  have hjn : j < dN D := by
    apply Classical.byContradiction
    intro r
    exact q (nI_le (by omega) hj)
  rw [z_bit (by omega), h j hjn rfl] at q2
  cases q2
theorem z_acceptsDay (ok : sj_ok G) {l : Nat} (h7 : σ 52 7 = nI l) (hl : l < 9) (x : Int32) : sj_C G 8 me_X9_acceptsDay [.ref (sj_ad G 52), .int x] σ (if zDy x < 5 then (.ok (nI 1), sj_st σ 53 l (nI (zDy x * 4))) else (.ok (nI 0), σ)) := by
  refine c_X9_acceptsDay ok ?_
  unfold wp_X9_acceptsDay_0
  have key : ∀ k i, i + k = 5 → sj_J G 8 me_X9_acceptsDay (if zLs (fun d => !decide (nI (zLet d) = x)) k i < 5 then (.ok (nI 1), sj_st σ 53 l (nI (zLs (fun d => !decide (nI (zLet d) = x)) k i * 4))) else (.ok (nI 0), σ)) 2 [.ref (sj_ad G 52), .int x, .int (nI i)] σ [] := by
    intro k
    induction k with
    | zero =>
      intro i hi
      refine t_X9_acceptsDay_2 ⟨fun _ => ?_, fun q => absurd (nI_le (by omega) (by omega)) q⟩
      show (if i < 5 then _ else _) = _
      rw [if_neg (by omega)]
    | succ k ih =>
      intro i hi
      have h1 := ih (i + 1) (by omega)
      refine t_X9_acceptsDay_2 ⟨fun q => absurd q (nI_ge (by omega) (by omega)), fun _ => ⟨_, _, z_letterOfDay ok (by omega), fun q => ?_, fun q => ?_⟩⟩
      · rw [zLs_s, decide_eq_false q, nI_add]
        exact h1
      · rw [h7, nI_clamp (by omega), pk_mul, zLs_s, decide_eq_true q]
        refine ⟨z_in (by omega) (by decide), ?_⟩
        show (if i < 5 then _ else _) = _
        rw [if_pos (by omega)]
        rfl
  exact key 5 0 (by decide)
theorem z_acceptsHour1 (ok : sj_ok G) (hC : repC D (σ 2)) (v : okD D) {l j a : Nat} (h7 : σ 52 7 = nI l) (hl : l < dN D) (hj : j < 4 - dDb D l) (ha : σ 53 l = nI a) : sj_C G 3 me_X9_acceptsHour [.ref (sj_ad G 52), .ref (sj_ad G 1), .int (nI j)] σ (.ok (nI 1), sj_st σ 53 l (nI (a + j))) := by
  have h9 := v.1
  obtain ⟨-, -, -, -, g5⟩ := v.2.2.2.1 l hl
  have h4 := z_ofLesson (σ := σ) ok (l := l) (k := 4) (by omega) (by omega)
  rw [(hC.2.2.2.1 l hl).2.2.2.2] at h4
  refine c_X9_acceptsHour ok ⟨fun q => absurd q (nI_pos (by omega)), fun _ => ?_⟩
  rw [h7]
  refine ⟨_, _, h4, fun _ => ?_, fun q => ?_⟩
  · rw [h7, nI_clamp (by omega), ha, nI_add]
    exact ⟨z_in (by omega) (by decide), z_in (by omega) (by decide), rfl⟩
  · rw [pk_sub (by omega)] at q
    exact absurd (nI_lt (by omega) (by omega)) q
theorem z_acceptsHour0 (ok : sj_ok G) (hC : repC D (σ 2)) (v : okD D) {l : Nat} {x : Int32} (h7 : σ 52 7 = nI l) (hl : l < dN D) (hx : ∀ j, j < 4 - dDb D l → ¬ x = nI j) : sj_C G 3 me_X9_acceptsHour [.ref (sj_ad G 52), .ref (sj_ad G 1), .int x] σ (.ok (nI 0), σ) := by
  have h9 := v.1
  obtain ⟨-, -, -, -, g5⟩ := v.2.2.2.1 l hl
  have h4 := z_ofLesson (σ := σ) ok (l := l) (k := 4) (by omega) (by omega)
  rw [(hC.2.2.2.1 l hl).2.2.2.2] at h4
  refine c_X9_acceptsHour ok ⟨fun _ => rfl, fun h0 => ?_⟩
  rw [h7]
  refine ⟨_, _, h4, fun q => ?_, fun _ => rfl⟩
  exfalso
  obtain ⟨j, hj, rfl⟩ := nI_of h0
  rw [pk_sub (by omega), nI_ltI hj (by omega)] at q
  exact hx j q rfl
def zPC (D : zD) (σ : sj_S) (len : Nat) (st : zPs) (ρ : sj_S) : Prop := (∀ b, b ≠ 52 → b ≠ 53 → ρ b = σ b) ∧ ρ 52 2 = nI len ∧ ρ 52 4 = σ 52 4 ∧ ρ 52 3 = -1 ∧ ρ 52 6 = st.1 ∧ (1 ≤ st.2.1 → ρ 52 7 = nI st.2.2.1) ∧ (st.2.1 = 2 → ρ 53 st.2.2.1 = nI (4 * st.2.2.2.1)) ∧ zPg D st (ρ 53)
theorem z_accepts (ok : sj_ok G) (hC : repC D (σ 2)) (v : okD D) {len : Nat} {st : zPs} {ρ : sj_S} (hv : zPv D st) (hP : zPC D σ len st ρ) {b : Int32} (hb : ¬ (b = nI 32 ∨ b = nI 10)) :
    (∀ st', zPn D st b = some st' → ∃ ρ', sj_C G 9 me_X9_accepts [.ref (sj_ad G 52), .ref (sj_ad G 1), .int (nI st.2.1), .int b] ρ (.ok (nI 1), ρ') ∧ zPv D st' ∧ zPC D σ len st' ρ' ∧ st'.2.1 = (st.2.1 + 1) % 4) ∧
    (zPn D st b = none → sj_C G 9 me_X9_accepts [.ref (sj_ad G 52), .ref (sj_ad G 1), .int (nI st.2.1), .int b] ρ (.ok (nI 0), ρ)) := by
  have h9 := v.1
  obtain ⟨told, s, l, d, T⟩ := st
  obtain ⟨v1, v2, v3⟩ := hv
  obtain ⟨p1, p2, p3, p4, p5, p6, p7, p8⟩ := hP
  simp only at v1 v2 v3 p5 p6 p7
  have hCρ : repC D (ρ 2) := by rw [p1 2 (by decide) (by decide)]; exact hC
  unfold zPn
  rw [if_neg hb]
  simp only
  rcases (by omega : s = 0 ∨ s = 1 ∨ s = 2 ∨ s = 3) with e | e | e | e <;> subst e
  · rw [if_pos rfl]
    by_cases hc : b - nI 48 = nI (zChr b) ∧ zChr b < dN D ∧ bt told (zChr b) = false
    · rw [if_pos hc]
      obtain ⟨c1, c2, c3⟩ := hc
      refine ⟨fun st' h => ?_, fun h => by cases h⟩
      cases Option.some.inj h
      have hal := z_acceptsLesson1 (σ := ρ) ok hCρ v c2 (by rw [p5]; exact c3)
      refine ⟨sj_st (sj_st ρ 52 6 ((ρ 52 6) ||| (nI 1 <<< (nI (zChr b) &&& 31)))) 52 7 (nI (zChr b)), ?_, ⟨by show 1 ≤ 3; omega, fun _ => c2, fun q => absurd q (by show ¬ 1 = 2; omega)⟩, ⟨fun b h1 h2 => by rw [z_stn h1, z_stn h1]; exact p1 b h1 h2, by rw [z_sti (by decide), z_sti (by decide)]; exact p2, by rw [z_sti (by decide), z_sti (by decide)]; exact p3, by rw [z_sti (by decide), z_sti (by decide)]; exact p4, by rw [z_sti (by decide), z_ste, p5], fun _ => z_ste, fun q => absurd q (by show ¬ 1 = 2; omega), fun j hj hbj hne => ?_⟩, rfl⟩
      · refine c_X9_accepts ok ⟨fun _ => ⟨_, _, by rw [c1]; exact hal, rfl, Or.inr rfl⟩, fun q => absurd q (by decide), fun q => absurd q (by decide), fun q => absurd rfl q⟩
      · have hjl : ¬ j = zChr b := fun q => by
          rcases hne q with r | r
          · exact absurd r (by show ¬ 1 = 0; omega)
          · exact absurd r (by show ¬ 1 = 3; omega)
        rw [z_stn (by decide), z_stn (by decide)]
        refine p8 j hj ?_ (fun _ => Or.inl rfl)
        have hbj : bt (told ||| (nI 1 <<< (nI (zChr b) &&& 31))) j = true := hbj
        rw [b_or, z_shl1 (by omega) (by omega), decide_eq_false hjl, Bool.or_false] at hbj
        exact hbj
    · rw [if_neg hc]
      refine ⟨fun st' h => (by cases h), fun _ => ?_⟩
      have hal := z_acceptsLesson0 (σ := ρ) ok hCρ v (x := b - nI 48) (fun j hj e => by
        cases hbt : bt (ρ 52 6) j
        · exfalso
          apply hc
          have := zChr_of e (by omega)
          rw [this]
          exact ⟨e, hj, by rw [← p5]; exact hbt⟩
        · rfl)
      exact c_X9_accepts ok ⟨fun _ => ⟨_, _, hal, rfl, Or.inl rfl⟩, fun q => absurd q (by decide), fun q => absurd q (by decide), fun q => absurd rfl q⟩
  · rw [if_neg (by decide), if_pos rfl]
    have hl := v2 (by omega)
    have had := z_acceptsDay (σ := ρ) ok (p6 (by omega)) (by omega) b
    by_cases hc : zDy b < 5
    · rw [if_pos hc]
      rw [if_pos hc] at had
      refine ⟨fun st' h => ?_, fun h => by cases h⟩
      cases Option.some.inj h
      refine ⟨sj_st ρ 53 l (nI (zDy b * 4)), ?_, ⟨by show 2 ≤ 3; omega, fun _ => hl, fun _ => hc⟩, ⟨fun b h1 h2 => by rw [z_stn h2]; exact p1 b h1 h2, by rw [z_stn (by decide)]; exact p2, by rw [z_stn (by decide)]; exact p3, by rw [z_stn (by decide)]; exact p4, by rw [z_stn (by decide)]; exact p5, fun _ => by rw [z_stn (by decide)]; exact p6 (by omega), fun _ => by rw [Nat.mul_comm]; exact z_ste, fun j hj hbj hne => ?_⟩, rfl⟩
      · exact c_X9_accepts ok ⟨fun q => absurd q (by decide), fun _ => ⟨_, _, had, rfl, Or.inr rfl⟩, fun q => absurd q (by decide), fun _ q => absurd rfl q⟩
      · have hjl : ¬ j = l := fun q => by
          rcases hne q with r | r
          · exact absurd r (by show ¬ 2 = 0; omega)
          · exact absurd r (by show ¬ 2 = 3; omega)
        rw [z_sti hjl]
        exact p8 j hj hbj (fun q => absurd q hjl)
    · rw [if_neg hc]
      rw [if_neg hc] at had
      refine ⟨fun st' h => (by cases h), fun _ => ?_⟩
      exact c_X9_accepts ok ⟨fun q => absurd q (by decide), fun _ => ⟨_, _, had, rfl, Or.inl rfl⟩, fun q => absurd q (by decide), fun _ q => absurd rfl q⟩
  · rw [if_neg (by decide), if_neg (by decide), if_pos rfl]
    have hl := v2 (by omega)
    have hd := v3 rfl
    obtain ⟨-, -, -, -, g5⟩ := v.2.2.2.1 l hl
    by_cases hc : b - nI 48 = nI (zChr b) ∧ zChr b < 4 - dDb D l
    · rw [if_pos hc]
      obtain ⟨c1, c2⟩ := hc
      have hah := z_acceptsHour1 (σ := ρ) ok hCρ v (p6 (by omega)) hl c2 (p7 rfl)
      refine ⟨fun st' h => ?_, fun h => by cases h⟩
      cases Option.some.inj h
      refine ⟨sj_st ρ 53 l (nI (4 * d + zChr b)), ?_, ⟨by show 3 ≤ 3; omega, fun _ => hl, fun q => absurd q (by show ¬ 3 = 2; omega)⟩, ⟨fun b h1 h2 => by rw [z_stn h2]; exact p1 b h1 h2, by rw [z_stn (by decide)]; exact p2, by rw [z_stn (by decide)]; exact p3, by rw [z_stn (by decide)]; exact p4, by rw [z_stn (by decide)]; exact p5, fun _ => by rw [z_stn (by decide)]; exact p6 (by omega), fun q => absurd q (by show ¬ 3 = 2; omega), fun j hj hbj hne => ?_⟩, rfl⟩
      · exact c_X9_accepts ok ⟨fun q => absurd q (by decide), fun q => absurd q (by decide), fun _ => ⟨_, _, by rw [c1]; exact hah, rfl, Or.inr rfl⟩, fun _ _ q => absurd rfl q⟩
      · show sj_st ρ 53 l (nI (4 * d + zChr b)) 53 j = nI (zEu T l (4 * d + zChr b) j) ∧ zEu T l (4 * d + zChr b) j < 20 ∧ ¬ (dDb D j = 1 ∧ zEu T l (4 * d + zChr b) j % 4 = 3)
        unfold zEu
        by_cases q : j = l
        · subst q
          rw [z_ste, if_pos rfl]
          refine ⟨rfl, by omega, ?_⟩
          rintro ⟨q1, q2⟩
          omega
        · rw [z_sti q, if_neg q]
          exact p8 j hj hbj (fun r => absurd r q)
    · rw [if_neg hc]
      have hah := z_acceptsHour0 (σ := ρ) (x := b - nI 48) ok hCρ v (p6 (by omega)) hl (fun j hj e => by
        apply hc
        have := zChr_of e (by omega)
        rw [this]
        exact ⟨e, hj⟩)
      refine ⟨fun st' h => (by cases h), fun _ => ?_⟩
      exact c_X9_accepts ok ⟨fun q => absurd q (by decide), fun q => absurd q (by decide), fun _ => ⟨_, _, hah, rfl, Or.inl rfl⟩, fun _ _ q => absurd rfl q⟩
  · rw [if_neg (by decide), if_neg (by decide), if_neg (by decide)]
    have hl := v2 (by omega)
    by_cases hc : b = nI 59
    · rw [if_pos hc]
      refine ⟨fun st' h => ?_, fun h => by cases h⟩
      cases Option.some.inj h
      refine ⟨ρ, ?_, ⟨by show 0 ≤ 3; omega, fun q => absurd q (by show ¬ 1 ≤ 0; omega), fun q => absurd q (by show ¬ 0 = 2; omega)⟩, ⟨p1, p2, p3, p4, p5, fun q => absurd q (by show ¬ 1 ≤ 0; omega), fun q => absurd q (by show ¬ 0 = 2; omega), fun j hj hbj _ => p8 j hj hbj (fun _ => Or.inr rfl)⟩, rfl⟩
      refine c_X9_accepts ok ⟨fun q => absurd q (by decide), fun q => absurd q (by decide), fun q => absurd q (by decide), fun _ _ _ => ?_⟩
      unfold wp_X9_accepts_65
      rw [if_pos hc]
      exact ⟨rfl, Or.inr rfl⟩
    · rw [if_neg hc]
      refine ⟨fun st' h => (by cases h), fun _ => ?_⟩
      refine c_X9_accepts ok ⟨fun q => absurd q (by decide), fun q => absurd q (by decide), fun q => absurd q (by decide), fun _ _ _ => ?_⟩
      unfold wp_X9_accepts_65
      rw [if_neg hc]
      exact ⟨rfl, Or.inl rfl⟩
theorem zPn_blank {st : zPs} {b : Int32} (h : b = nI 32 ∨ b = nI 10) : zPn D st b = some st := if_pos h
theorem z_parse (ok : sj_ok G) (hC : repC D (σ 2)) (v : okD D) {len : Nat} (hlen : len ≤ 100) (h2 : σ 52 2 = nI len) : ∃ ρ, sj_C G 10 me_X9_parse [.ref (sj_ad G 52), .ref (sj_ad G 1)] σ (.ok (if zPe D len (zPu D (σ 55) len 0 (nI 0, 0, 0, 0, fun _ => 0)) = -1 then nI 1 else nI 0), ρ) ∧ (∀ b, b ≠ 52 → b ≠ 53 → ρ b = σ b) ∧ ρ 52 2 = nI len ∧ ρ 52 4 = σ 52 4 ∧ ρ 52 3 = zPe D len (zPu D (σ 55) len 0 (nI 0, 0, 0, 0, fun _ => 0)) ∧
    ∀ T, zPok D (zPu D (σ 55) len 0 (nI 0, 0, 0, 0, fun _ => 0)) T → ∀ j, j < dN D → ρ 53 j = nI (T j) ∧ T j < 20 ∧ ¬ (dDb D j = 1 ∧ T j % 4 = 3) := by
  have h9 := v.1
  have key : ∀ n k st (ρ : sj_S), k + n = len → zPv D st → zPC D σ len st ρ → ∃ ρ', sj_J G 10 me_X9_parse (.ok (if zPe D len (zPu D (σ 55) n k st) = -1 then nI 1 else nI 0), ρ') 14 [.ref (sj_ad G 52), .ref (sj_ad G 1), .int (nI st.2.1), .int (nI k), .null] ρ [] ∧ (∀ b, b ≠ 52 → b ≠ 53 → ρ' b = σ b) ∧ ρ' 52 2 = nI len ∧ ρ' 52 4 = σ 52 4 ∧ ρ' 52 3 = zPe D len (zPu D (σ 55) n k st) ∧
      ∀ T, zPok D (zPu D (σ 55) n k st) T → ∀ j, j < dN D → ρ' 53 j = nI (T j) ∧ T j < 20 ∧ ¬ (dDb D j = 1 ∧ T j % 4 = 3) := by
    intro n
    induction n with
    | zero =>
      intro k st ρ hk hv hP
      obtain ⟨p1, p2, p3, p4, p5, p6, p7, p8⟩ := hP
      have hCρ : repC D (ρ 2) := by rw [p1 2 (by decide) (by decide)]; exact hC
      have hge : (ρ 52 2) ≤ nI k := by rw [p2]; exact nI_le (by omega) (by omega)
      have hfl : (nI 1 <<< (nI (dN D) &&& 31)) - nI 1 = zFll (dN D) := rfl
      rw [zPu_0]
      by_cases h0 : st.2.1 = 0
      · by_cases hf : st.1 = zFll (dN D)
        · have he : zPe D len (.ok st) = -1 := if_pos ⟨h0, hf⟩
          rw [he, if_pos rfl]
          refine ⟨ρ, t_X9_parse_14 ⟨fun _ => ⟨fun q => ?_, fun _ => ⟨_, _, z_lessonTotal ok, ?_⟩⟩, fun q => absurd hge q⟩, p1, p2, p3, p4, fun T hT j hj => ?_⟩
          · rw [h0] at q; exact absurd nI_0 q
          · rw [hCρ.1, p5, hfl, if_pos hf]
            unfold wp_X9_parse_101 wp_X9_parse_114
            rw [p4, if_pos rfl]
            exact ⟨rfl, Or.inr rfl⟩
          · obtain ⟨st2, e1, -, e3, e4⟩ := hT
            cases Except.ok.inj e1
            rw [← e4]
            exact p8 j hj (by rw [hf]; exact zFll_bt _ (by omega) j hj) (fun _ => Or.inl h0)
        · have he : zPe D len (.ok st) = nI len := if_neg (fun q => hf q.2)
          rw [he, if_neg (z_nm1 (by omega))]
          refine ⟨sj_st ρ 52 3 (nI len), t_X9_parse_14 ⟨fun _ => ⟨fun q => ?_, fun _ => ⟨_, _, z_lessonTotal ok, ?_⟩⟩, fun q => absurd hge q⟩, fun b h1 h2 => by rw [z_stn h1]; exact p1 b h1 h2, by rw [z_sti (by decide)]; exact p2, by rw [z_sti (by decide)]; exact p3, z_ste, fun T hT j hj => ?_⟩
          · rw [h0] at q; exact absurd nI_0 q
          · rw [hCρ.1, p5, hfl, if_neg hf, p2]
            unfold wp_X9_parse_101 wp_X9_parse_114
            rw [z_ste, if_neg (z_nm1 (by omega))]
            exact ⟨rfl, Or.inl rfl⟩
          · obtain ⟨st2, e1, -, e3, e4⟩ := hT
            cases Except.ok.inj e1
            exact absurd e3 hf
      · have he : zPe D len (.ok st) = nI len := if_neg (fun q => h0 q.1)
        rw [he, if_neg (z_nm1 (by omega))]
        have hs3 := hv.1
        refine ⟨sj_st ρ 52 3 (nI len), t_X9_parse_14 ⟨fun _ => ⟨fun _ => ?_, fun q => ?_⟩, fun q => absurd hge q⟩, fun b h1 h2 => by rw [z_stn h1]; exact p1 b h1 h2, by rw [z_sti (by decide)]; exact p2, by rw [z_sti (by decide)]; exact p3, z_ste, fun T hT j hj => ?_⟩
        · unfold wp_X9_parse_93 wp_X9_parse_101 wp_X9_parse_114
          rw [p2, z_ste, if_neg (z_nm1 (by omega))]
          exact ⟨rfl, Or.inl rfl⟩
        · exact absurd q (nI_ne0 (by omega) (by omega))
        · obtain ⟨st2, e1, e2, -, -⟩ := hT
          cases Except.ok.inj e1
          exact absurd e2 h0
    | succ n ih =>
      intro k st ρ hk hv hP
      have hP' := hP
      obtain ⟨p1, p2, p3, p4, p5, p6, p7, p8⟩ := hP'
      have hs3 := hv.1
      have hlt : ¬ (ρ 52 2) ≤ nI k := by rw [p2]; exact nI_ge (by omega) (by omega)
      have h55 : ρ 55 (nI k).toNatClampNeg = σ 55 k := by rw [nI_clamp (by omega), p1 55 (by decide) (by decide)]
      have i100 : vp_in (nI k) 100 := z_in (by omega) (by decide)
      by_cases hb : σ 55 k = nI 32 ∨ σ 55 k = nI 10
      · rw [zPu_s (zPn_blank (D := D) hb)]
        obtain ⟨ρ', r1, r2⟩ := ih (k + 1) st ρ (by omega) hv hP
        refine ⟨ρ', t_X9_parse_14 ⟨fun q => absurd q hlt, fun _ => ⟨i100, ?_⟩⟩, r2⟩
        rw [h55]
        unfold wp_X9_parse_68
        rw [nI_add]
        refine ⟨fun _ => r1, fun q => ⟨fun _ => r1, fun q2 => ?_⟩⟩
        rcases hb with h | h
        · exact absurd h q
        · exact absurd h q2
      · have hacc := z_accepts (σ := σ) ok hC v hv hP hb
        have hn32 : ¬ σ 55 k = nI 32 := fun q => hb (Or.inl q)
        have hn10 : ¬ σ 55 k = nI 10 := fun q => hb (Or.inr q)
        cases hst : zPn D st (σ 55 k) with
        | none =>
          have ha := hacc.2 hst
          rw [zPu_n hst]
          have he : zPe D len (.error k) = nI k := rfl
          rw [he, if_neg (z_nm1 (by omega))]
          refine ⟨sj_st ρ 52 3 (nI k), t_X9_parse_14 ⟨fun q => absurd q hlt, fun _ => ⟨i100, ?_⟩⟩, fun b h1 h2 => by rw [z_stn h1]; exact p1 b h1 h2, by rw [z_sti (by decide)]; exact p2, by rw [z_sti (by decide)]; exact p3, z_ste, fun T hT j hj => ?_⟩
          · rw [h55]
            exact ⟨fun q => absurd q hn32, fun _ => ⟨fun q => absurd q hn10, fun _ => ⟨_, _, ha, fun q => absurd z_00 q, fun _ => rfl⟩⟩⟩
          · obtain ⟨st2, e1, -⟩ := hT
            cases e1
        | some st' =>
          obtain ⟨ρ1, ha, hv', hP1, hstep⟩ := hacc.1 st' hst
          rw [zPu_s hst]
          obtain ⟨ρ', r1, r2⟩ := ih (k + 1) st' ρ1 (by omega) hv' hP1
          refine ⟨ρ', t_X9_parse_14 ⟨fun q => absurd q hlt, fun _ => ⟨i100, ?_⟩⟩, r2⟩
          rw [h55]
          refine ⟨fun q => absurd q hn32, fun _ => ⟨fun q => absurd q hn10, fun _ => ⟨_, _, ha, fun _ => ?_, fun q => absurd q z_10⟩⟩⟩
          unfold wp_X9_parse_68
          rw [nI_add, pk_rem (by omega) (by decide) (by decide), ← hstep, nI_add]
          exact r1
  obtain ⟨ρ, r1, r2⟩ := key len 0 (nI 0, 0, 0, 0, fun _ => 0) (sj_st (sj_st σ 52 6 (nI 0)) 52 3 (-1)) (by omega) ⟨by show 0 ≤ 3; omega, fun q => absurd q (by show ¬ 1 ≤ 0; omega), fun q => absurd q (by show ¬ 0 = 2; omega)⟩
    ⟨fun b h1 _ => by rw [z_stn h1, z_stn h1], by rw [z_sti (by decide), z_sti (by decide)]; exact h2, by rw [z_sti (by decide), z_sti (by decide)], z_ste, by rw [z_sti (by decide), z_ste], fun q => absurd q (by show ¬ 1 ≤ 0; omega), fun q => absurd q (by show ¬ 0 = 2; omega), fun j hj hb _ => by
      have hb : bt (nI 0) j = true := hb
      rw [z_bn 0 j (by omega), Nat.zero_testBit] at hb
      cases hb⟩
  exact ⟨ρ, c_X9_parse ok r1, r2⟩
end ZTX
