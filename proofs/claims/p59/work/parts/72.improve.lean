/-! improve: the moves in their order; the class's way -/
abbrev zMS : Type := Nat × Nat × Nat × Nat
def zSw (T : Nat → Nat) (l o : Nat) : Nat → Nat := fun i => if i = o then T l else if i = l then T o else T i
def zTb (T : Nat → Nat) (k a b : Nat) : Nat → Nat := if k = 1 then zMv T a b else if k = 2 then zSw T a b else T
def zTry (D : zD) (T : Nat → Nat) (st : zMS) (k a b : Nat) (g : Bool) : zMS := if g = true ∧ zCost D (zTb T k a b) < st.1 then (zCost D (zTb T k a b), k, a, b) else st
def zS1 (D : zD) (T : Nat → Nat) (l : Nat) (st : zMS) : Nat → zMS
  | 0 => st
  | s + 1 => zTry D T (zS1 D T l st s) 1 l s (!decide (s = T l) && zRb D (zHd D) (zMv T l s))
def zS2 (D : zD) (T : Nat → Nat) : Nat → zMS
  | 0 => (zCost D T, 0, 0, 0)
  | l + 1 => zS1 D T l (zS2 D T l) 20
def zW1 (D : zD) (T : Nat → Nat) (l : Nat) (st : zMS) : Nat → zMS
  | 0 => st
  | k + 1 => zTry D T (zW1 D T l st k) 2 l (l + 1 + k) (zRb D (zHd D) (zSw T l (l + 1 + k)))
def zW2 (D : zD) (T : Nat → Nat) : Nat → zMS
  | 0 => zS2 D T (dN D)
  | l + 1 => zW1 D T l (zW2 D T l) (dN D - (l + 1))
def zSv (D : zD) (T : Nat → Nat) (st : zMS) : Prop := (st.2.1 = 0 ∧ st.1 = zCost D T) ∨ ((st.2.1 = 1 ∨ st.2.1 = 2) ∧ st.2.2.1 < dN D ∧ (st.2.1 = 1 → st.2.2.2 < 20) ∧ (st.2.1 = 2 → st.2.2.2 < dN D ∧ st.2.2.1 ≠ st.2.2.2) ∧ st.1 = zCost D (zTb T st.2.1 st.2.2.1 st.2.2.2) ∧ st.1 < zCost D T ∧ zRb D (zHd D) (zTb T st.2.1 st.2.2.1 st.2.2.2) = true)
theorem zSv_le {D : zD} {T : Nat → Nat} {st : zMS} (h : zSv D T st) : st.1 ≤ zCost D T := by
  rcases h with ⟨-, h⟩ | ⟨-, -, -, -, -, h, -⟩ <;> omega
theorem zTry_v {D : zD} {T : Nat → Nat} {st : zMS} {k a b : Nat} {g : Bool} (h : zSv D T st) (hk : k = 1 ∨ k = 2) (ha : a < dN D) (h1 : k = 1 → b < 20) (h2 : k = 2 → b < dN D ∧ a ≠ b) (hg : g = true → zRb D (zHd D) (zTb T k a b) = true) : zSv D T (zTry D T st k a b g) := by
  unfold zTry
  split
  · rename_i q
    have := zSv_le h
    exact Or.inr ⟨hk, ha, h1, h2, rfl, by show zCost D (zTb T k a b) < _; omega, hg q.1⟩
  · exact h
theorem zTry_0 {D : zD} {T : Nat → Nat} {st : zMS} {k a b : Nat} {g : Bool} (h : st.1 = 0) : zTry D T st k a b g = st := by
  unfold zTry
  rw [if_neg (by omega)]
theorem zS1_0 {D : zD} {T : Nat → Nat} {l : Nat} {st : zMS} (h : st.1 = 0) : ∀ s, zS1 D T l st s = st := by
  intro s
  induction s with
  | zero => rfl
  | succ s ih =>
    show zTry D T (zS1 D T l st s) 1 l s _ = st
    rw [ih, zTry_0 h]
theorem zS2_0 {D : zD} {T : Nat → Nat} {l : Nat} (h : (zS2 D T l).1 = 0) : ∀ k, zS2 D T (l + k) = zS2 D T l := by
  intro k
  induction k with
  | zero => rfl
  | succ k ih =>
    show zS1 D T (l + k) (zS2 D T (l + k)) 20 = _
    rw [ih, zS1_0 h]
theorem zW1_0 {D : zD} {T : Nat → Nat} {l : Nat} {st : zMS} (h : st.1 = 0) : ∀ s, zW1 D T l st s = st := by
  intro s
  induction s with
  | zero => rfl
  | succ s ih =>
    show zTry D T (zW1 D T l st s) 2 l (l + 1 + s) _ = st
    rw [ih, zTry_0 h]
theorem zW2_0 {D : zD} {T : Nat → Nat} {l : Nat} (h : (zW2 D T l).1 = 0) : ∀ k, zW2 D T (l + k) = zW2 D T l := by
  intro k
  induction k with
  | zero => rfl
  | succ k ih =>
    show zW1 D T (l + k) (zW2 D T (l + k)) (dN D - (l + k + 1)) = _
    rw [ih, zW1_0 h]
theorem zTb1 (T : Nat → Nat) (a b : Nat) : zTb T 1 a b = zMv T a b := rfl
theorem zTb2 (T : Nat → Nat) (a b : Nat) : zTb T 2 a b = zSw T a b := rfl
theorem zS1_v {D : zD} {T : Nat → Nat} {l : Nat} {st : zMS} (hl : l < dN D) (h : zSv D T st) : ∀ s, s ≤ 20 → zSv D T (zS1 D T l st s) := by
  intro s
  induction s with
  | zero => intro _; exact h
  | succ s ih =>
    intro hs
    refine zTry_v (ih (by omega)) (Or.inl rfl) hl (fun _ => by omega) (fun q => absurd q (by decide)) (fun q => ?_)
    rw [Bool.and_eq_true] at q
    exact q.2
theorem zS2_v {D : zD} {T : Nat → Nat} : ∀ l, l ≤ dN D → zSv D T (zS2 D T l) := by
  intro l
  induction l with
  | zero => intro _; exact Or.inl ⟨rfl, rfl⟩
  | succ l ih => intro hl; exact zS1_v (by omega) (ih (by omega)) 20 (Nat.le_refl _)
theorem zW1_v {D : zD} {T : Nat → Nat} {l : Nat} {st : zMS} (h : zSv D T st) : ∀ k, l + 1 + k ≤ dN D → zSv D T (zW1 D T l st k) := by
  intro k
  induction k with
  | zero => intro _; exact h
  | succ k ih =>
    intro hk
    exact zTry_v (ih (by omega)) (Or.inr rfl) (by omega) (fun q => absurd q (by decide)) (fun _ => ⟨by omega, by omega⟩) (fun q => q)
theorem zW2_v {D : zD} {T : Nat → Nat} : ∀ l, l ≤ dN D → zSv D T (zW2 D T l) := by
  intro l
  induction l with
  | zero => intro _; exact zS2_v (dN D) (Nat.le_refl _)
  | succ l ih =>
    intro hl
    refine zW1_v (ih (by omega)) _ (by omega)
theorem zMv_self (T : Nat → Nat) (l : Nat) : zMv T l (T l) = T := by
  funext o
  unfold zMv
  by_cases q : o = l
  · rw [if_pos q, q]
  · rw [if_neg q]
theorem zTry_self {D : zD} {T : Nat → Nat} {st : zMS} {l s : Nat} (h : st.1 ≤ zCost D T) : zTry D T st 1 l s (!decide (s = T l) && zRb D (zHd D) (zMv T l s)) = zTry D T st 1 l s (zRb D (zHd D) (zMv T l s)) := by
  by_cases q : s = T l
  · subst q
    have n1 : ∀ g : Bool, ¬ (g = true ∧ zCost D (zTb T 1 l (T l)) < st.1) := fun g => by
      rw [zTb1, zMv_self]
      omega
    unfold zTry
    rw [if_neg (n1 _), if_neg (n1 _)]
  · rw [decide_eq_false q]; rfl
section ZIM
variable {G : sj_G} {σ ρ : sj_S} {D : zD} {T : Nat → Nat}
def zMI (D : zD) (T : Nat → Nat) (σ : sj_S) (st : zMS) (ρ : sj_S) : Prop := (∀ c, c ≠ 36 → c ≠ 37 → c ≠ 38 → ρ c = σ c) ∧ ρ 36 2 = nI st.1 ∧ (∀ i, i < dN D → ρ 38 i = nI (T i)) ∧ (st.2.1 ≠ 0 → ∀ i, i < dN D → ρ 37 i = nI (zTb T st.2.1 st.2.2.1 st.2.2.2 i))
theorem z_sl38 : zSl 38 := ⟨rfl, by decide, rfl⟩
theorem z_weigh (ok : sj_ok G) (hC : repC D (ρ 2)) (v : okD D) {U : Nat → Nat} (hU : repT (dN D) U (ρ 38)) {m : Nat} (hm : m < 1000) (h2 : ρ 36 2 = nI m) : ∃ ρ', sj_C G 6 me_X6_weigh [.ref (sj_ad G 36), .ref (sj_ad G 1)] ρ (.ok 0, ρ') ∧ (∀ c, c ≠ 36 → c ≠ 37 → ρ' c = ρ c) ∧ ρ' 36 2 = nI (if zCost D U < m then zCost D U else m) ∧ (∀ i, i < dN D → ρ' 37 i = if zCost D U < m then nI (U i) else ρ 37 i) := by
  have h9 := v.1
  have hl := zCost_lt (T := U) v
  have hc := z_costOf ok hC v z_sl38 hU
  by_cases q : zCost D U < m
  · refine ⟨sj_up (sj_st ρ 36 2 (nI (zCost D U))) 37 (va_cpy (ρ 38) (ρ 37) 0 0 9), c_X6_weigh ok ⟨_, _, hc, ?_⟩, fun c h1 h3 => by rw [z_upn h3, z_stn h1], by rw [z_upn (by decide), z_ste, if_pos q], fun i hi => ?_⟩
    · unfold wp_X6_weigh_38
      rw [h2, if_neg (nI_ge q (by omega))]
    · rw [sj_up_s, if_pos q]
      unfold va_cpy
      rw [if_pos (by omega), show 0 + (i - 0) = i by omega, (hU i hi).1]
  · refine ⟨ρ, c_X6_weigh ok ⟨_, _, hc, ?_⟩, fun c _ _ => rfl, by rw [if_neg q]; exact h2, fun i hi => by rw [if_neg q]⟩
    unfold wp_X6_weigh_38
    rw [h2, if_pos (nI_le (by omega) (by omega))]
theorem zMI_try {st : zMS} {k a b : Nat} {ρ ρ' ρ2 : sj_S} (h : zMI D T σ st ρ) (hk : k ≠ 0) (hn : ∀ c, c ≠ 36 → c ≠ 37 → c ≠ 38 → ρ2 c = ρ c) (h36 : ρ2 36 2 = ρ 36 2) (h37 : ρ2 37 = ρ 37)
    (e1 : ∀ c, c ≠ 36 → c ≠ 37 → ρ' c = ρ2 c) (e2 : ρ' 36 2 = nI (if zCost D (zTb T k a b) < st.1 then zCost D (zTb T k a b) else st.1)) (e3 : ∀ i, i < dN D → ρ' 37 i = if zCost D (zTb T k a b) < st.1 then nI (zTb T k a b i) else ρ2 37 i) {f : Nat → Int32} (hf : ∀ i, i < dN D → f i = nI (T i)) : zMI D T σ (zTry D T st k a b true) (sj_up ρ' 38 f) := by
  refine ⟨fun c h1 h2 h3 => by rw [z_upn h3, e1 c h1 h2, hn c h1 h2 h3, h.1 c h1 h2 h3], ?_, fun i hi => by rw [sj_up_s]; exact hf i hi, fun q i hi => ?_⟩
  · rw [z_upn (by decide), e2]
    unfold zTry
    by_cases c : zCost D (zTb T k a b) < st.1
    · rw [if_pos c, if_pos ⟨rfl, c⟩]
    · rw [if_neg c, if_neg (by omega)]
  · rw [z_upn (by decide), e3 i hi]
    unfold zTry at q ⊢
    by_cases c : zCost D (zTb T k a b) < st.1
    · rw [if_pos c, if_pos ⟨rfl, c⟩]
    · rw [if_neg (by omega)] at q
      rw [if_neg c, if_neg (by omega), h37]
      exact h.2.2.2 q i hi
theorem zTry_f {st : zMS} {k a b : Nat} : zTry D T st k a b false = st := by
  unfold zTry
  rw [if_neg (by simp)]
theorem zMI_38 {st : zMS} {f : Nat → Int32} (h : zMI D T σ st ρ) (hf : ∀ i, i < dN D → f i = nI (T i)) : zMI D T σ st (sj_up ρ 38 f) :=
  ⟨fun c h1 h2 h3 => by rw [z_upn h3, h.1 c h1 h2 h3], by rw [z_upn (by decide)]; exact h.2.1, fun i hi => by rw [sj_up_s]; exact hf i hi, fun q i hi => by rw [z_upn (by decide)]; exact h.2.2.2 q i hi⟩
theorem z_trySlots (ok : sj_ok G) (hC : repC D (σ 2)) (v : okD D) (hru : zRu D (zHd D) σ 6) (hT : repT (dN D) T (σ 3)) (hrt : zRi D (zHd D) T) {st : zMS} (hv : zSv D T st) (hI : zMI D T σ st ρ) {l : Nat} (hl : l < dN D) : ∃ ρ', sj_C G 7 me_X6_trySlots [.ref (sj_ad G 36), .ref (sj_ad G 1), .ref (sj_ad G 6), .int (nI l)] ρ (.ok 0, ρ') ∧ zMI D T σ (zS1 D T l st 20) ρ' := by
  have h9 := v.1
  have cT := zCost_lt (T := T) v
  have hruρ : zRu D (zHd D) ρ 6 := ⟨by rw [hI.1 6 (by decide) (by decide) (by decide)]; exact hru.1, fun o ho => zRuL_of (hru.2 o ho) (fun k h1 h2 => by rw [hI.1 (6 + k) (by omega) (by omega) (by omega)])⟩
  obtain ⟨r, hal, hr⟩ := z_allowed (σ := ρ) (T := T) ok v (Or.inl rfl) z_sl3 hruρ hl (x3 := -1) (fun o ho _ _ => by rw [hI.1 3 (by decide) (by decide) (by decide)]; exact hT o ho)
  have hbit : ∀ s, s < 20 → bt r s = zRb D (zHd D) (zMv T l s) := fun s hs => by
    rw [hr s (by omega), zAl_H (q' := fun _ => true) (fun _ _ => rfl) (fun o ho => b_m1 o (by omega)), Bool.eq_iff_iff, zRb_iff, zRi_move hrt hl]
  have hin : vp_in (nI l) 9 := z_in (by omega) (by decide)
  have kl : (nI l).toNatClampNeg = l := nI_clamp (by omega)
  -- the cells while lesson l is tried: at l of the tried table stands anything
  have key : ∀ j s τ, s + j = 20 → (∃ ρ0 y, zMI D T σ (zS1 D T l st s) ρ0 ∧ τ = sj_st ρ0 38 l y) → ∃ ρ', sj_J G 7 me_X6_trySlots (.ok 0, ρ') 15 [.ref (sj_ad G 36), .ref (sj_ad G 1), .null, .int (nI l), .int r, .int (nI s)] τ [] ∧ zMI D T σ (zS1 D T l st 20) ρ' := by
    intro j
    induction j with
    | zero =>
      intro s τ hs hτ
      have : s = 20 := by omega
      subst this
      obtain ⟨ρ0, y, h0, rfl⟩ := hτ
      have e3 : sj_st ρ0 38 l y 3 l = nI (T l) := by rw [z_stn (by decide), h0.1 3 (by decide) (by decide) (by decide)]; exact (hT l hl).1
      have e4 : sj_st (sj_st ρ0 38 l y) 38 l (nI (T l)) = ρ0 := by
        funext c
        by_cases q : c = 38
        · subst q
          rw [z_sta, z_sta]
          funext i
          unfold upd
          by_cases e : i = l
          · rw [if_pos e, e]; exact (h0.2.2.1 l hl).symm
          · rw [if_neg e, if_neg e]
        · rw [z_stn q, z_stn q]
      refine ⟨ρ0, t_X6_trySlots_15 ⟨fun _ => ⟨hin, hin, ?_⟩, fun q => absurd (nI_le (by omega) (by omega)) q⟩, h0⟩
      rw [kl, e3, e4]
    | succ j ih =>
      intro s τ hs hτ
      obtain ⟨ρ0, y, h0, rfl⟩ := hτ
      have hvs := zS1_v hl hv s (by omega)
      have est : ∀ a b : Int32, sj_st (sj_st ρ0 38 l a) 38 l b = sj_st ρ0 38 l b := fun a b => by
        funext c
        by_cases q : c = 38
        · subst q
          rw [z_sta, z_sta, z_sta]
          funext k
          unfold upd
          by_cases e : k = l
          · rw [if_pos e, if_pos e]
          · rw [if_neg e, if_neg e, if_neg e]
        · rw [z_stn q, z_stn q, z_stn q]
      have eqs : zS1 D T l st (s + 1) = zTry D T (zS1 D T l st s) 1 l s (zRb D (zHd D) (zMv T l s)) := zTry_self (zSv_le hvs)
      cases hg : zRb D (zHd D) (zMv T l s)
      · rw [hg, zTry_f] at eqs
        obtain ⟨ρ', hJ, hI'⟩ := ih (s + 1) (sj_st ρ0 38 l y) (by omega) ⟨ρ0, y, by rw [eqs]; exact h0, rfl⟩
        refine ⟨ρ', t_X6_trySlots_15 ⟨fun q => absurd q (nI_ge (by omega) (by decide)), fun _ => ⟨fun _ => ?_, fun q => ?_⟩⟩, hI'⟩
        · unfold wp_X6_trySlots_45
          rw [nI_add]
          exact hJ
        · rw [z_bit (by omega), hbit s (by omega), hg] at q
          exact absurd rfl q
      · rw [hg] at eqs
        have hU : repT (dN D) (zMv T l s) (sj_st ρ0 38 l (nI s) 38) := fun o ho => by
          rw [z_sta]
          unfold upd zMv
          by_cases e : o = l
          · rw [if_pos e, if_pos e]; exact ⟨rfl, by omega⟩
          · rw [if_neg e, if_neg e]; exact ⟨h0.2.2.1 o ho, (hT o ho).2⟩
        obtain ⟨ρ2, hw, w1, w2, w3⟩ := z_weigh (ρ := sj_st ρ0 38 l (nI s)) ok (by rw [z_stn (by decide), h0.1 2 (by decide) (by decide) (by decide)]; exact hC) v hU (m := (zS1 D T l st s).1) (by have := zSv_le hvs; omega) (by rw [z_stn (by decide)]; exact h0.2.1)
        have hnew := zMI_try (k := 1) (a := l) (b := s) (ρ2 := sj_st ρ0 38 l (nI s)) (ρ' := ρ2) h0 (by decide) (fun c _ _ h3 => z_stn h3) (by rw [z_stn (by decide)]) (by rw [z_stn (by decide)]) w1 w2 w3 (f := ρ0 38) h0.2.2.1
        have eρ : ρ2 = sj_st (sj_up ρ2 38 (ρ0 38)) 38 l (nI s) := by
          funext c
          by_cases q : c = 38
          · subst q
            rw [z_sta, sj_up_s, w1 38 (by decide) (by decide), z_sta]
          · rw [z_stn q, z_upn q]
        obtain ⟨ρ', hJ, hI'⟩ := ih (s + 1) ρ2 (by omega) ⟨sj_up ρ2 38 (ρ0 38), nI s, by rw [eqs]; exact hnew, eρ⟩
        refine ⟨ρ', t_X6_trySlots_15 ⟨fun q => absurd q (nI_ge (by omega) (by decide)), fun _ => ⟨fun q => ?_, fun _ => ⟨hin, ?_⟩⟩⟩, hI'⟩
        · rw [z_bit (by omega), hbit s (by omega), hg] at q
          cases q
        · rw [kl, est]
          refine ⟨_, hw, ?_⟩
          unfold wp_X6_trySlots_45
          rw [nI_add]
          exact hJ
  have e0 : ρ = sj_st ρ 38 l (ρ 38 l) := (z_st_self).symm
  obtain ⟨ρ', hJ, hI'⟩ := key 20 0 ρ (by omega) ⟨ρ, ρ 38 l, hI, e0⟩
  exact ⟨ρ', c_X6_trySlots ok ⟨_, _, hal, hJ⟩, hI'⟩
theorem z_trySwap (ok : sj_ok G) (hC : repC D (σ 2)) (v : okD D) (hru : zRu D (zHd D) σ 6) (hT : repT (dN D) T (σ 3)) {st : zMS} (hv : zSv D T st) (hI : zMI D T σ st ρ) {l o : Nat} (hl : l < dN D) (ho : o < dN D) (hlo : l ≠ o) : ∃ ρ', sj_C G 7 me_X6_trySwap [.ref (sj_ad G 36), .ref (sj_ad G 1), .ref (sj_ad G 6), .int (nI l), .int (nI o)] ρ (.ok 0, ρ') ∧ zMI D T σ (zTry D T st 2 l o (zRb D (zHd D) (zSw T l o))) ρ' := by
  have h9 := v.1
  have cT := zCost_lt (T := T) v
  have hil : vp_in (nI l) 9 := z_in (by omega) (by decide)
  have hio : vp_in (nI o) 9 := z_in (by omega) (by decide)
  have kl : (nI l).toNatClampNeg = l := nI_clamp (by omega)
  have ko : (nI o).toNatClampNeg = o := nI_clamp (by omega)
  have e3 : ∀ i, i < dN D → ρ 3 i = nI (T i) := fun i hi => by rw [hI.1 3 (by decide) (by decide) (by decide)]; exact (hT i hi).1
  generalize eτ : sj_st (sj_st ρ 38 l (nI (T o))) 38 o (nI (T l)) = τ
  have τn : ∀ c, c ≠ 38 → τ c = ρ c := fun c hc => by rw [← eτ, z_stn hc, z_stn hc]
  have hU : repT (dN D) (zSw T l o) (τ 38) := fun i hi => by
    rw [← eτ, z_sta, z_sta]
    unfold upd zSw
    by_cases e : i = o
    · rw [if_pos e, if_pos e]; exact ⟨rfl, (hT l hl).2⟩
    · rw [if_neg e, if_neg e]
      by_cases e2 : i = l
      · rw [if_pos e2, if_pos e2]; exact ⟨rfl, (hT o ho).2⟩
      · rw [if_neg e2, if_neg e2]; exact ⟨hI.2.2.1 i hi, (hT i hi).2⟩
  have hruτ : zRu D (zHd D) τ 6 := ⟨by rw [τn 6 (by decide), hI.1 6 (by decide) (by decide) (by decide)]; exact hru.1, fun o ho => zRuL_of (hru.2 o ho) (fun k h1 h2 => by rw [τn (6 + k) (by omega), hI.1 (6 + k) (by omega) (by omega) (by omega)])⟩
  have hir := z_isRight ok v (Or.inl rfl) z_sl38 hruτ hU
  have back : ∀ τ2 : sj_S, (∀ c, c ≠ 36 → c ≠ 37 → τ2 c = τ c) → wp_X6_trySwap_42 G (.ok 0, sj_up τ2 38 (upd (upd (τ 38) l (nI (T l))) o (nI (T o)))) (nI l) (nI o) τ2 := fun τ2 h2 => by
    refine ⟨hil, hil, hio, hio, ?_⟩
    rw [kl, ko, h2 3 (by decide) (by decide), τn 3 (by decide), e3 l hl, e3 o ho]
    refine congrArg (fun z => ((.ok 0, z) : sj_R)) ?_
    funext c
    by_cases q : c = 38
    · subst q
      rw [sj_up_s, z_sta, z_sta, h2 38 (by decide) (by decide)]
    · rw [z_upn q, z_stn q, z_stn q]
  have hf : ∀ i, i < dN D → upd (upd (τ 38) l (nI (T l))) o (nI (T o)) i = nI (T i) := fun i hi => by
    unfold upd
    by_cases e : i = o
    · rw [if_pos e, e]
    · rw [if_neg e]
      by_cases e2 : i = l
      · rw [if_pos e2, e2]
      · rw [if_neg e2, (hU i hi).1]
        unfold zSw
        rw [if_neg e, if_neg e2]
  cases hg : zRb D (zHd D) (zSw T l o)
  · rw [hg] at hir
    refine ⟨sj_up τ 38 (upd (upd (τ 38) l (nI (T l))) o (nI (T o))), c_X6_trySwap ok ⟨hio, hil, hil, hio, ?_⟩, ?_⟩
    · rw [kl, ko, e3 l hl, e3 o ho, eτ]
      exact ⟨_, _, hir, fun _ => back τ (fun c _ _ => rfl), fun q => absurd nI_0 q⟩
    · rw [zTry_f]
      exact ⟨fun c h1 h2 h3 => by rw [z_upn h3, τn c h3, hI.1 c h1 h2 h3], by rw [z_upn (by decide), τn 36 (by decide)]; exact hI.2.1, fun i hi => by rw [sj_up_s]; exact hf i hi, fun q i hi => by rw [z_upn (by decide), τn 37 (by decide)]; exact hI.2.2.2 q i hi⟩
  · rw [hg] at hir
    obtain ⟨ρ2, hw, w1, w2, w3⟩ := z_weigh (ρ := τ) ok (by rw [τn 2 (by decide), hI.1 2 (by decide) (by decide) (by decide)]; exact hC) v hU (m := st.1) (by have := zSv_le hv; omega) (by rw [τn 36 (by decide)]; exact hI.2.1)
    refine ⟨_, c_X6_trySwap ok ⟨hio, hil, hil, hio, ?_⟩, zMI_try (k := 2) (a := l) (b := o) (ρ2 := τ) hI (by decide) (fun c _ _ h3 => τn c h3) (by rw [τn 36 (by decide)]) (by rw [τn 37 (by decide)]) w1 w2 w3 hf⟩
    rw [kl, ko, e3 l hl, e3 o ho, eτ]
    exact ⟨_, _, hir, fun q => absurd q z_10, fun _ => ⟨_, hw, back ρ2 w1⟩⟩
theorem z_seekBest (ok : sj_ok G) (hC : repC D (σ 2)) (v : okD D) (hru : zRu D (zHd D) σ 6) (hT : repT (dN D) T (σ 3)) (hrt : zRi D (zHd D) T) : ∃ ρ, sj_C G 8 me_X6_seekBest [.ref (sj_ad G 36), .ref (sj_ad G 1), .ref (sj_ad G 6)] σ (.ok (nI (zCost D T - (zW2 D T (dN D)).1)), ρ) ∧ zMI D T σ (zW2 D T (dN D)) ρ := by
  have h9 := v.1
  have cT := zCost_lt (T := T) v
  have hc := z_costOf (σ := σ) ok hC v z_sl3 hT
  have tot : ∀ (st : zMS) (ρ : sj_S), zMI D T σ st ρ → ρ 6 0 = nI (dN D) := fun st ρ h => by rw [h.1 6 (by decide) (by decide) (by decide)]; exact hru.1
  -- the swaps
  have fin : ∀ ρ, zMI D T σ (zW2 D T (dN D)) ρ → wp_X6_seekBest_119 G (.ok (nI (zCost D T - (zW2 D T (dN D)).1)), ρ) (nI (zCost D T)) ρ := fun ρ h => by
    unfold wp_X6_seekBest_119
    rw [h.2.1, pk_sub (zSv_le (zW2_v (dN D) (Nat.le_refl _)))]
  have key2 : ∀ j l ρ0, l + j = dN D → zMI D T σ (zW2 D T l) ρ0 → ∃ ρ, sj_J G 8 me_X6_seekBest (.ok (nI (zCost D T - (zW2 D T (dN D)).1)), ρ) 66 [.ref (sj_ad G 36), .ref (sj_ad G 1), .ref (sj_ad G 6), .int (nI (zCost D T)), .int (nI l), .null] ρ0 [] ∧ zMI D T σ (zW2 D T (dN D)) ρ := by
    intro j
    induction j with
    | zero =>
      intro l ρ0 hl h0
      have : l = dN D := by omega
      subst this
      refine ⟨ρ0, t_X6_seekBest_66 ⟨fun _ => fin ρ0 h0, fun q => ?_⟩, h0⟩
      rw [tot _ _ h0] at q
      exact absurd (nI_le (by omega) (by omega)) q
    | succ j ih =>
      intro l ρ0 hl h0
      have hv := zW2_v (D := D) (T := T) l (by omega)
      by_cases hz : (zW2 D T l).1 = 0
      · have e := zW2_0 hz (j + 1)
        rw [show l + (j + 1) = dN D by omega] at e
        rw [e]
        rw [← e] at h0
        refine ⟨ρ0, t_X6_seekBest_66 ⟨fun q => ?_, fun _ => ⟨fun _ => ?_, fun q => ?_⟩⟩, by rw [← e]; exact h0⟩
        · rw [tot _ _ h0] at q
          exact absurd q (nI_ge (by omega) (by omega))
        · rw [← e]
          exact fin ρ0 h0
        · rw [h0.2.1, e, hz] at q
          exact absurd (by decide) q
      · have inner : ∀ m k ρ1, l + 1 + k + m = dN D → zMI D T σ (zW1 D T l (zW2 D T l) k) ρ1 → ∃ ρ, sj_J G 8 me_X6_seekBest (.ok (nI (zCost D T - (zW2 D T (dN D)).1)), ρ) 88 [.ref (sj_ad G 36), .ref (sj_ad G 1), .ref (sj_ad G 6), .int (nI (zCost D T)), .int (nI l), .int (nI (l + 1 + k))] ρ1 [] ∧ zMI D T σ (zW2 D T (dN D)) ρ := by
          intro m
          induction m with
          | zero =>
            intro k ρ1 hk h1
            have e : zW2 D T (l + 1) = zW1 D T l (zW2 D T l) k := by
              show zW1 D T l (zW2 D T l) (dN D - (l + 1)) = _
              rw [show dN D - (l + 1) = k by omega]
            obtain ⟨ρ, hJ, hI⟩ := ih (l + 1) ρ1 (by omega) (by rw [e]; exact h1)
            refine ⟨ρ, t_X6_seekBest_88 ⟨fun _ => ?_, fun q => ?_⟩, hI⟩
            · rw [nI_add]; exact hJ
            · rw [tot _ _ h1] at q
              exact absurd (nI_le (by omega) (by omega)) q
          | succ m ihm =>
            intro k ρ1 hk h1
            obtain ⟨ρ2, hs, h2⟩ := z_trySwap (σ := σ) (ρ := ρ1) ok hC v hru hT (zW1_v hv k (by omega)) h1 (l := l) (o := l + 1 + k) (by omega) (by omega) (by omega)
            obtain ⟨ρ, hJ, hI⟩ := ihm (k + 1) ρ2 (by omega) h2
            refine ⟨ρ, t_X6_seekBest_88 ⟨fun q => ?_, fun _ => ⟨_, hs, ?_⟩⟩, hI⟩
            · rw [tot _ _ h1] at q
              exact absurd q (nI_ge (by omega) (by omega))
            · rw [nI_add]
              exact hJ
        obtain ⟨ρ, hJ, hI⟩ := inner (dN D - (l + 1)) 0 ρ0 (by omega) h0
        refine ⟨ρ, t_X6_seekBest_66 ⟨fun q => ?_, fun _ => ⟨fun q => ?_, fun _ => ?_⟩⟩, hI⟩
        · rw [tot _ _ h0] at q
          exact absurd q (nI_ge (by omega) (by omega))
        · rw [h0.2.1] at q
          have := zSv_le hv
          exact absurd q (nI_nle (by omega) (by omega))
        · rw [nI_add]
          exact hJ
  have key1 : ∀ j l ρ0, l + j = dN D → zMI D T σ (zS2 D T l) ρ0 → ∃ ρ, sj_J G 8 me_X6_seekBest (.ok (nI (zCost D T - (zW2 D T (dN D)).1)), ρ) 33 [.ref (sj_ad G 36), .ref (sj_ad G 1), .ref (sj_ad G 6), .int (nI (zCost D T)), .int (nI l), .null] ρ0 [] ∧ zMI D T σ (zW2 D T (dN D)) ρ := by
    intro j
    induction j with
    | zero =>
      intro l ρ0 hl h0
      have : l = dN D := by omega
      subst this
      obtain ⟨ρ, hJ, hI⟩ := key2 (dN D) 0 ρ0 (by omega) h0
      refine ⟨ρ, t_X6_seekBest_33 ⟨fun _ => hJ, fun q => ?_⟩, hI⟩
      rw [tot _ _ h0] at q
      exact absurd (nI_le (by omega) (by omega)) q
    | succ j ih =>
      intro l ρ0 hl h0
      have hv := zS2_v (D := D) (T := T) l (by omega)
      by_cases hz : (zS2 D T l).1 = 0
      · have e := zS2_0 hz (j + 1)
        rw [show l + (j + 1) = dN D by omega] at e
        obtain ⟨ρ, hJ, hI⟩ := key2 (dN D) 0 ρ0 (by omega) (by show zMI D T σ (zS2 D T (dN D)) ρ0; rw [e]; exact h0)
        refine ⟨ρ, t_X6_seekBest_33 ⟨fun q => ?_, fun _ => ⟨fun _ => hJ, fun q => ?_⟩⟩, hI⟩
        · rw [tot _ _ h0] at q
          exact absurd q (nI_ge (by omega) (by omega))
        · rw [h0.2.1, hz] at q
          exact absurd (by decide) q
      · obtain ⟨ρ2, hs, h2⟩ := z_trySlots (σ := σ) (ρ := ρ0) ok hC v hru hT hrt hv h0 (l := l) (by omega)
        obtain ⟨ρ, hJ, hI⟩ := ih (l + 1) ρ2 (by omega) h2
        refine ⟨ρ, t_X6_seekBest_33 ⟨fun q => ?_, fun _ => ⟨fun q => ?_, fun _ => ⟨_, hs, ?_⟩⟩⟩, hI⟩
        · rw [tot _ _ h0] at q
          exact absurd q (nI_ge (by omega) (by omega))
        · rw [h0.2.1] at q
          have := zSv_le hv
          exact absurd q (nI_nle (by omega) (by omega))
        · rw [nI_add]
          exact hJ
  have hI0 : zMI D T σ (zS2 D T 0) (sj_up (sj_st σ 36 2 (nI (zCost D T))) 38 (va_cpy (σ 3) (σ 38) 0 0 9)) := by
    refine ⟨fun c h1 h2 h3 => by rw [z_upn h3, z_stn h1], by rw [z_upn (by decide), z_ste]; rfl, fun i hi => ?_, fun q => absurd rfl q⟩
    rw [sj_up_s]
    unfold va_cpy
    rw [if_pos (by omega), show 0 + (i - 0) = i by omega]
    exact (hT i hi).1
  obtain ⟨ρ, hJ, hI⟩ := key1 (dN D) 0 _ (by omega) hI0
  exact ⟨ρ, c_X6_seekBest ok ⟨_, _, hc, hJ⟩, hI⟩
end ZIM
