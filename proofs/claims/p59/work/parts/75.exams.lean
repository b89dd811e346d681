/-! exams: the first plan, by the class and by the reference -/
theorem q_any_mono1 {p : Nat → Bool} {i n : Nat} (hi : i < n) (h : p i = true) : q_any p n = true := (q_any_iff n).mpr ⟨i, hi, h⟩
def zEo (D : zD) (f : Nat → Nat) (e c : Nat) : Bool := !q_any (fun o => (dAp D e).testBit o && decide (f o = c)) e
def zEu (f : Nat → Nat) (e c : Nat) : Nat → Nat := fun o => if o = e then c else f o
def zEc (P : Nat → Option (Nat → Nat)) : Nat → Nat → Option (Nat → Nat)
  | 0, _ => none
  | k + 1, c => if (P c).isSome then P c else zEc P k (c + 1)
def zEf (D : zD) (days : Nat) : Nat → Nat → (Nat → Nat) → Option (Nat → Nat)
  | 0, _, f => some f
  | n + 1, e, f => zEc (fun c => if zEo D f e c then zEf D days n (e + 1) (zEu f e c) else none) days 0
def zEq (D : zD) (days : Nat) : Nat → Nat → (Nat → Nat) → Nat → Option (Nat → Nat)
  | 0, _, f, _ => some f
  | n + 1, e, f, b => zEc (fun c => if zEo D f e c then zEq D days n (e + 1) (zEu f e c) (max b (c + 1)) else none) (min days (b + 1)) 0
def zEx (D : zD) (days n e : Nat) (f g : Nat → Nat) : Prop := (∀ o, o < e → g o = f o) ∧ ∀ i, e ≤ i → i < e + n → g i < days ∧ zEo D g i (g i) = true
theorem zEo_congr {D : zD} {f g : Nat → Nat} {e c : Nat} (h : ∀ o, o < e → f o = g o) : zEo D f e c = zEo D g e c := by
  unfold zEo
  rw [q_any_congr e (fun o ho => by rw [h o ho])]
theorem zEc_none {P : Nat → Option (Nat → Nat)} : ∀ k c, zEc P k c = none ↔ ∀ i, i < k → P (c + i) = none := by
  intro k
  induction k with
  | zero => exact fun c => ⟨fun _ i hi => absurd hi (by omega), fun _ => rfl⟩
  | succ k ih =>
    intro c
    unfold zEc
    by_cases h : (P c).isSome
    · rw [if_pos h]
      refine ⟨fun q => ?_, fun q => q 0 (by omega)⟩
      rw [q] at h; exact absurd h (by decide)
    · rw [if_neg h, ih]
      have h0 : P c = none := by
        cases e : P c with
        | none => rfl
        | some g => rw [e] at h; exact absurd rfl h
      refine ⟨fun q i hi => ?_, fun q i hi => ?_⟩
      · cases i with
        | zero => exact h0
        | succ i => have := q i (by omega); rw [show c + (i + 1) = c + 1 + i by omega]; exact this
      · rw [show c + 1 + i = c + (i + 1) by omega]; exact q _ (by omega)
theorem zEc_congr {P Q : Nat → Option (Nat → Nat)} : ∀ k c, (∀ i, i < k → P (c + i) = Q (c + i)) → zEc P k c = zEc Q k c := by
  intro k
  induction k with
  | zero => exact fun c _ => rfl
  | succ k ih =>
    intro c h
    unfold zEc
    rw [show P c = Q c from h 0 (by omega), ih (c + 1) (fun i hi => by rw [show c + 1 + i = c + (i + 1) by omega]; exact h _ (by omega))]
theorem zEc_cut {P : Nat → Option (Nat → Nat)} : ∀ m k c, m < k → (∀ i, m < i → i < k → P (c + m) = none → P (c + i) = none) → zEc P k c = zEc P (m + 1) c := by
  intro m
  induction m with
  | zero =>
    intro k c hk h
    obtain ⟨k, rfl⟩ := Nat.exists_eq_succ_of_ne_zero (by omega : k ≠ 0)
    by_cases h0 : (P c).isSome
    · unfold zEc
      rw [if_pos h0, if_pos h0]
    · have h1 : P c = none := by
        cases e : P c with
        | none => rfl
        | some g => rw [e] at h0; exact absurd rfl h0
      rw [(zEc_none _ c).mpr, (zEc_none _ c).mpr]
      · intro i hi
        obtain rfl : i = 0 := by omega
        exact h1
      · intro i hi
        cases i with
        | zero => exact h1
        | succ i => exact h _ (by omega) hi h1
  | succ m ih =>
    intro k c hk h
    obtain ⟨k, rfl⟩ := Nat.exists_eq_succ_of_ne_zero (by omega : k ≠ 0)
    have := ih k (c + 1) (by omega) (fun i h1 h2 h3 => by
      rw [show c + 1 + i = c + (i + 1) by omega]
      refine h (i + 1) (by omega) (by omega) ?_
      rw [show c + (m + 1) = c + 1 + m by omega]; exact h3)
    show (if (P c).isSome then P c else zEc P k (c + 1)) = (if (P c).isSome then P c else zEc P (m + 1) (c + 1))
    rw [this]
theorem zEc_some {P : Nat → Option (Nat → Nat)} {g : Nat → Nat} : ∀ k c, zEc P k c = some g → ∃ i, i < k ∧ P (c + i) = some g := by
  intro k
  induction k with
  | zero => exact fun c h => absurd h (by unfold zEc; exact fun q => by cases q)
  | succ k ih =>
    intro c h
    unfold zEc at h
    by_cases h0 : (P c).isSome
    · rw [if_pos h0] at h
      exact ⟨0, by omega, h⟩
    · rw [if_neg h0] at h
      obtain ⟨i, hi, e⟩ := ih (c + 1) h
      exact ⟨i + 1, by omega, by rw [show c + (i + 1) = c + 1 + i by omega]; exact e⟩
theorem zEf_good {D : zD} {days : Nat} {g : Nat → Nat} : ∀ n e f, zEf D days n e f = some g → zEx D days n e f g := by
  intro n
  induction n with
  | zero =>
    intro e f h
    have : f = g := Option.some.inj h
    subst this
    exact ⟨fun _ _ => rfl, fun i h1 h2 => absurd h1 (by omega)⟩
  | succ n ih =>
    intro e f h
    obtain ⟨c, hc, h⟩ := zEc_some days 0 h
    rw [Nat.zero_add] at h
    by_cases ho : zEo D f e c = true
    · simp only [ho, if_true] at h
      obtain ⟨h1, h2⟩ := ih (e + 1) (zEu f e c) h
      have he : g e = c := by rw [h1 e (by omega)]; exact if_pos rfl
      have hlt : ∀ o, o < e → g o = f o := fun o ho => by rw [h1 o (by omega)]; exact if_neg (by omega)
      refine ⟨hlt, fun i h3 h4 => ?_⟩
      by_cases q : i = e
      · subst q
        rw [he]
        exact ⟨hc, by rw [zEo_congr hlt]; exact ho⟩
      · exact h2 i (by omega) (by omega)
    · simp only [ho, Bool.false_eq_true, if_false] at h
      cases h
theorem zEf_some {D : zD} {days : Nat} {g : Nat → Nat} : ∀ n e f, zEx D days n e f g → ¬ zEf D days n e f = none := by
  intro n
  induction n with
  | zero => exact fun e f _ h => by cases h
  | succ n ih =>
    intro e f h q
    have q := (zEc_none days 0).mp q (g e) (h.2 e (by omega) (by omega)).1
    rw [Nat.zero_add] at q
    have ho : zEo D f e (g e) = true := by
      rw [zEo_congr (fun o ho => (h.1 o ho).symm)]
      exact (h.2 e (by omega) (by omega)).2
    simp only [ho, if_true] at q
    refine ih (e + 1) _ ⟨fun o ho => ?_, fun i h1 h2 => h.2 i (by omega) (by omega)⟩ q
    by_cases e1 : o = e
    · subst e1; exact (if_pos rfl).symm
    · exact (h.1 o (by omega)).trans (if_neg e1).symm
theorem zEq_eq {D : zD} {days : Nat} : ∀ n e f b, (∀ o, o < e → f o < b) → zEq D days n e f b = zEf D days n e f := by
  intro n
  induction n with
  | zero => exact fun e f b _ => rfl
  | succ n ih =>
    intro e f b hb
    have hP : (fun c => if zEo D f e c then zEq D days n (e + 1) (zEu f e c) (max b (c + 1)) else none) = (fun c => if zEo D f e c then zEf D days n (e + 1) (zEu f e c) else none) := by
      funext c
      rw [ih (e + 1) (zEu f e c) (max b (c + 1)) (fun o ho => by
        show (if o = e then c else f o) < _
        split
        · omega
        · have := hb o (by omega); omega)]
    show zEc (fun c => if zEo D f e c then zEq D days n (e + 1) (zEu f e c) (max b (c + 1)) else none) (min days (b + 1)) 0 = zEc (fun c => if zEo D f e c then zEf D days n (e + 1) (zEu f e c) else none) days 0
    rw [hP]
    by_cases hd : days ≤ b + 1
    · rw [Nat.min_eq_left hd]
    · rw [Nat.min_eq_right (by omega)]
      refine (zEc_cut b days 0 (by omega) (fun i h1 h2 => ?_)).symm
      rw [Nat.zero_add, Nat.zero_add]
      have hob : zEo D f e b = true := by
        unfold zEo
        rw [Bool.not_eq_true', q_any_f]
        intro o ho
        rw [decide_eq_false (by have := hb o ho; omega), Bool.and_false]
      by_cases hoi : zEo D f e i = true
      · simp only [hob, hoi, if_true]
        intro hno
        cases hg : zEf D days n (e + 1) (zEu f e i) with
        | none => rfl
        | some g =>
          exfalso
          obtain ⟨g1, g2⟩ := zEf_good n (e + 1) _ hg
          have ge : g e = i := by rw [g1 e (by omega)]; exact if_pos rfl
          have gl : ∀ o, o < e → g o = f o := fun o ho => by rw [g1 o (by omega)]; exact if_neg (by omega)
          have hinj : ∀ x y, ((if x = i then b else if x = b then i else x) = (if y = i then b else if y = b then i else y)) = (x = y) := fun x y => by
            apply propext
            constructor
            · intro h
              split at h <;> split at h <;> (try split at h) <;> (try split at h) <;> omega
            · intro h; rw [h]
          refine zEf_some (g := fun o => if g o = i then b else if g o = b then i else g o) n (e + 1) _ ⟨fun o ho => ?_, fun j h3 h4 => ?_⟩ hno
          · by_cases q : o = e
            · subst q
              show (if g o = i then b else _) = (if o = o then b else _)
              rw [if_pos ge, if_pos rfl]
            · show (if g o = i then b else if g o = b then i else g o) = (if o = e then b else f o)
              have := hb o (by omega)
              rw [gl o (by omega), if_neg (by omega), if_neg (by omega), if_neg q]
          · obtain ⟨a1, a2⟩ := g2 j h3 h4
            refine ⟨?_, ?_⟩
            · show (if g j = i then b else if g j = b then i else g j) < days
              split
              · omega
              · split <;> omega
            · rw [← a2]
              unfold zEo
              rw [q_any_congr j (fun o ho => ?_)]
              show ((dAp D j).testBit o && decide ((if g o = i then b else if g o = b then i else g o) = (if g j = i then b else if g j = b then i else g j))) = _
              simp only [hinj]
      · simp only [hoi, Bool.false_eq_true, if_false]
        exact fun _ => True.intro
theorem zE_8 (D : zD) : ¬ zEf D 8 8 0 (fun _ => 0) = none := by
  refine zEf_some (g := fun i => i) 8 0 _ ⟨fun o ho => absurd ho (by omega), fun i _ h2 => ⟨by omega, ?_⟩⟩
  unfold zEo
  rw [Bool.not_eq_true', q_any_f]
  intro o ho
  rw [decide_eq_false (show ¬ o = i by omega), Bool.and_false]
theorem zE_few (D : zD) : ∃ d g, 1 ≤ d ∧ d ≤ 8 ∧ zEf D d 8 0 (fun _ => 0) = some g ∧ ∀ c, 1 ≤ c → c < d → zEf D c 8 0 (fun _ => 0) = none := by
  have key : ∀ k d, d + k = 8 → 1 ≤ d → (∀ c, 1 ≤ c → c < d → zEf D c 8 0 (fun _ => 0) = none) → ∃ d g, 1 ≤ d ∧ d ≤ 8 ∧ zEf D d 8 0 (fun _ => 0) = some g ∧ ∀ c, 1 ≤ c → c < d → zEf D c 8 0 (fun _ => 0) = none := by
    intro k
    induction k with
    | zero =>
      intro d hd h1 h
      obtain rfl : d = 8 := by omega
      cases hg : zEf D 8 8 0 (fun _ => 0) with
      | none => exact absurd hg (zE_8 D)
      | some g => exact ⟨8, g, h1, by omega, hg, h⟩
    | succ k ih =>
      intro d hd h1 h
      cases hg : zEf D d 8 0 (fun _ => 0) with
      | some g => exact ⟨d, g, h1, by omega, hg, h⟩
      | none =>
        refine ih (d + 1) (by omega) (by omega) (fun c c1 c2 => ?_)
        by_cases q : c = d
        · subst q; exact hg
        · exact h c c1 (by omega)
  exact key 7 1 (by omega) (by omega) (fun c c1 c2 => absurd c1 (by omega))
def zER (σ : sj_S) (p e : Nat) (o : Option (Nat → Nat)) (v : Int32) (σ' : sj_S) : Prop :=
  (∀ b, b ≠ p → σ' b = σ b) ∧ (∀ i, i < e → σ' p i = σ p i) ∧ (o = none → v = nI 0) ∧ ∀ g, o = some g → v = nI 1 ∧ ∀ i, i < 8 → σ' p i = nI (g i)
theorem zER_tr {σ σ1 σ' : sj_S} {p e e1 : Nat} {o : Option (Nat → Nat)} {v : Int32} (h1 : ∀ b, b ≠ p → σ1 b = σ b) (h2 : ∀ i, i < e → σ1 p i = σ p i) (he : e ≤ e1) (h : zER σ1 p e1 o v σ') : zER σ p e o v σ' :=
  ⟨fun b hb => (h.1 b hb).trans (h1 b hb), fun i hi => (h.2.1 i (by omega)).trans (h2 i hi), h.2.2⟩
section ZEX
variable {G : sj_G} {σ : sj_S} {D : zD}
theorem z_isFree (ok : sj_ok G) {f : Nat → Nat} {e c : Nat} (hA : σ 2 (111 + e) = nI (dAp D e)) (he : e < 8) (hc : c < 8) (hf : ∀ o, o < e → σ 45 o = nI (f o) ∧ f o < 8) :
    sj_C G 3 me_X3_isFree [.ref (sj_ad G 1), .ref (sj_ad G 45), .int (nI e), .int (nI c)] σ (.ok (if zEo D f e c then nI 1 else nI 0), σ) := by
  refine c_X3_isFree ok ?_
  have key : ∀ k i, i + k = e → q_any (fun o => (dAp D e).testBit o && decide (f o = c)) i = false → sj_J G 3 me_X3_isFree (.ok (if zEo D f e c then nI 1 else nI 0), σ) 3 [.ref (sj_ad G 1), .ref (sj_ad G 45), .int (nI e), .int (nI c), .int (nI i)] σ [] := by
    intro k
    induction k with
    | zero =>
      intro i hi hq
      obtain rfl : i = e := by omega
      refine t_X3_isFree_3 ⟨fun _ => ?_, fun q => absurd (nI_le (by omega) (by omega)) q⟩
      unfold zEo
      rw [hq]; rfl
    | succ k ih =>
      intro i hi hq
      obtain ⟨f1, f2⟩ := hf i (by omega)
      have hgo : ((dAp D e).testBit i && decide (f i = c)) = false → sj_J G 3 me_X3_isFree (.ok (if zEo D f e c then nI 1 else nI 0), σ) 3 [.ref (sj_ad G 1), .ref (sj_ad G 45), .int (nI e), .int (nI c), .int (nI i + nI 1)] σ [] := fun h => by
        rw [nI_add]
        refine ih (i + 1) (by omega) ?_
        show (q_any _ i || ((dAp D e).testBit i && decide (f i = c))) = false
        rw [hq, h]; rfl
      refine t_X3_isFree_3 ⟨fun q => absurd q (nI_ge (by omega) (by omega)), fun _ => ⟨z_in (by omega) (by decide), ?_⟩⟩
      rw [nI_clamp (by omega), f1, nI_eq (by omega) (by omega)]
      refine ⟨fun q => hgo (by rw [decide_eq_false q, Bool.and_false]), fun q => ⟨_, _, z_apartFrom ok he, ?_⟩⟩
      rw [hA, z_bit (by omega), z_bn _ _ (by omega)]
      refine ⟨fun h => hgo (by rw [h]; rfl), fun h => ?_⟩
      have : zEo D f e c = false := by
        unfold zEo
        rw [Bool.not_eq_false', q_any_iff]
        refine ⟨i, by omega, ?_⟩
        rw [Bool.not_eq_false] at h
        rw [h, decide_eq_true q]; rfl
      rw [this]; rfl
  exact key e 0 (by omega) rfl
theorem z_canHold (ok : sj_ok G) {days : Nat} (hd8 : days ≤ 8) : ∀ n e f b d σ, e + n = 8 → d + e = 40 → b ≤ 8 → (∀ e, e < 8 → σ 2 (111 + e) = nI (dAp D e)) → (∀ o, o < e → σ 45 o = nI (f o) ∧ f o < 8) →
    ∃ v σ', sj_C G d me_X3_canHold [.ref (sj_ad G 1), .ref (sj_ad G 45), .int (nI e), .int (nI b), .int (nI days)] σ (.ok v, σ') ∧ zER σ 45 e (zEq D days n e f b) v σ' := by
  intro n
  induction n with
  | zero =>
    intro e f b d σ he hd hb hA hf
    obtain rfl : e = 8 := by omega
    refine ⟨nI 1, σ, c_X3_canHold (dd := d - 1) ok (by omega) (by omega) ⟨fun q => absurd q (nI_nlt (Nat.le_refl _) (by omega)), fun _ => rfl⟩, fun _ _ => rfl, fun _ _ => rfl, fun q => (by cases q), fun g hg => ⟨rfl, fun i hi => ?_⟩⟩
    have : f = g := Option.some.inj hg
    rw [← this]
    exact (hf i hi).1
  | succ n ih =>
    intro e f b d σ he hd hb hA hf
    have inner : ∀ k c σ, c + k = min days (b + 1) → (∀ e, e < 8 → σ 2 (111 + e) = nI (dAp D e)) → (∀ o, o < e → σ 45 o = nI (f o) ∧ f o < 8) →
        ∃ v σ', sj_J G d me_X3_canHold (.ok v, σ') 11 [.ref (sj_ad G 1), .ref (sj_ad G 45), .int (nI e), .int (nI b), .int (nI days), .int (nI c)] σ [] ∧ zER σ 45 e (zEc (fun c => if zEo D f e c then zEq D days n (e + 1) (zEu f e c) (max b (c + 1)) else none) k c) v σ' := by
      intro k
      induction k with
      | zero =>
        intro c σ hc hA hf
        refine ⟨nI 0, σ, t_X3_canHold_11 (dd := d - 1) (by omega) (by omega) ⟨fun _ => rfl, fun q => ⟨fun _ => rfl, fun q2 => ?_⟩⟩, fun _ _ => rfl, fun _ _ => rfl, fun _ => rfl, fun g hg => by cases hg⟩
        rw [nI_leI (by omega) (by omega)] at q
        rw [nI_ltI (by omega) (by omega)] at q2
        omega
      | succ k ihk =>
        intro c σ hc hA hf
        have hcd : c < days := by omega
        have hcb : c ≤ b := by omega
        have hfr := z_isFree (σ := σ) (f := f) (c := c) ok (hA e (by omega)) (by omega) (by omega) hf
        have hmx : (if nI b < nI (c + 1) then nI (c + 1) else nI b) = nI (max b (c + 1)) := by
          by_cases q : b < c + 1
          · rw [if_pos (nI_lt q (by omega)), Nat.max_eq_right (by omega)]
          · rw [if_neg (nI_nlt (by omega) (by omega)), Nat.max_eq_left (by omega)]
        have hx1 : ¬ nI days ≤ nI c := nI_ge hcd (by omega)
        have hx2 : ¬ nI b < nI c := nI_nlt hcb (by omega)
        by_cases ho : zEo D f e c = true
        · rw [ho, if_pos rfl] at hfr
          obtain ⟨v1, σ1, hcl, r1, r2, r3, r4⟩ := ih (e + 1) (zEu f e c) (max b (c + 1)) (d - 1) (sj_st σ 45 e (nI c)) (by omega) (by omega) (by omega) (fun e he => by rw [z_stn (by decide)]; exact hA e he) (fun o ho => by
            show _ = nI (if o = e then c else f o) ∧ (if o = e then c else f o) < 8
            by_cases q : o = e
            · subst q
              rw [if_pos rfl, z_ste]
              exact ⟨rfl, by omega⟩
            · rw [if_neg q, z_sti q]
              exact hf o (by omega))
          have s1 : ∀ b, b ≠ 45 → σ1 b = σ b := fun b hb => by rw [r1 b hb, z_stn hb]
          have s2 : ∀ i, i < e → σ1 45 i = σ 45 i := fun i hi => by rw [r2 i (by omega), z_sti (by omega)]
          cases hz : zEq D days n (e + 1) (zEu f e c) (max b (c + 1)) with
          | some g =>
            obtain ⟨v1e, hg⟩ := r4 g hz
            subst v1e
            refine ⟨nI 1, σ1, t_X3_canHold_11 (dd := d - 1) (by omega) (by omega) ⟨fun q => absurd q hx1, fun _ => ⟨fun q => absurd q hx2, fun _ => ⟨_, _, hfr, fun q => absurd q z_10, fun _ => ⟨z_in (by omega) (by decide), _, _, by rw [nI_add, nI_add, hmx, nI_clamp (by omega)]; exact hcl, fun q => absurd q z_10, fun _ => rfl⟩⟩⟩⟩, s1, s2, fun q => ?_, fun g' hg' => ?_⟩
            · have : zEc (fun c => if zEo D f e c then zEq D days n (e + 1) (zEu f e c) (max b (c + 1)) else none) (k + 1) c = some g := by
                unfold zEc
                simp only [ho, hz, if_true, Option.isSome]
              rw [this] at q; cases q
            · have : zEc (fun c => if zEo D f e c then zEq D days n (e + 1) (zEu f e c) (max b (c + 1)) else none) (k + 1) c = some g := by
                unfold zEc
                simp only [ho, hz, if_true, Option.isSome]
              rw [this] at hg'
              rw [← Option.some.inj hg']
              exact ⟨rfl, hg⟩
          | none =>
            have v1e := r3 hz
            subst v1e
            obtain ⟨v, σ', hj, hr⟩ := ihk (c + 1) σ1 (by omega) (fun e he => by rw [s1 2 (by decide)]; exact hA e he) (fun o ho => by rw [s2 o ho]; exact hf o ho)
            refine ⟨v, σ', t_X3_canHold_11 (dd := d - 1) (by omega) (by omega) ⟨fun q => absurd q hx1, fun _ => ⟨fun q => absurd q hx2, fun _ => ⟨_, _, hfr, fun q => absurd q z_10, fun _ => ⟨z_in (by omega) (by decide), _, _, by rw [nI_add, nI_add, hmx, nI_clamp (by omega)]; exact hcl, fun _ => ?_, fun q => absurd nI_0 q⟩⟩⟩⟩, ?_⟩
            · unfold wp_X3_canHold_63
              rw [nI_add]; exact hj
            · have : zEc (fun c => if zEo D f e c then zEq D days n (e + 1) (zEu f e c) (max b (c + 1)) else none) (k + 1) c = zEc (fun c => if zEo D f e c then zEq D days n (e + 1) (zEu f e c) (max b (c + 1)) else none) k (c + 1) := by
                show (if ((if zEo D f e c then zEq D days n (e + 1) (zEu f e c) (max b (c + 1)) else none) : Option (Nat → Nat)).isSome then _ else _) = _
                rw [if_pos ho, hz]; rfl
              rw [this]
              exact zER_tr s1 s2 (Nat.le_refl _) hr
        · rw [Bool.not_eq_true] at ho
          rw [ho] at hfr
          obtain ⟨v, σ', hj, hr⟩ := ihk (c + 1) σ (by omega) hA hf
          refine ⟨v, σ', t_X3_canHold_11 (dd := d - 1) (by omega) (by omega) ⟨fun q => absurd q hx1, fun _ => ⟨fun q => absurd q hx2, fun _ => ⟨_, _, hfr, fun _ => ?_, fun q => absurd nI_0 q⟩⟩⟩, ?_⟩
          · unfold wp_X3_canHold_63
            rw [nI_add]; exact hj
          · have : zEc (fun c => if zEo D f e c then zEq D days n (e + 1) (zEu f e c) (max b (c + 1)) else none) (k + 1) c = zEc (fun c => if zEo D f e c then zEq D days n (e + 1) (zEu f e c) (max b (c + 1)) else none) k (c + 1) := by
              show (if ((if zEo D f e c then zEq D days n (e + 1) (zEu f e c) (max b (c + 1)) else none) : Option (Nat → Nat)).isSome then _ else _) = _
              rw [ho]; rfl
            rw [this]
            exact hr
    obtain ⟨v, σ', hj, hr⟩ := inner (min days (b + 1)) 0 σ (by omega) hA hf
    exact ⟨v, σ', c_X3_canHold (dd := d - 1) ok (by omega) (by omega) ⟨fun _ => hj, fun q => absurd (nI_lt (by omega) (by omega)) q⟩, hr⟩
end ZEX
