/-! School.fulfils -/
section ZPF
variable {G : sj_G} {σ : sj_S} {D : zD} {T : Nat → Nat}
theorem z_d4 {t : Nat} (h : t < 20) : nI t / nI 4 = nI (t / 4) := pk_div (by omega) (by decide) (by decide)
theorem z_fulfils (ok : sj_ok G) (hC : repC D (σ 2)) (v : okD D) {w sl : Nat} (hsl : zSl sl) (hw : w < dW D) (hT : repT (dN D) T (σ sl)) : sj_C G 4 me_X8_fulfils [.ref (sj_ad G 1), .int (nI w), .ref (sj_ad G sl)] σ (.ok (if zFul D T w then nI 1 else nI 0), σ) := by
  have h9 := v.1
  have h12 := v.2.1
  obtain ⟨e0, e1, e2, -⟩ := hC.2.2.2.2.1 w hw
  obtain ⟨v1, -, a0, a1, a2, a3, a4⟩ := v.2.2.2.2.1 w hw
  have h0 := z_ofWish (σ := σ) ok (w := w) (k := 0) (by omega) (by decide)
  have h1 := z_ofWish (σ := σ) ok (w := w) (k := 1) (by omega) (by decide)
  have h2 := z_ofWish (σ := σ) ok (w := w) (k := 2) (by omega) (by decide)
  rw [e0] at h0
  rw [e1] at h1
  rw [e2] at h2
  have hz : ∀ b p i, i < 32 → bt (zSp D b p T (dN D)) i = zAny D b p T i (dN D) := fun b p i hi => zSp_bt hi (dN D) (fun l hl => by have := (hT l hl).2; omega)
  have ef : zFul D T w = (if dSo D w = 0 then !zAny D 1 (dA D w) T (dB D w) (dN D) else if dSo D w = 1 then !zAny D 0 (dA D w) T (dB D w) (dN D) else if dSo D w = 2 then !decide (T (dA D w) / 4 = dB D w) else if dSo D w = 3 then decide (T (dA D w) = dB D w)
    else if dSo D w = 4 then decide (T (dA D w) / 4 = T (dB D w) / 4) else if dSo D w = 5 then !decide (T (dA D w) / 4 = T (dB D w) / 4) else decide (T (dA D w) < T (dB D w))) := rfl
  have eT : ∀ l, l < dN D → σ sl (nI l).toNatClampNeg = nI (T l) ∧ T l < 20 := fun l hl => by
    rw [nI_clamp (by omega)]
    exact hT l hl
  generalize dSo D w = s at *
  generalize dA D w = a at *
  generalize dB D w = b at *
  have e : ∀ k, k < 7 → (nI s = nI k) = (s = k) := fun k hk => by rw [nI_eq (by omega) (by omega)]
  have b01 : ∀ (c : Prop) [Decidable c], (if c then nI 1 else nI 0) = nI 0 ∨ (if c then nI 1 else nI 0) = nI 1 := fun c _ => by
    by_cases q : c
    · rw [if_pos q]; exact Or.inr rfl
    · rw [if_neg q]; exact Or.inl rfl
  have b10 : ∀ (c : Prop) [Decidable c], (if c then nI 0 else nI 1) = nI 0 ∨ (if c then nI 0 else nI 1) = nI 1 := fun c _ => by
    by_cases q : c
    · rw [if_pos q]; exact Or.inl rfl
    · rw [if_neg q]; exact Or.inr rfl
  refine c_X8_fulfils ok hsl ⟨_, _, h1, _, _, h2, _, _, h0, fun q => ?_, fun q => ?_, fun q => ?_, fun q => ?_, fun q => ?_, fun q => ?_, fun q0 q1 q2 q3 q4 q5 => ?_⟩
  · rw [e 0 (by decide)] at q
    obtain ⟨ha, hb⟩ := a0 q
    refine ⟨_, _, z_slotsOfPerson (b := 1) (p := a) ok hC v hsl (by decide) (by omega) hT, ?_⟩
    unfold wp_X8_fulfils_80
    rw [ef, if_pos q]
    simp only [z_bit (by omega : b < 32), hz 1 a b (by omega)]
    cases zAny D 1 a T b (dN D)
    · exact ⟨rfl, Or.inr rfl⟩
    · exact ⟨rfl, Or.inl rfl⟩
  · rw [e 1 (by decide)] at q
    obtain ⟨ha, hb⟩ := a1 q
    refine ⟨_, _, z_slotsOfPerson (b := 0) (p := a) ok hC v hsl (by decide) (by omega) hT, ?_⟩
    unfold wp_X8_fulfils_101
    rw [ef, if_neg (show ¬ s = 0 by omega), if_pos q]
    simp only [z_bit (by omega : b < 32), hz 0 a b (by omega)]
    cases zAny D 0 a T b (dN D)
    · exact ⟨rfl, Or.inr rfl⟩
    · exact ⟨rfl, Or.inl rfl⟩
  · rw [e 2 (by decide)] at q
    obtain ⟨ha, hb⟩ := a2 q
    obtain ⟨t1, t2⟩ := eT a ha
    refine ⟨z_in (by omega) (by decide), ?_⟩
    unfold wp_X8_fulfils_117
    refine ⟨?_, b10 _⟩
    rw [ef, if_neg (show ¬ s = 0 by omega), if_neg (show ¬ s = 1 by omega), if_pos q, t1, z_d4 t2]
    by_cases r : T a / 4 = b
    · rw [if_pos (show nI (T a / 4) = nI b by rw [r]), decide_eq_true r]; rfl
    · rw [if_neg (show ¬ nI (T a / 4) = nI b by rw [nI_eq (by omega) (by omega)]; exact r), decide_eq_false r]; rfl
  · rw [e 3 (by decide)] at q
    obtain ⟨ha, hb⟩ := a3 q
    obtain ⟨t1, t2⟩ := eT a ha
    refine ⟨z_in (by omega) (by decide), ?_⟩
    unfold wp_X8_fulfils_131
    refine ⟨?_, b01 _⟩
    rw [ef, if_neg (show ¬ s = 0 by omega), if_neg (show ¬ s = 1 by omega), if_neg (show ¬ s = 2 by omega), if_pos q, t1]
    by_cases r : T a = b
    · rw [if_pos (show nI (T a) = nI b by rw [r]), decide_eq_true r]; rfl
    · rw [if_neg (show ¬ nI (T a) = nI b by rw [nI_eq (by omega) (by omega)]; exact r), decide_eq_false r]; rfl
  · rw [e 4 (by decide)] at q
    obtain ⟨ha, hb, -⟩ := a4 (by omega)
    obtain ⟨t1, t2⟩ := eT a ha
    obtain ⟨u1, u2⟩ := eT b hb
    refine ⟨z_in (by omega) (by decide), z_in (by omega) (by decide), ?_⟩
    unfold wp_X8_fulfils_151
    refine ⟨?_, b01 _⟩
    rw [ef, if_neg (show ¬ s = 0 by omega), if_neg (show ¬ s = 1 by omega), if_neg (show ¬ s = 2 by omega), if_neg (show ¬ s = 3 by omega), if_pos q, t1, z_d4 t2, u1, z_d4 u2]
    by_cases r : T a / 4 = T b / 4
    · rw [if_pos (show nI (T a / 4) = nI (T b / 4) by rw [r]), decide_eq_true r]; rfl
    · rw [if_neg (show ¬ nI (T a / 4) = nI (T b / 4) by rw [nI_eq (by omega) (by omega)]; exact r), decide_eq_false r]; rfl
  · rw [e 5 (by decide)] at q
    obtain ⟨ha, hb, -⟩ := a4 (by omega)
    obtain ⟨t1, t2⟩ := eT a ha
    obtain ⟨u1, u2⟩ := eT b hb
    refine ⟨z_in (by omega) (by decide), z_in (by omega) (by decide), ?_⟩
    unfold wp_X8_fulfils_171
    refine ⟨?_, b10 _⟩
    rw [ef, if_neg (show ¬ s = 0 by omega), if_neg (show ¬ s = 1 by omega), if_neg (show ¬ s = 2 by omega), if_neg (show ¬ s = 3 by omega), if_neg (show ¬ s = 4 by omega), if_pos q, t1, z_d4 t2, u1, z_d4 u2]
    by_cases r : T a / 4 = T b / 4
    · rw [if_pos (show nI (T a / 4) = nI (T b / 4) by rw [r]), decide_eq_true r]; rfl
    · rw [if_neg (show ¬ nI (T a / 4) = nI (T b / 4) by rw [nI_eq (by omega) (by omega)]; exact r), decide_eq_false r]; rfl
  · rw [e 0 (by decide)] at q0
    rw [e 1 (by decide)] at q1
    rw [e 2 (by decide)] at q2
    rw [e 3 (by decide)] at q3
    rw [e 4 (by decide)] at q4
    rw [e 5 (by decide)] at q5
    obtain ⟨ha, hb, -⟩ := a4 (by omega)
    obtain ⟨t1, t2⟩ := eT a ha
    obtain ⟨u1, u2⟩ := eT b hb
    refine ⟨z_in (by omega) (by decide), z_in (by omega) (by decide), ?_⟩
    unfold wp_X8_fulfils_187
    refine ⟨?_, b10 _⟩
    rw [ef, if_neg q0, if_neg q1, if_neg q2, if_neg q3, if_neg q4, if_neg q5, t1, u1]
    by_cases r : T a < T b
    · rw [if_neg (nI_ge r (by omega)), decide_eq_true r]; rfl
    · rw [if_pos (show nI (T b) ≤ nI (T a) from nI_le (by omega) (by omega)), decide_eq_false r]; rfl
end ZPF
