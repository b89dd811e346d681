/-! RULES 2: takeWish, take -/
theorem zWd_no {D : zD} {H : Nat → Bool} {s m : Nat} {f : Nat → Nat → Bool} (h : H m = false ∨ dSo D m ≠ s) : zWd D H s f (m + 1) = zWd D H s f m := by
  show (zWd D H s f m || (H m && decide (dSo D m = s) && f (dA D m) (dB D m))) = _
  rcases h with h | h
  · rw [h]; simp
  · rw [decide_eq_false h]; simp
theorem zWd_yes {D : zD} {H : Nat → Bool} {s m : Nat} {f : Nat → Nat → Bool} (h : H m = true) (h2 : dSo D m = s) : zWd D H s f (m + 1) = (zWd D H s f m || f (dA D m) (dB D m)) := by
  show (zWd D H s f m || (H m && decide (dSo D m = s) && f (dA D m) (dB D m))) = _
  rw [h, decide_eq_true h2]; rfl
theorem zOb_no {D : zD} {H : Nat → Bool} {l i m : Nat} (h : H m = false ∨ 3 < dSo D m) : zOb D H l i (m + 1) = zOb D H l i m := by
  have e : q_any (fun w => H w && decide (dSo D w ≤ 3) && !zF1 D (fun _ => i) w l) (m + 1) = q_any (fun w => H w && decide (dSo D w ≤ 3) && !zF1 D (fun _ => i) w l) m := by
    show (q_any _ m || (H m && decide (dSo D m ≤ 3) && !zF1 D (fun _ => i) m l)) = _
    rcases h with h | h
    · rw [h]; simp
    · rw [decide_eq_false (by omega)]; simp
  unfold zOb
  rw [e]
theorem zOb_yes {D : zD} {H : Nat → Bool} {l i m : Nat} (h : H m = true) (h2 : dSo D m ≤ 3) : zOb D H l i (m + 1) = (zOb D H l i m && zF1 D (fun _ => i) m l) := by
  have e : q_any (fun w => H w && decide (dSo D w ≤ 3) && !zF1 D (fun _ => i) w l) (m + 1) = (q_any (fun w => H w && decide (dSo D w ≤ 3) && !zF1 D (fun _ => i) w l) m || !zF1 D (fun _ => i) m l) := by
    show (q_any _ m || (H m && decide (dSo D m ≤ 3) && !zF1 D (fun _ => i) m l)) = _
    rw [h, decide_eq_true h2]; rfl
  unfold zOb
  rw [e, Bool.not_or, Bool.not_not, Bool.and_assoc, Bool.and_assoc]
section ZRW
variable {G : sj_G} {σ : sj_S} {D : zD} {T : Nat → Nat} {b : Nat}
theorem zRuL_up {H : Nat → Bool} {m l : Nat} {τ τ' : sj_S} (x y5 y6 y7 y8 : Nat → Bool) (h : zRuL D H m τ b l)
    (e2 : τ' (b + 2) l = τ (b + 2) l) (e3 : τ' (b + 3) l = τ (b + 3) l) (e4 : τ' (b + 4) l = τ (b + 4) l) (e9 : τ' (b + 9) l = τ (b + 9) l) (e10 : τ' (b + 10) l = τ (b + 10) l)
    (e1 : ∀ i, i < 32 → bt (τ' (b + 1) l) i = (bt (τ (b + 1) l) i && x i)) (x1 : ∀ i, i < 20 → zOb D H l i (m + 1) = (zOb D H l i m && x i))
    (e5 : ∀ o, o < 32 → bt (τ' (b + 5) l) o = (bt (τ (b + 5) l) o || y5 o)) (x5 : ∀ o, o < 32 → zWd D H 4 (zBoth l o) (m + 1) = (zWd D H 4 (zBoth l o) m || y5 o))
    (e6 : ∀ o, o < 32 → bt (τ' (b + 6) l) o = (bt (τ (b + 6) l) o || y6 o)) (x6 : ∀ o, o < 32 → zWd D H 5 (zBoth l o) (m + 1) = (zWd D H 5 (zBoth l o) m || y6 o))
    (e7 : ∀ o, o < 32 → bt (τ' (b + 7) l) o = (bt (τ (b + 7) l) o || y7 o)) (x7 : ∀ o, o < 32 → zWd D H 6 (fun a c => decide (a = o) && decide (c = l)) (m + 1) = (zWd D H 6 (fun a c => decide (a = o) && decide (c = l)) m || y7 o))
    (e8 : ∀ o, o < 32 → bt (τ' (b + 8) l) o = (bt (τ (b + 8) l) o || y8 o)) (x8 : ∀ o, o < 32 → zWd D H 6 (fun a c => decide (a = l) && decide (c = o)) (m + 1) = (zWd D H 6 (fun a c => decide (a = l) && decide (c = o)) m || y8 o)) : zRuL D H (m + 1) τ' b l := by
  obtain ⟨h1, h2, h3, h4, h5, h6, h7, h8, h9, h10⟩ := h
  refine ⟨fun i hi => ?_, e2.trans h2, e3.trans h3, fun o ho => by rw [e4]; exact h4 o ho, fun o ho => by rw [e5 o ho, h5 o ho, x5 o ho], fun o ho => by rw [e6 o ho, h6 o ho, x6 o ho, Bool.or_assoc], fun o ho => by rw [e7 o ho, h7 o ho, x7 o ho], fun o ho => by rw [e8 o ho, h8 o ho, x8 o ho], fun o ho => by rw [e9]; exact h9 o ho, e10.trans h10⟩
  rw [e1 i hi, h1 i hi]
  by_cases q : i < 20
  · rw [x1 i q, decide_eq_true q]; rfl
  · rw [decide_eq_false q]; rfl
theorem zRuL_skip {H : Nat → Bool} {m l : Nat} {τ : sj_S} (h : zRuL D H m τ b l) (hH : H m = false) : zRuL D H (m + 1) τ b l :=
  zRuL_up (fun _ => true) (fun _ => false) (fun _ => false) (fun _ => false) (fun _ => false) h rfl rfl rfl rfl rfl (fun i _ => by rw [Bool.and_true]) (fun i _ => by rw [Bool.and_true]; exact zOb_no (Or.inl hH)) (fun i _ => by rw [Bool.or_false]) (fun i _ => by rw [Bool.or_false]; exact zWd_no (Or.inl hH)) (fun i _ => by rw [Bool.or_false]) (fun i _ => by rw [Bool.or_false]; exact zWd_no (Or.inl hH)) (fun i _ => by rw [Bool.or_false]) (fun i _ => by rw [Bool.or_false]; exact zWd_no (Or.inl hH)) (fun i _ => by rw [Bool.or_false]) (fun i _ => by rw [Bool.or_false]; exact zWd_no (Or.inl hH))
theorem zRuL_one {H : Nat → Bool} {m l : Nat} {τ τ' : sj_S} (x : Nat → Bool) (h : zRuL D H m τ b l) (hn : ∀ c, c ≠ b + 1 → τ' c = τ c) (hH : H m = true) (h3 : dSo D m ≤ 3) (e1 : ∀ i, i < 32 → bt (τ' (b + 1) l) i = (bt (τ (b + 1) l) i && x i)) (x1 : ∀ i, i < 20 → zF1 D (fun _ => i) m l = x i) : zRuL D H (m + 1) τ' b l :=
  zRuL_up x (fun _ => false) (fun _ => false) (fun _ => false) (fun _ => false) h (by rw [hn _ (by omega)]) (by rw [hn _ (by omega)]) (by rw [hn _ (by omega)]) (by rw [hn _ (by omega)]) (by rw [hn _ (by omega)]) e1 (fun i hi => by rw [zOb_yes hH h3, x1 i hi]) (fun i _ => by rw [Bool.or_false, hn _ (by omega)]) (fun i _ => by rw [Bool.or_false]; exact zWd_no (Or.inr (by omega))) (fun i _ => by rw [Bool.or_false, hn _ (by omega)]) (fun i _ => by rw [Bool.or_false]; exact zWd_no (Or.inr (by omega))) (fun i _ => by rw [Bool.or_false, hn _ (by omega)]) (fun i _ => by rw [Bool.or_false]; exact zWd_no (Or.inr (by omega))) (fun i _ => by rw [Bool.or_false, hn _ (by omega)]) (fun i _ => by rw [Bool.or_false]; exact zWd_no (Or.inr (by omega)))
def zMk (s : Nat) (d : Int32) : Int32 := ((nI 1 <<< (nI s &&& 31)) ||| ((nI 1 <<< (nI s &&& 31)) >>> (d &&& 31))) ^^^ (-1)
theorem zMk_bt {s d i : Nat} (hs : s < 20) (hd : d ≤ 1) (hi : i < 32) : bt (zMk s (nI d)) i = !zTd d i s := by
  unfold zMk zTd
  rw [b_xor, b_m1 i hi, b_or, z_shl1 (by omega) hi, b_sshr d (by omega) _ hi, Bool.xor_true]
  congr 1
  rcases (by omega : d = 0 ∨ d = 1) with e | e <;> subst e
  · rw [if_pos (by omega), z_shl1 (by omega) (by omega)]
    rw [Bool.eq_iff_iff]
    simp only [Bool.or_eq_true, Bool.and_eq_true, decide_eq_true_eq]
    omega
  · by_cases q : 1 + i < 32
    · rw [if_pos q, z_shl1 (by omega) (by omega), Bool.eq_iff_iff, Bool.or_eq_true, Bool.or_eq_true, Bool.and_eq_true, decide_eq_true_eq, decide_eq_true_eq, decide_eq_true_eq, decide_eq_true_eq, decide_eq_true_eq]
      constructor
      · rintro (h | h)
        · exact Or.inl h.symm
        · exact Or.inr ⟨rfl, by omega⟩
      · rintro (h | ⟨-, h⟩)
        · exact Or.inl h.symm
        · exact Or.inr (by omega)
    · rw [if_neg q, z_shl1 (by omega) (by omega), Bool.eq_iff_iff, Bool.or_eq_true, Bool.or_eq_true, Bool.and_eq_true, decide_eq_true_eq, decide_eq_true_eq, decide_eq_true_eq, decide_eq_true_eq, decide_eq_true_eq]
      constructor
      · rintro (h | h)
        · exact Or.inl h.symm
        · omega
      · rintro (h | ⟨-, h⟩)
        · exact Or.inl h.symm
        · omega
def zSh (D : zD) (σ : sj_S) (b c a s : Nat) : Nat → sj_S
  | 0 => σ
  | l + 1 => if dP D c l = a then sj_st (zSh D σ b c a s l) (b + 1) l (zSh D σ b c a s l (b + 1) l &&& zMk s (zSh D σ b c a s l (b + 3) l)) else zSh D σ b c a s l
theorem zSh_n {c a s k : Nat} (h : k ≠ b + 1) : ∀ l, zSh D σ b c a s l k = σ k := by
  intro l
  induction l with
  | zero => rfl
  | succ l ih =>
    show (if dP D c l = a then _ else zSh D σ b c a s l) k = σ k
    split
    · rw [z_stn h]; exact ih
    · exact ih
theorem zSh_v {c a s j : Nat} : ∀ l, zSh D σ b c a s l (b + 1) j = if j < l ∧ dP D c j = a then σ (b + 1) j &&& zMk s (σ (b + 3) j) else σ (b + 1) j := by
  intro l
  induction l with
  | zero => rw [if_neg (by omega)]; rfl
  | succ l ih =>
    by_cases q : dP D c l = a
    · have e : zSh D σ b c a s (l + 1) = sj_st (zSh D σ b c a s l) (b + 1) l (zSh D σ b c a s l (b + 1) l &&& zMk s (zSh D σ b c a s l (b + 3) l)) := if_pos q
      rw [e]
      by_cases hj : j = l
      · subst hj
        rw [z_ste, ih, if_neg (by omega), zSh_n (by omega), if_pos ⟨by omega, q⟩]
      · rw [z_sti hj, ih]
        by_cases r : j < l ∧ dP D c j = a
        · rw [if_pos r, if_pos ⟨by omega, r.2⟩]
        · rw [if_neg r, if_neg (by omega)]
    · have e : zSh D σ b c a s (l + 1) = zSh D σ b c a s l := if_neg q
      rw [e, ih]
      by_cases r : j < l ∧ dP D c j = a
      · rw [if_pos r, if_pos ⟨by omega, r.2⟩]
      · have r2 : ¬ (j < l + 1 ∧ dP D c j = a) := by
          rintro ⟨z1, z2⟩
          by_cases hj : j = l
          · exact q (hj ▸ z2)
          · exact r ⟨by omega, z2⟩
        rw [if_neg r, if_neg r2]
def zTW (D : zD) (σ : sj_S) (b w : Nat) : sj_S :=
  if dSo D w = 0 then zSh D σ b 1 (dA D w) (dB D w) (dN D) else if dSo D w = 1 then zSh D σ b 0 (dA D w) (dB D w) (dN D)
  else if dSo D w = 2 then sj_st σ (b + 1) (dA D w) (σ (b + 1) (dA D w) &&& ((nI 15 <<< (nI (dB D w * 4) &&& 31)) ^^^ (-1)))
  else if dSo D w = 3 then sj_st σ (b + 1) (dA D w) (σ (b + 1) (dA D w) &&& (nI 1 <<< (nI (dB D w) &&& 31)))
  else if dSo D w = 4 then sj_st (sj_st σ (b + 5) (dA D w) (σ (b + 5) (dA D w) ||| (nI 1 <<< (nI (dB D w) &&& 31)))) (b + 5) (dB D w) (σ (b + 5) (dB D w) ||| (nI 1 <<< (nI (dA D w) &&& 31)))
  else if dSo D w = 5 then sj_st (sj_st σ (b + 6) (dA D w) (σ (b + 6) (dA D w) ||| (nI 1 <<< (nI (dB D w) &&& 31)))) (b + 6) (dB D w) (σ (b + 6) (dB D w) ||| (nI 1 <<< (nI (dA D w) &&& 31)))
  else sj_st (sj_st σ (b + 7) (dB D w) (σ (b + 7) (dB D w) ||| (nI 1 <<< (nI (dA D w) &&& 31)))) (b + 8) (dA D w) (σ (b + 8) (dA D w) ||| (nI 1 <<< (nI (dB D w) &&& 31)))
theorem zTW_n {w k : Nat} (h : ∀ j, 1 ≤ j → j ≤ 10 → k ≠ b + j) : zTW D σ b w k = σ k := by
  have h1 := h 1 (by decide) (by decide)
  have h5 := h 5 (by decide) (by decide)
  have h6 := h 6 (by decide) (by decide)
  have h7 := h 7 (by decide) (by decide)
  have h8 := h 8 (by decide) (by decide)
  unfold zTW
  split
  · exact zSh_n h1 _
  split
  · exact zSh_n h1 _
  split
  · exact z_stn h1
  split
  · exact z_stn h1
  split
  · rw [z_stn h5, z_stn h5]
  split
  · rw [z_stn h6, z_stn h6]
  · rw [z_stn h8, z_stn h7]
theorem z_takeWish (ok : sj_ok G) (hC : repC D (σ 2)) (v : okD D) (hb : b = 6 ∨ b = 18) (h0 : σ b 0 = nI (dN D)) {w : Nat} (hw : w < dW D) : sj_C G 3 me_X7_takeWish [.ref (sj_ad G b), .ref (sj_ad G 1), .int (nI (dSo D w)), .int (nI (dA D w)), .int (nI (dB D w))] σ (.ok 0, zTW D σ b w) := by
  have h9 := v.1
  obtain ⟨v1, -, a0, a1, a2, a3, a4⟩ := v.2.2.2.2.1 w hw
  unfold zTW
  generalize dSo D w = s at *
  generalize dA D w = a at *
  generalize dB D w = c at *
  have e : ∀ k, k < 7 → (nI s = nI k) = (s = k) := fun k hk => by rw [nI_eq (by omega) (by omega)]
  have e0 : (nI s = 0) = (s = 0) := z_eq0 (by omega)
  have loop : ∀ g, (g = 1 ∧ s = 0) ∨ (g = 0 ∧ s = 1) → a < 6 → sj_J G 3 me_X7_takeWish (.ok 0, zSh D σ b g a c (dN D)) 12 [.ref (sj_ad G b), .ref (sj_ad G 1), .int (nI s), .int (nI a), .int (nI c), .int (nI 0)] σ [] := by
    intro g hg ha
    have key : ∀ j i, i + j = dN D → sj_J G 3 me_X7_takeWish (.ok 0, zSh D σ b g a c (dN D)) 12 [.ref (sj_ad G b), .ref (sj_ad G 1), .int (nI s), .int (nI a), .int (nI c), .int (nI i)] (zSh D σ b g a c i) [] := by
      intro j
      induction j with
      | zero =>
        intro i hi
        have : i = dN D := by omega
        subst this
        refine t_X7_takeWish_12 hb ⟨fun _ => rfl, fun q => ?_⟩
        rw [zSh_n (by omega), h0] at q
        exact absurd (nI_le (by omega) (by omega)) q
      | succ j ih =>
        intro i hi
        have h1 := ih (i + 1) (by omega)
        have hn : zSh D σ b g a c (i + 1) = if dP D g i = a then sj_st (zSh D σ b g a c i) (b + 1) i (zSh D σ b g a c i (b + 1) i &&& zMk c (zSh D σ b g a c i (b + 3) i)) else zSh D σ b g a c i := rfl
        have hin : vp_in (nI i) 9 := z_in (by omega) (by decide)
        have eg : (if nI s = 0 then nI 1 else nI 0) = nI g := by
          rcases hg with ⟨g1, g2⟩ | ⟨g1, g2⟩
          · rw [if_pos (e0.mpr g2), g1]
          · rw [if_neg (fun z => by have := e0.mp z; omega), g1]
        refine t_X7_takeWish_12 hb ⟨fun q => ?_, fun _ => ?_⟩
        · rw [zSh_n (by omega), h0] at q
          exact absurd q (nI_ge (by omega) (by omega))
        · unfold wp_X7_takeWish_33
          rw [eg]
          refine ⟨_, _, z_isOfD (D := D) ok (by rw [zSh_n (by omega)]; exact hC) v (by omega) (by omega) (by omega), fun _ => ⟨hin, hin, hin⟩, ?_⟩
          unfold wp_X7_takeWish_69
          rw [nI_clamp (by omega : i < 2 ^ 31), nI_add]
          by_cases q : dP D g i = a
          · rw [if_pos q] at hn
            rw [hn] at h1
            rw [if_pos q, if_neg z_10]
            exact h1
          · rw [if_neg q] at hn
            rw [hn] at h1
            rw [if_neg q, if_pos z_00]
            exact h1
    exact key (dN D) 0 (by omega)
  have hin : ∀ x, x < dN D → vp_in (nI x) 9 := fun x hx => z_in (by omega) (by decide)
  refine c_X7_takeWish ok hb ⟨fun q => ?_, fun q0 => ⟨fun q1 => ⟨fun q2 => ⟨fun q3 => ?_, fun q3 => ?_⟩, fun q2 => ?_⟩, fun q1 => ?_⟩⟩
  · rw [e0] at q
    rw [if_pos q]
    exact loop 1 (Or.inl ⟨rfl, q⟩) (a0 q).1
  · rw [e0] at q0
    rw [e 1 (by decide)] at q1
    rw [e 2 (by decide)] at q2
    rw [e 3 (by decide)] at q3
    obtain ⟨b1, b2, b3⟩ := a4 (by omega)
    refine ⟨fun _ _ => ⟨hin a b1, hin a b1, hin c b2, hin c b2⟩, fun _ _ => ⟨hin a b1, hin a b1, hin c b2, hin c b2⟩, fun _ => ⟨hin c b2, hin c b2, hin a b1, hin a b1⟩, ?_⟩
    unfold wp_X7_takeWish_200
    rw [if_neg q0, if_neg q1, if_neg q2, if_neg q3]
    simp only [e 6 (by decide), e 4 (by decide)]
    rw [nI_clamp (by omega), nI_clamp (by omega)]
    rcases (by omega : s = 4 ∨ s = 5 ∨ s = 6) with r | r | r
    · rw [if_pos r, if_neg (by omega), if_pos r, z_sti (fun z => b3 z.symm)]
    · rw [if_neg (by omega), if_pos r, if_neg (by omega), if_neg (by omega), z_sti (fun z => b3 z.symm)]
    · rw [if_neg (by omega), if_neg (by omega), if_pos r, z_stn (by omega)]
  · rw [e0] at q0
    rw [e 1 (by decide)] at q1
    rw [e 2 (by decide)] at q2
    rw [e 3 (by decide)] at q3
    obtain ⟨b1, b2⟩ := a3 q3
    refine ⟨hin a b1, hin a b1, ?_⟩
    unfold wp_X7_takeWish_200
    rw [if_neg q0, if_neg q1, if_neg q2, if_pos q3, nI_clamp (by omega)]
  · rw [e0] at q0
    rw [e 1 (by decide)] at q1
    rw [e 2 (by decide)] at q2
    obtain ⟨b1, b2⟩ := a2 q2
    refine ⟨hin a b1, hin a b1, ?_⟩
    unfold wp_X7_takeWish_200
    rw [if_neg q0, if_neg q1, if_pos q2, nI_clamp (by omega), pk_mul]
  · rw [e0] at q0
    rw [e 1 (by decide)] at q1
    rw [if_neg q0, if_pos q1]
    exact loop 0 (Or.inr ⟨rfl, q1⟩) (by have := (a1 q1).1; omega)
theorem zTW_ru {H : Nat → Bool} (v : okD D) {m : Nat} (hm : m < dW D) (hH : H m = true) (h : ∀ l, l < dN D → zRuL D H m σ b l) {l : Nat} (hl : l < dN D) : zRuL D H (m + 1) (zTW D σ b m) b l := by
  have h9 := v.1
  obtain ⟨v1, -, a0, a1, a2, a3, a4⟩ := v.2.2.2.2.1 m hm
  obtain ⟨-, -, -, -, vd⟩ := v.2.2.2.1 l hl
  have hr : σ (b + 3) l = nI (dDb D l) := (h l hl).2.2.1
  have shun : ∀ g, (g = 1 ∧ dSo D m = 0) ∨ (g = 0 ∧ dSo D m = 1) → dB D m < 20 → zRuL D H (m + 1) (zSh D σ b g (dA D m) (dB D m) (dN D)) b l := by
    intro g hg hs
    refine zRuL_one (fun i => !(decide (dP D g l = dA D m) && zTd (dDb D l) i (dB D m))) (h l hl) (fun c hc => zSh_n hc _) hH (by omega) (fun i hi => ?_) (fun i hi => ?_)
    · rw [zSh_v]
      by_cases q : dP D g l = dA D m
      · rw [if_pos ⟨hl, q⟩, b_and, hr, zMk_bt hs (by omega) hi, decide_eq_true q, Bool.true_and]
      · rw [if_neg (fun z => q z.2), decide_eq_false q]; simp
    · unfold zF1
      rcases hg with ⟨g1, g2⟩ | ⟨g1, g2⟩
      · subst g1
        have g2 : D 8 m = 0 := g2
        rw [if_pos g2]
        rfl
      · subst g1
        have g2 : D 8 m = 1 := g2
        rw [if_neg (by omega), if_pos g2]
        rfl
  have e4 : ∀ x y : Nat, x < 20 → ∀ o, o < 32 → bt (nI 1 <<< (nI x &&& 31)) o = decide (o = x) := fun x y hx o ho => z_shl1 (by omega) ho
  unfold zTW
  by_cases s0 : dSo D m = 0
  · rw [if_pos s0]
    exact shun 1 (Or.inl ⟨rfl, s0⟩) (a0 s0).2
  rw [if_neg s0]
  by_cases s1 : dSo D m = 1
  · rw [if_pos s1]
    exact shun 0 (Or.inr ⟨rfl, s1⟩) (a1 s1).2
  rw [if_neg s1]
  by_cases s2 : dSo D m = 2
  · rw [if_pos s2]
    obtain ⟨b1, b2⟩ := a2 s2
    refine zRuL_one (fun i => !(decide (l = dA D m) && decide (i / 4 = dB D m))) (h l hl) (fun c hc => z_stn hc) hH (by omega) (fun i hi => ?_) (fun i hi => ?_)
    · by_cases q : l = dA D m
      · rw [← q, z_ste, b_and, decide_eq_true rfl, Bool.true_and]
        congr 1
        have m15 : ∀ j, j < 32 → bt (nI 15) j = decide (j < 4) := by decide +kernel
        rw [b_xor, b_m1 i hi, Bool.xor_true, b_shl (dB D m * 4) (by omega) _ hi]
        congr 1
        by_cases r : dB D m * 4 ≤ i
        · rw [m15 _ (by omega), decide_eq_true r, Bool.true_and]
          exact decide_eq_decide.mpr (by omega)
        · rw [decide_eq_false r, Bool.false_and]
          exact (decide_eq_false (by omega)).symm
      · rw [z_sti q, decide_eq_false q]; simp
    · unfold zF1
      have s2 : D 8 m = 2 := s2
      rw [if_neg (by omega), if_neg (by omega), if_pos s2]
  rw [if_neg s2]
  by_cases s3 : dSo D m = 3
  · rw [if_pos s3]
    obtain ⟨b1, b2⟩ := a3 s3
    refine zRuL_one (fun i => !decide (l = dA D m) || decide (i = dB D m)) (h l hl) (fun c hc => z_stn hc) hH (by omega) (fun i hi => ?_) (fun i hi => ?_)
    · by_cases q : l = dA D m
      · rw [← q, z_ste, b_and, decide_eq_true rfl, z_shl1 (by omega) hi]; rfl
      · rw [z_sti q, decide_eq_false q]; simp
    · unfold zF1
      have s3 : D 8 m = 3 := s3
      rw [if_neg (by omega), if_neg (by omega), if_neg (by omega), if_pos s3]
  rw [if_neg s3]
  obtain ⟨b1, b2, b3⟩ := a4 (by omega)
  have ho1 : ∀ i, i < 20 → zOb D H l i (m + 1) = (zOb D H l i m && true) := fun i _ => by rw [Bool.and_true]; exact zOb_no (Or.inr (by omega))
  -- two ors in one row
  have two : ∀ k : Nat, ∀ o, o < 32 → bt (sj_st (sj_st σ (b + k) (dA D m) (σ (b + k) (dA D m) ||| (nI 1 <<< (nI (dB D m) &&& 31)))) (b + k) (dB D m) (σ (b + k) (dB D m) ||| (nI 1 <<< (nI (dA D m) &&& 31))) (b + k) l) o = (bt (σ (b + k) l) o || zBoth l o (dA D m) (dB D m)) := by
    intro k o ho
    unfold zBoth
    by_cases q : l = dB D m
    · rw [← q, z_ste, b_or, z_shl1 (by omega) ho, decide_eq_true rfl, decide_eq_false (fun z => b3 (z.trans q) : ¬ dA D m = l)]
      simp only [Bool.false_and, Bool.false_or, Bool.and_true]
      congr 1
      exact decide_eq_decide.mpr ⟨fun z => z.symm, fun z => z.symm⟩
    · rw [z_sti q]
      by_cases r : l = dA D m
      · rw [← r, z_ste, b_or, z_shl1 (by omega) ho, decide_eq_true rfl, decide_eq_false (fun z => q z.symm : ¬ dB D m = l)]
        simp only [Bool.true_and, Bool.and_false, Bool.or_false]
        congr 1
        exact decide_eq_decide.mpr ⟨fun z => z.symm, fun z => z.symm⟩
      · rw [z_sti r, decide_eq_false (fun z => r z.symm : ¬ dA D m = l), decide_eq_false (fun z => q z.symm : ¬ dB D m = l)]
        simp
  by_cases s4 : dSo D m = 4
  · rw [if_pos s4]
    have n5 : ∀ c, c ≠ b + 5 → sj_st (sj_st σ (b + 5) (dA D m) (σ (b + 5) (dA D m) ||| (nI 1 <<< (nI (dB D m) &&& 31)))) (b + 5) (dB D m) (σ (b + 5) (dB D m) ||| (nI 1 <<< (nI (dA D m) &&& 31))) c = σ c := fun c hc => by rw [z_stn hc, z_stn hc]
    exact zRuL_up (fun _ => true) (fun o => zBoth l o (dA D m) (dB D m)) (fun _ => false) (fun _ => false) (fun _ => false) (h l hl) (by rw [n5 _ (by omega)]) (by rw [n5 _ (by omega)]) (by rw [n5 _ (by omega)]) (by rw [n5 _ (by omega)]) (by rw [n5 _ (by omega)]) (fun i _ => by rw [n5 _ (by omega), Bool.and_true]) ho1 (two 5) (fun o _ => zWd_yes hH s4) (fun i _ => by rw [n5 _ (by omega), Bool.or_false]) (fun i _ => by rw [Bool.or_false]; exact zWd_no (Or.inr (by omega))) (fun i _ => by rw [n5 _ (by omega), Bool.or_false]) (fun i _ => by rw [Bool.or_false]; exact zWd_no (Or.inr (by omega))) (fun i _ => by rw [n5 _ (by omega), Bool.or_false]) (fun i _ => by rw [Bool.or_false]; exact zWd_no (Or.inr (by omega)))
  rw [if_neg s4]
  by_cases s5 : dSo D m = 5
  · rw [if_pos s5]
    have n5 : ∀ c, c ≠ b + 6 → sj_st (sj_st σ (b + 6) (dA D m) (σ (b + 6) (dA D m) ||| (nI 1 <<< (nI (dB D m) &&& 31)))) (b + 6) (dB D m) (σ (b + 6) (dB D m) ||| (nI 1 <<< (nI (dA D m) &&& 31))) c = σ c := fun c hc => by rw [z_stn hc, z_stn hc]
    exact zRuL_up (fun _ => true) (fun _ => false) (fun o => zBoth l o (dA D m) (dB D m)) (fun _ => false) (fun _ => false) (h l hl) (by rw [n5 _ (by omega)]) (by rw [n5 _ (by omega)]) (by rw [n5 _ (by omega)]) (by rw [n5 _ (by omega)]) (by rw [n5 _ (by omega)]) (fun i _ => by rw [n5 _ (by omega), Bool.and_true]) ho1 (fun i _ => by rw [n5 _ (by omega), Bool.or_false]) (fun i _ => by rw [Bool.or_false]; exact zWd_no (Or.inr (by omega))) (two 6) (fun o _ => zWd_yes hH s5) (fun i _ => by rw [n5 _ (by omega), Bool.or_false]) (fun i _ => by rw [Bool.or_false]; exact zWd_no (Or.inr (by omega))) (fun i _ => by rw [n5 _ (by omega), Bool.or_false]) (fun i _ => by rw [Bool.or_false]; exact zWd_no (Or.inr (by omega)))
  rw [if_neg s5]
  have s6 : dSo D m = 6 := by omega
  have n5 : ∀ c, c ≠ b + 7 → c ≠ b + 8 → sj_st (sj_st σ (b + 7) (dB D m) (σ (b + 7) (dB D m) ||| (nI 1 <<< (nI (dA D m) &&& 31)))) (b + 8) (dA D m) (σ (b + 8) (dA D m) ||| (nI 1 <<< (nI (dB D m) &&& 31))) c = σ c := fun c h1 h2 => by rw [z_stn h2, z_stn h1]
  refine zRuL_up (fun _ => true) (fun _ => false) (fun _ => false) (fun o => decide (dA D m = o) && decide (dB D m = l)) (fun o => decide (dA D m = l) && decide (dB D m = o)) (h l hl) (by rw [n5 _ (by omega) (by omega)]) (by rw [n5 _ (by omega) (by omega)]) (by rw [n5 _ (by omega) (by omega)]) (by rw [n5 _ (by omega) (by omega)]) (by rw [n5 _ (by omega) (by omega)]) (fun i _ => by rw [n5 _ (by omega) (by omega), Bool.and_true]) ho1 (fun i _ => by rw [n5 _ (by omega) (by omega), Bool.or_false]) (fun i _ => by rw [Bool.or_false]; exact zWd_no (Or.inr (by omega))) (fun i _ => by rw [n5 _ (by omega) (by omega), Bool.or_false]) (fun i _ => by rw [Bool.or_false]; exact zWd_no (Or.inr (by omega))) (fun o ho => ?_) (fun o _ => zWd_yes hH s6) (fun o ho => ?_) (fun o _ => zWd_yes hH s6)
  · rw [z_stn (by omega)]
    by_cases q : l = dB D m
    · rw [← q, z_ste, b_or, z_shl1 (by omega) ho, decide_eq_true rfl, Bool.and_true]
      congr 1
      exact decide_eq_decide.mpr ⟨fun z => z.symm, fun z => z.symm⟩
    · rw [z_sti q, decide_eq_false (fun z => q z.symm : ¬ dB D m = l)]; simp
  · by_cases q : l = dA D m
    · rw [← q, z_ste, b_or, z_shl1 (by omega) ho, decide_eq_true rfl, Bool.true_and]
      congr 1
      exact decide_eq_decide.mpr ⟨fun z => z.symm, fun z => z.symm⟩
    · rw [z_sti q, z_stn (by omega), decide_eq_false (fun z => q z.symm : ¬ dA D m = l)]; simp
/-! ### take -/
def zTLs (D : zD) (σ : sj_S) (b : Nat) : Nat → sj_S
  | 0 => σ
  | l + 1 => zTL D (zTLs D σ b l) b l
def zTWs (D : zD) (x : Int32) (σ : sj_S) (b : Nat) : Nat → sj_S
  | 0 => σ
  | w + 1 => if bt x w then zTW D (zTWs D x σ b w) b w else zTWs D x σ b w
theorem zTLs_n {k : Nat} (h : ∀ j, 1 ≤ j → j ≤ 10 → k ≠ b + j) : ∀ l, zTLs D σ b l k = σ k := by
  intro l
  induction l with
  | zero => rfl
  | succ l ih =>
    show zTL D (zTLs D σ b l) b l k = σ k
    rw [zTL_n h, ih]
theorem zTWs_n {x : Int32} {k : Nat} (h : ∀ j, 1 ≤ j → j ≤ 10 → k ≠ b + j) : ∀ w, zTWs D x σ b w k = σ k := by
  intro w
  induction w with
  | zero => rfl
  | succ w ih =>
    show (if bt x w then zTW D (zTWs D x σ b w) b w else zTWs D x σ b w) k = σ k
    split
    · rw [zTW_n h, ih]
    · exact ih
theorem zTLs_ru {H : Nat → Bool} (v : okD D) : ∀ l, l ≤ dN D → ∀ j, j < l → zRuL D H 0 (zTLs D σ b l) b j := by
  intro l
  induction l with
  | zero => intro _ j hj; exact absurd hj (Nat.not_lt_zero j)
  | succ l ih =>
    intro hl j hj
    show zRuL D H 0 (zTL D (zTLs D σ b l) b l) b j
    by_cases e : j = l
    · subst e
      exact zTL_ru v (by omega)
    · exact zRuL_of (ih (by omega) j (by omega)) (fun k _ _ => zTL_i e)
theorem zTWs_ru {x : Int32} (v : okD D) (h : ∀ l, l < dN D → zRuL D (bt x) 0 σ b l) : ∀ w, w ≤ dW D → ∀ l, l < dN D → zRuL D (bt x) w (zTWs D x σ b w) b l := by
  intro w
  induction w with
  | zero => intro _; exact h
  | succ w ih =>
    intro hw l hl
    show zRuL D (bt x) (w + 1) (if bt x w then zTW D (zTWs D x σ b w) b w else zTWs D x σ b w) b l
    cases q : bt x w
    · rw [if_neg (by decide)]
      exact zRuL_skip (ih (by omega) l hl) q
    · rw [if_pos rfl]
      exact zTW_ru v (by omega) q (ih (by omega)) hl
theorem z_take (ok : sj_ok G) (hC : repC D (σ 2)) (v : okD D) (hb : b = 6 ∨ b = 18) (x : Int32) : ∃ τ, sj_C G 5 me_X7_take [.ref (sj_ad G b), .ref (sj_ad G 1), .int x] σ (.ok 0, τ) ∧ zRu D (bt x) τ b ∧ ∀ k, (∀ j, j ≤ 10 → k ≠ b + j) → τ k = σ k := by
  have h9 := v.1
  have h12 := v.2.1
  refine ⟨zTWs D x (zTLs D (sj_st σ b 0 (nI (dN D))) b (dN D)) b (dW D), ?_, ⟨?_, ?_⟩, ?_⟩
  · refine c_X7_take ok hb ⟨_, _, z_lessonTotal ok, ?_⟩
    rw [hC.1]
    have key2 : ∀ j i, i + j = dW D → sj_J G 5 me_X7_take (.ok 0, zTWs D x (zTLs D (sj_st σ b 0 (nI (dN D))) b (dN D)) b (dW D)) 32 [.ref (sj_ad G b), .ref (sj_ad G 1), .int x, .int (nI i)] (zTWs D x (zTLs D (sj_st σ b 0 (nI (dN D))) b (dN D)) b i) [] := by
      intro j
      induction j with
      | zero =>
        intro i hi
        have : i = dW D := by omega
        subst this
        refine t_X7_take_32 hb ⟨_, _, z_wishTotal ok, fun _ => rfl, fun q => ?_⟩
        rw [zTWs_n (by omega), zTLs_n (by omega), z_stn (by omega), hC.2.1] at q
        exact absurd (nI_le (by omega) (by omega)) q
      | succ j ih =>
        intro i hi
        have h1 := ih (i + 1) (by omega)
        have hn : zTWs D x (zTLs D (sj_st σ b 0 (nI (dN D))) b (dN D)) b (i + 1) = if bt x i then zTW D (zTWs D x (zTLs D (sj_st σ b 0 (nI (dN D))) b (dN D)) b i) b i else zTWs D x (zTLs D (sj_st σ b 0 (nI (dN D))) b (dN D)) b i := rfl
        generalize eρ : zTWs D x (zTLs D (sj_st σ b 0 (nI (dN D))) b (dN D)) b i = ρ at hn
        have ρ2 : ρ 2 = σ 2 := by rw [← eρ, zTWs_n (by omega), zTLs_n (by omega), z_stn (by omega)]
        have ρ0 : ρ b 0 = nI (dN D) := by rw [← eρ, zTWs_n (by omega), zTLs_n (by omega), z_ste]
        have hC' : repC D (ρ 2) := by rw [ρ2]; exact hC
        obtain ⟨c0, c1, c2, -⟩ := hC'.2.2.2.2.1 i (by omega)
        have r0 := z_ofWish (σ := ρ) ok (w := i) (k := 0) (by omega) (by decide)
        have r1 := z_ofWish (σ := ρ) ok (w := i) (k := 1) (by omega) (by decide)
        have r2 := z_ofWish (σ := ρ) ok (w := i) (k := 2) (by omega) (by decide)
        rw [c0] at r0
        rw [c1] at r1
        rw [c2] at r2
        refine t_X7_take_32 hb ⟨_, _, z_wishTotal ok, fun q => ?_, fun _ => ⟨fun q => ?_, fun q => ⟨_, _, r0, _, _, r1, _, _, r2, _, z_takeWish ok hC' v hb ρ0 (by omega), ?_⟩⟩⟩
        · rw [hC'.2.1] at q
          exact absurd q (nI_ge (by omega) (by omega))
        · rw [z_bit (by omega)] at q
          rw [hn, q, if_neg (by decide)] at h1
          unfold wp_X7_take_71
          rw [nI_add]
          exact h1
        · rw [z_bit (by omega), Bool.not_eq_false] at q
          rw [hn, q, if_pos rfl] at h1
          unfold wp_X7_take_71
          rw [nI_add]
          exact h1
    have key : ∀ j i, i + j = dN D → sj_J G 5 me_X7_take (.ok 0, zTWs D x (zTLs D (sj_st σ b 0 (nI (dN D))) b (dN D)) b (dW D)) 10 [.ref (sj_ad G b), .ref (sj_ad G 1), .int x, .int (nI i)] (zTLs D (sj_st σ b 0 (nI (dN D))) b i) [] := by
      intro j
      induction j with
      | zero =>
        intro i hi
        have : i = dN D := by omega
        subst this
        refine t_X7_take_10 hb ⟨fun _ => key2 (dW D) 0 (by omega), fun q => ?_⟩
        rw [zTLs_n (by omega), z_ste] at q
        exact absurd (nI_le (by omega) (by omega)) q
      | succ j ih =>
        intro i hi
        have h1 := ih (i + 1) (by omega)
        refine t_X7_take_10 hb ⟨fun q => ?_, fun _ => ⟨_, z_takeLesson (D := D) ok (by rw [zTLs_n (by omega), z_stn (by omega)]; exact hC) v hb (by rw [zTLs_n (by omega), z_ste]) (by omega : i < dN D), ?_⟩⟩
        · rw [zTLs_n (by omega), z_ste] at q
          exact absurd q (nI_ge (by omega) (by omega))
        · rw [nI_add]
          exact h1
    exact key (dN D) 0 (by omega)
  · rw [zTWs_n (by omega), zTLs_n (by omega), z_ste]
  · exact zTWs_ru v (fun l hl => zTLs_ru v (dN D) (Nat.le_refl _) l hl) (dW D) (Nat.le_refl _)
  · intro k hk
    rw [zTWs_n (fun j _ h2 => hk j h2), zTLs_n (fun j _ h2 => hk j h2), z_stn (by have := hk 0 (by decide); omega)]
end ZRW
