/-! RULES 3: allowed, isRight -/
theorem zPr_words {D : zD} {H : Nat → Bool} {l i o j : Nat} (v : okD D) : (!q_any (fun w => !zPw D H l i o j w) (dW D)) = ((!zWd D H 4 (zBoth l o) (dW D) || decide (i / 4 = j / 4)) && (!zWd D H 5 (zBoth l o) (dW D) || !decide (i / 4 = j / 4)) && (!zWd D H 6 (fun a c => decide (a = o) && decide (c = l)) (dW D) || decide (j < i)) && (!zWd D H 6 (fun a c => decide (a = l) && decide (c = o)) (dW D) || decide (i < j))) := by
  have hw : ∀ s f, zWd D H s f (dW D) = true ↔ ∃ w, w < dW D ∧ H w = true ∧ dSo D w = s ∧ f (dA D w) (dB D w) = true := fun s f => by
    unfold zWd
    rw [q_any_iff]
    refine exists_congr (fun w => and_congr_right (fun _ => ?_))
    rw [Bool.and_eq_true, Bool.and_eq_true, decide_eq_true_eq, and_assoc]
  have hor : ∀ (a p : Bool), (!a || p) = true ↔ (a = true → p = true) := fun a p => by cases a <;> simp
  rw [Bool.eq_iff_iff, Bool.not_eq_true', q_any_f, Bool.and_eq_true, Bool.and_eq_true, Bool.and_eq_true, hor, hor, hor, hor, hw, hw, hw, hw]
  have hz : ∀ w, w < dW D → ((!zPw D H l i o j w) = false ↔ (H w = true → 4 ≤ dSo D w → (dA D w = l → dB D w = o → zTwo (dSo D w) i j = true) ∧ (dA D w = o → dB D w = l → zTwo (dSo D w) j i = true))) := fun w hwl => by
    unfold zPw
    cases hH : H w
    · simp
    · by_cases h4 : 4 ≤ dSo D w
      · by_cases a1 : dA D w = l <;> by_cases a2 : dB D w = o <;> by_cases a3 : dA D w = o <;> by_cases a4 : dB D w = l <;> simp [h4, a1, a2, a3, a4]
      · simp [h4]
  have hb : ∀ a c, zBoth l o a c = true ↔ ((a = l ∧ c = o) ∨ (a = o ∧ c = l)) := fun a c => by
    unfold zBoth
    rw [Bool.or_eq_true, Bool.and_eq_true, Bool.and_eq_true, decide_eq_true_eq, decide_eq_true_eq, decide_eq_true_eq, decide_eq_true_eq]
  have t4 : ∀ x y, zTwo 4 x y = decide (x / 4 = y / 4) := fun x y => rfl
  have t5 : ∀ x y, zTwo 5 x y = !decide (x / 4 = y / 4) := fun x y => rfl
  have t6 : ∀ x y, zTwo 6 x y = decide (x < y) := fun x y => rfl
  constructor
  · intro h
    refine ⟨⟨⟨?_, ?_⟩, ?_⟩, ?_⟩
    · rintro ⟨w, w1, w2, w3, w4⟩
      have q := (hz w w1).mp (h w w1) w2 (by omega)
      rw [w3, t4, t4, decide_eq_true_eq, decide_eq_true_eq] at q
      rw [decide_eq_true_eq]
      rcases (hb _ _).mp w4 with ⟨x1, x2⟩ | ⟨x1, x2⟩
      · exact q.1 x1 x2
      · exact (q.2 x1 x2).symm
    · rintro ⟨w, w1, w2, w3, w4⟩
      have q := (hz w w1).mp (h w w1) w2 (by omega)
      rw [w3, t5, t5, Bool.not_eq_true', Bool.not_eq_true', decide_eq_false_iff_not, decide_eq_false_iff_not] at q
      rw [Bool.not_eq_true', decide_eq_false_iff_not]
      rcases (hb _ _).mp w4 with ⟨x1, x2⟩ | ⟨x1, x2⟩
      · exact q.1 x1 x2
      · exact fun z => q.2 x1 x2 z.symm
    · rintro ⟨w, w1, w2, w3, w4⟩
      have q := (hz w w1).mp (h w w1) w2 (by omega)
      rw [w3, t6, t6, decide_eq_true_eq, decide_eq_true_eq] at q
      rw [Bool.and_eq_true, decide_eq_true_eq, decide_eq_true_eq] at w4
      rw [decide_eq_true_eq]
      exact q.2 w4.1 w4.2
    · rintro ⟨w, w1, w2, w3, w4⟩
      have q := (hz w w1).mp (h w w1) w2 (by omega)
      rw [w3, t6, t6, decide_eq_true_eq, decide_eq_true_eq] at q
      rw [Bool.and_eq_true, decide_eq_true_eq, decide_eq_true_eq] at w4
      rw [decide_eq_true_eq]
      exact q.1 w4.1 w4.2
  · rintro ⟨⟨⟨h4, h5⟩, h6⟩, h7⟩ w w1
    refine (hz w w1).mpr (fun w2 w3 => ?_)
    have hs := (v.2.2.2.2.1 w w1).1
    rcases (by omega : dSo D w = 4 ∨ dSo D w = 5 ∨ dSo D w = 6) with e | e | e
    · rw [e, t4, t4]
      refine ⟨fun x1 x2 => ?_, fun x1 x2 => ?_⟩
      · exact h4 ⟨w, w1, w2, e, (hb _ _).mpr (Or.inl ⟨x1, x2⟩)⟩
      · have := h4 ⟨w, w1, w2, e, (hb _ _).mpr (Or.inr ⟨x1, x2⟩)⟩
        rw [decide_eq_true_eq] at this ⊢
        exact this.symm
    · rw [e, t5, t5]
      refine ⟨fun x1 x2 => ?_, fun x1 x2 => ?_⟩
      · exact h5 ⟨w, w1, w2, e, (hb _ _).mpr (Or.inl ⟨x1, x2⟩)⟩
      · have := h5 ⟨w, w1, w2, e, (hb _ _).mpr (Or.inr ⟨x1, x2⟩)⟩
        rw [Bool.not_eq_true', decide_eq_false_iff_not] at this ⊢
        exact fun z => this z.symm
    · rw [e, t6, t6]
      refine ⟨fun x1 x2 => ?_, fun x1 x2 => ?_⟩
      · exact h7 ⟨w, w1, w2, e, by rw [decide_eq_true x1, decide_eq_true x2]; rfl⟩
      · exact h6 ⟨w, w1, w2, e, by rw [decide_eq_true x1, decide_eq_true x2]; rfl⟩
theorem zPr_w {D : zD} {H : Nat → Bool} {l i o j : Nat} (v : okD D) : zPr D H l i o j = (!(zClash D l o && zMt (dDb D l) i (dDb D o) j) && !(zLike D l o && decide (i / 4 = j / 4)) && ((!zWd D H 4 (zBoth l o) (dW D) || decide (i / 4 = j / 4)) && (!zWd D H 5 (zBoth l o) (dW D) || !decide (i / 4 = j / 4)) && (!zWd D H 6 (fun a c => decide (a = o) && decide (c = l)) (dW D) || decide (j < i)) && (!zWd D H 6 (fun a c => decide (a = l) && decide (c = o)) (dW D) || decide (i < j)))) := by
  unfold zPr
  rw [zPr_words v]
theorem z_andbit {x : Int32} {k : Nat} (hk : k < 32) : (x &&& (nI 1 <<< (nI k &&& 31)) = 0) = (bt x k = false) := by
  refine propext ⟨fun h => ?_, fun h => ?_⟩
  · have h1 := congrArg (fun y => bt y k) h
    simp only [b_and, b_0, z_shl1 hk hk] at h1
    simpa using h1
  · apply b_ext
    intro i hi
    rw [b_and, b_0, z_shl1 hk hi]
    by_cases e : i = k
    · rw [e, h]; simp
    · rw [decide_eq_false e]; simp
theorem z_lowm : ∀ t, t < 20 → ∀ i, i < 32 → bt ((nI 1 <<< (nI t &&& 31)) - nI 1) i = decide (i < t) := by decide +kernel
theorem z_lowm2 : ∀ t, t < 20 → ∀ i, i < 32 → bt ((nI 2 <<< (nI t &&& 31)) - nI 1) i = decide (i ≤ t) := by decide +kernel
theorem z_daym : ∀ d, d < 5 → ∀ i, i < 32 → bt (nI 15 <<< (nI (d * 4) &&& 31)) i = decide (i / 4 = d) := by decide +kernel
theorem zTk_20 {D : zD} {T : Nat → Nat} {o i : Nat} (h : T o < 20) (hi : 21 ≤ i) : zTk D T o i = false := by
  unfold zTk
  rw [decide_eq_false (by omega), decide_eq_false (by omega : ¬ i = T o + 1)]; simp
section ZAL
variable {G : sj_G} {σ : sj_S} {D : zD} {T : Nat → Nat} {b : Nat} {H : Nat → Bool}
def zRc (D : zD) (T : Nat → Nat) (q : Nat → Bool) (l i o : Nat) : Bool := !decide (o = l) && (q o && (decide (dKi D o = dKi D l) && zTk D T o i))
def zAv (D : zD) (H : Nat → Bool) (T : Nat → Nat) (q : Nat → Bool) (l o : Nat) (f w1 w2 w3 : Int32) : Prop := ∀ i, i < 32 →
  bt f i = (decide (i < 20) && (zOb D H l i (dW D) && !q_any (fun o => !decide (o = l) && q o && !zPr D H l i o (T o)) o)) ∧
  bt w1 i = (!decide (dKi D l = 0) && decide (1 ≤ q_cnt (zRc D T q l i) o)) ∧ bt w2 i = (!decide (dKi D l = 0) && decide (2 ≤ q_cnt (zRc D T q l i) o)) ∧ bt w3 i = (!decide (dKi D l = 0) && decide (3 ≤ q_cnt (zRc D T q l i) o))
theorem zAv_skip {q : Nat → Bool} {l o : Nat} {f w1 w2 w3 : Int32} (h : zAv D H T q l o f w1 w2 w3) (hq : o = l ∨ q o = false) : zAv D H T q l (o + 1) f w1 w2 w3 := by
  intro i hi
  obtain ⟨h1, h2, h3, h4⟩ := h i hi
  have e1 : q_any (fun o => !decide (o = l) && q o && !zPr D H l i o (T o)) (o + 1) = q_any (fun o => !decide (o = l) && q o && !zPr D H l i o (T o)) o := by
    show (q_any _ o || (!decide (o = l) && q o && !zPr D H l i o (T o))) = _
    rcases hq with e | e
    · rw [decide_eq_true e]; simp
    · rw [e]; simp
  have e2 : q_cnt (zRc D T q l i) (o + 1) = q_cnt (zRc D T q l i) o := by
    show q_cnt (zRc D T q l i) o + (if zRc D T q l i o then 1 else 0) = _
    unfold zRc
    rcases hq with e | e
    · rw [decide_eq_true e]; simp
    · rw [e]; simp
  rw [e1, e2]
  exact ⟨h1, h2, h3, h4⟩
theorem z_ge1 {c n : Nat} {t p : Bool} : (p && decide (n + 1 ≤ c + (if t then 1 else 0))) = ((p && decide (n + 1 ≤ c)) || ((p && decide (n ≤ c)) && t)) := by
  cases p
  · rfl
  · cases t
    · simp
    · simp only [Bool.true_and, if_true, Bool.and_true]
      rw [Bool.eq_iff_iff, Bool.or_eq_true, decide_eq_true_eq, decide_eq_true_eq, decide_eq_true_eq]
      omega
theorem z_allowed (ok : sj_ok G) (v : okD D) (hb : b = 6 ∨ b = 18) {sl : Nat} (hsl : zSl sl) (hR : zRu D H σ b) {l : Nat} (hl : l < dN D) {x3 : Int32} (hT : ∀ o, o < dN D → o ≠ l → bt x3 o = true → σ sl o = nI (T o) ∧ T o < 20) :
    ∃ r, sj_C G 2 me_X7_allowed [.ref (sj_ad G b), .int (nI l), .ref (sj_ad G sl), .int x3] σ (.ok r, σ) ∧ ∀ i, i < 32 → bt r i = zAl D H T (bt x3) l i := by
  have h9 := v.1
  obtain ⟨h0, hL⟩ := hR
  obtain ⟨r1, r2, r3, r4, r5, r6, r7, r8, r9, r10⟩ := hL l hl
  obtain ⟨-, -, -, vk, vd⟩ := v.2.2.2.1 l hl
  have hin : vp_in (nI l) 9 := z_in (by omega) (by decide)
  have kl : (nI l).toNatClampNeg = l := nI_clamp (by omega)
  have key : ∀ j i f w1 w2 w3, i + j = dN D → zAv D H T (bt x3) l i f w1 w2 w3 → ∃ r, sj_J G 2 me_X7_allowed (.ok r, σ) 20 [.ref (sj_ad G b), .int (nI l), .ref (sj_ad G sl), .int x3, .int f, .int w1, .int w2, .int w3, .int (nI i), .null, .null, .null, .null] σ [] ∧ ∀ i, i < 32 → bt r i = zAl D H T (bt x3) l i := by
    intro j
    induction j with
    | zero =>
      intro i f w1 w2 w3 hi hv
      have : i = dN D := by omega
      subst this
      have hend : ∀ full : Int32, (∀ i, i < 32 → bt full i = (!decide (dKi D l = 0) && decide (dRo D (dKi D l - 1) ≤ q_cnt (zRc D T (bt x3) l i) (dN D) ∧ 1 ≤ dRo D (dKi D l - 1)))) → ∀ i, i < 32 → bt (f &&& ((full ||| (full >>> (nI (dDb D l) &&& 31))) ^^^ (-1))) i = zAl D H T (bt x3) l i := by
        intro full hf i hi
        rw [b_and, b_xor, b_m1 i hi, Bool.xor_true, b_or, b_sshr (dDb D l) (by omega) _ hi, (hv i hi).1]
        unfold zAl
        by_cases h20 : i < 20
        · rw [decide_eq_true h20, Bool.true_and, Bool.true_and, if_pos (by omega), hf i hi, hf (dDb D l + i) (by omega)]
          have eo : zOb D H l i (dW D) = ((decide (dKi D l = 0) || decide (0 < dRo D (dKi D l - 1))) && zSt D H l i) := rfl
          rw [eo]
          generalize zSt D H l i = s
          generalize (!q_any (fun o => !decide (o = l) && bt x3 o && !zPr D H l i o (T o)) (dN D)) = a
          show (((decide (dKi D l = 0) || decide (0 < dRo D (dKi D l - 1))) && s && a) && !((!decide (dKi D l = 0) && decide (dRo D (dKi D l - 1) ≤ q_cnt (zRc D T (bt x3) l i) (dN D) ∧ 1 ≤ dRo D (dKi D l - 1))) || (!decide (dKi D l = 0) && decide (dRo D (dKi D l - 1) ≤ q_cnt (zRc D T (bt x3) l (dDb D l + i)) (dN D) ∧ 1 ≤ dRo D (dKi D l - 1))))) = (s && (a && (decide (dKi D l = 0) || (decide (q_cnt (zRc D T (bt x3) l i) (dN D) + 1 ≤ dRo D (dKi D l - 1)) && (!decide (dDb D l = 1) || decide (q_cnt (zRc D T (bt x3) l (i + 1)) (dN D) + 1 ≤ dRo D (dKi D l - 1)))))))
          by_cases k0 : dKi D l = 0
          · rw [decide_eq_true k0]; simp
          · rw [decide_eq_false k0]
            generalize dRo D (dKi D l - 1) = ro
            rcases (by omega : dDb D l = 0 ∨ dDb D l = 1) with e | e
            · rw [e, Nat.zero_add]
              generalize q_cnt (zRc D T (bt x3) l i) (dN D) = c
              cases s <;> cases a <;> rw [Bool.eq_iff_iff] <;> simp <;> omega
            · rw [e, Nat.add_comm 1 i]
              generalize q_cnt (zRc D T (bt x3) l i) (dN D) = c
              generalize q_cnt (zRc D T (bt x3) l (i + 1)) (dN D) = c'
              cases s <;> cases a <;> rw [Bool.eq_iff_iff] <;> simp <;> omega
        · rw [decide_eq_false h20]; rfl
      refine ⟨_, t_X7_allowed_20 hb hsl ⟨fun _ => ⟨hin, hin, rfl⟩, fun q => ?_⟩, ?_⟩
      · rw [h0] at q
        exact absurd (nI_le (by omega) (by omega)) q
      · rw [kl, r3]
        refine hend _ (fun i hi => ?_)
        rw [r10]
        obtain ⟨-, b1, b2, b3⟩ := hv i hi
        by_cases k0 : dKi D l = 0
        · rw [if_pos k0, if_neg (by decide), if_neg (by decide), if_neg (by decide), z_bn _ _ hi, decide_eq_true k0]; simp
        · have hro := v.2.2.2.2.2.2.1 (dKi D l - 1) (by omega)
          rw [if_neg k0]
          rw [decide_eq_false k0, Bool.not_false, Bool.true_and] at b1 b2 b3 ⊢
          generalize dRo D (dKi D l - 1) = ro at hro ⊢
          rcases (by omega : ro = 0 ∨ ro = 1 ∨ ro = 2 ∨ ro = 3) with e | e | e | e <;> subst e
          · rw [if_neg (by decide), if_neg (by decide), if_neg (by decide), z_bn _ _ hi, decide_eq_false (by omega)]; simp
          · rw [if_pos rfl, b1]
            exact decide_eq_decide.mpr (by omega)
          · rw [if_neg (by decide), if_pos rfl, b2]
            exact decide_eq_decide.mpr (by omega)
          · rw [if_neg (by decide), if_neg (by decide), if_pos rfl, b3]
            exact decide_eq_decide.mpr (by omega)
    | succ j ih =>
      intro i f w1 w2 w3 hi hv
      have hlt : ¬ nI (dN D) ≤ nI i := nI_ge (by omega) (by omega)
      by_cases e : i = l
      · obtain ⟨r, hJ, hr⟩ := ih (i + 1) f w1 w2 w3 (by omega) (zAv_skip hv (Or.inl e))
        refine ⟨r, t_X7_allowed_20 hb hsl ⟨fun q => ?_, fun _ => ⟨fun _ => ?_, fun q => absurd (by rw [e]) q⟩⟩, hr⟩
        · rw [h0] at q; exact absurd q hlt
        · unfold wp_X7_allowed_255
          rw [nI_add]
          exact hJ
      · have ne : ¬ nI i = nI l := by rw [nI_eq (by omega) (by omega)]; exact e
        cases qo : bt x3 i
        · obtain ⟨r, hJ, hr⟩ := ih (i + 1) f w1 w2 w3 (by omega) (zAv_skip hv (Or.inr qo))
          refine ⟨r, t_X7_allowed_20 hb hsl ⟨fun q => ?_, fun _ => ⟨fun q => absurd q ne, fun _ => ⟨fun _ => ?_, fun q => ?_⟩⟩⟩, hr⟩
          · rw [h0] at q; exact absurd q hlt
          · unfold wp_X7_allowed_255
            rw [nI_add]
            exact hJ
          · rw [z_andbit (by omega)] at q
            exact absurd qo q
        · obtain ⟨t1, t2⟩ := hT i (by omega) e qo
          obtain ⟨-, s2, -⟩ := hL i (by omega)
          have hti : vp_in (nI i) 9 := z_in (by omega) (by decide)
          have ki : (nI i).toNatClampNeg = i := nI_clamp (by omega)
          have e4 : ∀ x : Int32, (x &&& (nI 1 <<< (nI i &&& 31)) = 0) = (bt x i = false) := fun x => z_andbit (by omega)
          have ets : (if dDb D i = 1 then nI 3 else nI 1) <<< (nI (T i) &&& 31) = zTs D T i := rfl
          have edy : nI (T i) / nI 4 * nI 4 = nI (T i / 4 * 4) := by rw [z_d4 t2, pk_mul]
          have btk : ∀ k, k < 32 → bt (zTs D T i) k = zTk D T i k := fun k hk => zTs_bt (by omega) hk
          have b4 := r4 i (by omega)
          have b5 := r5 i (by omega)
          have b6 := r6 i (by omega)
          have b7 := r7 i (by omega)
          have b8 := r8 i (by omega)
          have b9 := r9 i (by omega)
          rw [decide_eq_true (show i < dN D by omega), decide_eq_false e, Bool.not_false, Bool.true_and, Bool.true_and] at b4 b6 b9
          -- the words behind this other
          obtain ⟨r, hJ, hr⟩ := ih (i + 1)
            (((((f &&& (if bt (σ (b + 4) l) i = false then (-1) else ((zTs D T i ||| (zTs D T i >>> (nI (dDb D l) &&& 31))) ^^^ (-1)))) &&& (if bt (σ (b + 5) l) i = false then (-1) else nI 15 <<< (nI (T i / 4 * 4) &&& 31))) &&& (if bt (σ (b + 6) l) i = false then (-1) else ((nI 15 <<< (nI (T i / 4 * 4) &&& 31)) ^^^ (-1)))) &&& (if bt (σ (b + 7) l) i = false then (-1) else (((nI 2 <<< (nI (T i) &&& 31)) - nI 1) ^^^ (-1)))) &&& (if bt (σ (b + 8) l) i = false then (-1) else ((nI 1 <<< (nI (T i) &&& 31)) - nI 1)))
            (if bt (σ (b + 9) l) i = false then w1 else (w1 ||| zTs D T i)) (if bt (σ (b + 9) l) i = false then w2 else (w2 ||| (w1 &&& zTs D T i))) (if bt (σ (b + 9) l) i = false then w3 else (w3 ||| (w2 &&& zTs D T i))) (by omega) (by
              intro k hk
              obtain ⟨h1, h2, h3, h4⟩ := hv k hk
              refine ⟨?_, ?_⟩
              · have eq1 : q_any (fun o => !decide (o = l) && bt x3 o && !zPr D H l k o (T o)) (i + 1) = (q_any (fun o => !decide (o = l) && bt x3 o && !zPr D H l k o (T o)) i || !zPr D H l k i (T i)) := by
                  show (q_any _ i || (!decide (i = l) && bt x3 i && !zPr D H l k i (T i))) = _
                  rw [decide_eq_false e, qo]; rfl
                rw [eq1, Bool.not_or, Bool.not_not, b_and, b_and, b_and, b_and, b_and, h1]
                by_cases h20 : k < 20
                · rw [decide_eq_true h20, Bool.true_and, Bool.true_and]
                  have c1 : bt (if bt (σ (b + 4) l) i = false then (-1) else ((zTs D T i ||| (zTs D T i >>> (nI (dDb D l) &&& 31))) ^^^ (-1))) k = !(zClash D l i && zMt (dDb D l) k (dDb D i) (T i)) := by
                    rw [b4]
                    cases zClash D l i
                    · rw [if_pos rfl, b_m1 k hk]; rfl
                    · rw [if_neg (by decide), b_xor, b_m1 k hk, Bool.xor_true, b_or, btk k hk, b_sshr (dDb D l) (by omega) _ hk, if_pos (by omega), btk _ (by omega), Bool.true_and]
                      congr 1
                      unfold zMt
                      rw [zTk_td, zTk_td]
                      rcases (by omega : dDb D l = 0 ∨ dDb D l = 1) with z | z
                      · rw [z, Nat.zero_add]; simp
                      · rw [z, Nat.add_comm 1 k]; simp
                  have c2 : bt (if bt (σ (b + 5) l) i = false then (-1) else nI 15 <<< (nI (T i / 4 * 4) &&& 31)) k = (!zWd D H 4 (zBoth l i) (dW D) || decide (k / 4 = T i / 4)) := by
                    rw [b5]
                    cases zWd D H 4 (zBoth l i) (dW D)
                    · rw [if_pos rfl, b_m1 k hk]; rfl
                    · rw [if_neg (by decide), z_daym _ (by omega) k hk]; rfl
                  have c3 : bt (if bt (σ (b + 6) l) i = false then (-1) else ((nI 15 <<< (nI (T i / 4 * 4) &&& 31)) ^^^ (-1))) k = (!(zLike D l i && decide (k / 4 = T i / 4)) && (!zWd D H 5 (zBoth l i) (dW D) || !decide (k / 4 = T i / 4))) := by
                    rw [b6]
                    have hx : bt ((nI 15 <<< (nI (T i / 4 * 4) &&& 31)) ^^^ (-1)) k = !decide (k / 4 = T i / 4) := by
                      rw [b_xor, b_m1 k hk, Bool.xor_true, z_daym _ (by omega) k hk]
                    cases zLike D l i <;> cases zWd D H 5 (zBoth l i) (dW D)
                    · rw [if_pos (show (false || false) = false from rfl), b_m1 k hk]; rfl
                    · rw [if_neg (by decide), hx]; simp
                    · rw [if_neg (by decide), hx]; simp
                    · rw [if_neg (by decide), hx]; simp
                  have c4 : bt (if bt (σ (b + 7) l) i = false then (-1) else (((nI 2 <<< (nI (T i) &&& 31)) - nI 1) ^^^ (-1))) k = (!zWd D H 6 (fun a c => decide (a = i) && decide (c = l)) (dW D) || decide (T i < k)) := by
                    rw [b7]
                    cases zWd D H 6 (fun a c => decide (a = i) && decide (c = l)) (dW D)
                    · rw [if_pos rfl, b_m1 k hk]; rfl
                    · rw [if_neg (by decide), b_xor, b_m1 k hk, Bool.xor_true, z_lowm2 _ t2 k hk]
                      show (!decide (k ≤ T i)) = decide (T i < k)
                      rw [Bool.eq_iff_iff, Bool.not_eq_true', decide_eq_false_iff_not, decide_eq_true_eq]
                      omega
                  have c5 : bt (if bt (σ (b + 8) l) i = false then (-1) else ((nI 1 <<< (nI (T i) &&& 31)) - nI 1)) k = (!zWd D H 6 (fun a c => decide (a = l) && decide (c = i)) (dW D) || decide (k < T i)) := by
                    rw [b8]
                    cases zWd D H 6 (fun a c => decide (a = l) && decide (c = i)) (dW D)
                    · rw [if_pos rfl, b_m1 k hk]; rfl
                    · rw [if_neg (by decide), z_lowm _ t2 k hk]; rfl
                  rw [c1, c2, c3, c4, c5]
                  rw [zPr_w (l := l) (i := k) (o := i) (j := T i) v]
                  generalize zOb D H l k (dW D) = g0
                  generalize (!q_any (fun o => !decide (o = l) && bt x3 o && !zPr D H l k o (T o)) i) = g1
                  generalize (!(zClash D l i && zMt (dDb D l) k (dDb D i) (T i))) = g2
                  generalize (!zWd D H 4 (zBoth l i) (dW D) || decide (k / 4 = T i / 4)) = g3
                  generalize (!(zLike D l i && decide (k / 4 = T i / 4))) = g4
                  generalize (!zWd D H 5 (zBoth l i) (dW D) || !decide (k / 4 = T i / 4)) = g5
                  generalize (!zWd D H 6 (fun a c => decide (a = i) && decide (c = l)) (dW D) || decide (T i < k)) = g6
                  generalize (!zWd D H 6 (fun a c => decide (a = l) && decide (c = i)) (dW D) || decide (k < T i)) = g7
                  cases g0 <;> cases g1 <;> cases g2 <;> cases g3 <;> cases g4 <;> cases g5 <;> cases g6 <;> cases g7 <;> rfl
                · rw [decide_eq_false h20]; rfl
              · have eq2 : q_cnt (zRc D T (bt x3) l k) (i + 1) = q_cnt (zRc D T (bt x3) l k) i + (if (decide (dKi D i = dKi D l) && zTk D T i k) then 1 else 0) := by
                  show q_cnt (zRc D T (bt x3) l k) i + (if zRc D T (bt x3) l k i then 1 else 0) = _
                  unfold zRc
                  rw [decide_eq_false e, qo]; rfl
                have z0 : ∀ (n : Nat), (!decide (dKi D l = 0) && decide (0 ≤ n)) = !decide (dKi D l = 0) := fun n => by rw [decide_eq_true (Nat.zero_le n), Bool.and_true]
                have up : ∀ (w w' : Int32) (p : Bool), bt w' k = (p && bt w k) → True := fun _ _ _ _ => trivial
                rw [eq2, z_ge1 (n := 0), z_ge1 (n := 1), z_ge1 (n := 2), z0, ← h2, ← h3, ← h4, b9]
                cases d0 : decide (dKi D l = 0)
                · cases d1 : decide (dKi D i = dKi D l)
                  · rw [if_pos (by rfl), if_pos (by rfl), if_pos (by rfl)]
                    simp
                  · rw [if_neg (by decide), if_neg (by decide), if_neg (by decide), b_or, b_or, b_or, b_and, b_and, btk k hk]
                    simp
                · rw [d0] at h2 h3 h4
                  rw [if_pos (by rfl), if_pos (by rfl), if_pos (by rfl), h2, h3, h4]
                  simp)
          refine ⟨r, t_X7_allowed_20 hb hsl ⟨fun q => ?_, fun _ => ⟨fun q => absurd q ne, fun _ => ⟨fun q => ?_, fun _ => ⟨hti, hti, hin, fun _ => hin, ?_⟩⟩⟩⟩, hr⟩
          · rw [h0] at q; exact absurd q hlt
          · rw [z_andbit (by omega), qo] at q
            cases q
          · unfold wp_X7_allowed_109 wp_X7_allowed_132 wp_X7_allowed_157 wp_X7_allowed_186 wp_X7_allowed_213 wp_X7_allowed_255
            refine ⟨hin, hin, hin, hin, hin, ?_⟩
            rw [ki, kl, t1, s2, r3, ets, edy, nI_add]
            simp only [e4]
            exact hJ
  obtain ⟨r, hJ, hr⟩ := key (dN D) 0 (σ (b + 1) l) (nI 0) (nI 0) (nI 0) (by omega) (by
    intro i hi
    refine ⟨?_, ?_, ?_, ?_⟩
    · rw [r1 i hi]
      show _ = (decide (i < 20) && (zOb D H l i (dW D) && !false))
      simp
    · rw [z_bn _ _ hi]
      show Nat.testBit 0 i = (!decide (dKi D l = 0) && decide (1 ≤ 0))
      simp
    · rw [z_bn _ _ hi]
      show Nat.testBit 0 i = (!decide (dKi D l = 0) && decide (2 ≤ 0))
      simp
    · rw [z_bn _ _ hi]
      show Nat.testBit 0 i = (!decide (dKi D l = 0) && decide (3 ≤ 0))
      simp)
  refine ⟨r, c_X7_allowed ok hb hsl ⟨hin, ?_⟩, hr⟩
  rw [kl]
  exact hJ
theorem zSt_H {H' : Nat → Bool} (h : ∀ w, w < dW D → H w = H' w) (l i : Nat) : zSt D H l i = zSt D H' l i := by
  unfold zSt
  rw [q_any_congr (dW D) (fun w hw => by rw [h w hw])]
theorem zPr_H {H' : Nat → Bool} (h : ∀ w, w < dW D → H w = H' w) (l i o j : Nat) : zPr D H l i o j = zPr D H' l i o j := by
  have e : q_any (fun w => !zPw D H l i o j w) (dW D) = q_any (fun w => !zPw D H' l i o j w) (dW D) := q_any_congr (dW D) (fun w hw => by unfold zPw; rw [h w hw])
  unfold zPr
  rw [e]
theorem zAl_H {H' : Nat → Bool} {q q' : Nat → Bool} (h : ∀ w, w < dW D → H w = H' w) (hq : ∀ o, o < dN D → q o = q' o) (l i : Nat) : zAl D H T q l i = zAl D H' T q' l i := by
  unfold zAl
  rw [zSt_H h, q_any_congr (dN D) (fun o ho => by rw [hq o ho, zPr_H h]), q_cnt_congr (dN D) (fun o ho => by rw [hq o ho]), q_cnt_congr (p := fun o => !decide (o = l) && (q o && (decide (dKi D o = dKi D l) && zTk D T o (i + 1)))) (dN D) (fun o ho => by rw [hq o ho])]
def zRb (D : zD) (H : Nat → Bool) (T : Nat → Nat) : Bool := !q_any (fun l => !zAl D H T (fun _ => true) l (T l)) (dN D)
theorem zRb_iff : zRb D H T = true ↔ zRi D H T := by
  unfold zRb
  rw [Bool.not_eq_true', q_any_f, zRi_all]
  refine forall_congr' (fun l => imp_congr_right (fun _ => ?_))
  rw [Bool.not_eq_false']
theorem zRb_H {H' : Nat → Bool} (h : ∀ w, w < dW D → H w = H' w) : zRb D H T = zRb D H' T := by
  unfold zRb
  rw [q_any_congr (dN D) (fun l _ => by rw [zAl_H h (fun _ _ => rfl)])]
theorem z_isRight (ok : sj_ok G) (v : okD D) (hb : b = 6 ∨ b = 18) {sl : Nat} (hsl : zSl sl) (hR : zRu D H σ b) (hT : repT (dN D) T (σ sl)) : sj_C G 3 me_X7_isRight [.ref (sj_ad G b), .ref (sj_ad G sl)] σ (.ok (if zRb D H T then nI 1 else nI 0), σ) := by
  have h9 := v.1
  have hm1 : ∀ o, o < dN D → bt (-1) o = true := fun o ho => b_m1 o (by omega)
  have hmono : ∀ (p : Nat → Bool) (j i : Nat), q_any p i = true → q_any p (i + j) = true := by
    intro p j
    induction j with
    | zero => intro i q; exact q
    | succ j ih =>
      intro i q
      show (q_any p (i + j) || _) = true
      rw [ih i q]; rfl
  refine c_X7_isRight ok hb hsl ?_
  unfold wp_X7_isRight_0
  have key : ∀ j i, i + j = dN D → q_any (fun l => !zAl D H T (fun _ => true) l (T l)) i = false → sj_J G 3 me_X7_isRight (.ok (if zRb D H T then nI 1 else nI 0), σ) 2 [.ref (sj_ad G b), .ref (sj_ad G sl), .int (nI i)] σ [] := by
    intro j
    induction j with
    | zero =>
      intro i hi q
      have : i = dN D := by omega
      subst this
      refine t_X7_isRight_2 hb hsl ⟨fun _ => ?_, fun r => ?_⟩
      · unfold zRb
        rw [q]; rfl
      · rw [hR.1] at r
        exact absurd (nI_le (by omega) (by omega)) r
    | succ j ih =>
      intro i hi q
      obtain ⟨r, hc, hr⟩ := z_allowed (T := T) ok v hb hsl hR (l := i) (by omega) (x3 := -1) (fun o ho _ _ => hT o ho)
      obtain ⟨t1, t2⟩ := hT i (by omega)
      have hbit := hr (T i) (by omega)
      rw [zAl_H (q' := fun _ => true) (fun _ _ => rfl) hm1] at hbit
      have eq1 : q_any (fun l => !zAl D H T (fun _ => true) l (T l)) (i + 1) = (q_any (fun l => !zAl D H T (fun _ => true) l (T l)) i || !zAl D H T (fun _ => true) i (T i)) := rfl
      refine t_X7_isRight_2 hb hsl ⟨fun r => ?_, fun _ => ⟨_, _, hc, z_in (by omega) (by decide), fun r => ?_, fun r => ?_⟩⟩
      · rw [hR.1] at r
        exact absurd r (nI_ge (by omega) (by omega))
      · rw [nI_clamp (by omega), t1, z_bit (by omega), hbit] at r
        rw [nI_add]
        refine ih (i + 1) (by omega) ?_
        rw [eq1, q]
        rw [Bool.not_eq_false] at r
        rw [r]; rfl
      · rw [nI_clamp (by omega), t1, z_bit (by omega), hbit] at r
        have h1 := hmono (fun l => !zAl D H T (fun _ => true) l (T l)) (dN D - (i + 1)) (i + 1) (by rw [eq1, r]; simp)
        rw [show i + 1 + (dN D - (i + 1)) = dN D by omega] at h1
        unfold zRb
        rw [h1]; rfl
  exact key (dN D) 0 (by omega) rfl
end ZAL
