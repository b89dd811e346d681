/-! OPEN: allowed(), the slots at which lessons may begin being any within those told -/
def zRuO (D : zD) (H : Nat → Bool) (O : Nat → Nat → Bool) (τ : sj_S) (b : Nat) : Prop := τ b 0 = nI (dN D) ∧ ∀ l, l < dN D → (∀ i, i < 32 → bt (τ (b + 1) l) i = (decide (i < 20) && O l i)) ∧ τ (b + 2) l = (if dDb D l = 1 then nI 3 else nI 1) ∧ τ (b + 3) l = nI (dDb D l) ∧
  (∀ o, o < 32 → bt (τ (b + 4) l) o = (decide (o < dN D) && !decide (o = l) && zClash D l o)) ∧
  (∀ o, o < 32 → bt (τ (b + 5) l) o = zWd D H 4 (zBoth l o) (dW D)) ∧
  (∀ o, o < 32 → bt (τ (b + 6) l) o = ((decide (o < dN D) && !decide (o = l) && zLike D l o) || zWd D H 5 (zBoth l o) (dW D))) ∧
  (∀ o, o < 32 → bt (τ (b + 7) l) o = zWd D H 6 (fun a c => decide (a = o) && decide (c = l)) (dW D)) ∧
  (∀ o, o < 32 → bt (τ (b + 8) l) o = zWd D H 6 (fun a c => decide (a = l) && decide (c = o)) (dW D)) ∧
  (∀ o, o < 32 → bt (τ (b + 9) l) o = (decide (o < dN D) && !decide (o = l) && (!decide (dKi D l = 0) && decide (dKi D o = dKi D l)))) ∧
  τ (b + 10) l = (if dKi D l = 0 then nI 9 else nI (dRo D (dKi D l - 1)))
theorem zRuO_of {D : zD} {H : Nat → Bool} {τ : sj_S} {b : Nat} (h : zRu D H τ b) : zRuO D H (fun l i => zOb D H l i (dW D)) τ b := h
section ZAO
variable {G : sj_G} {σ : sj_S} {D : zD} {T : Nat → Nat} {b : Nat} {H : Nat → Bool} {O : Nat → Nat → Bool}
def zAvO (D : zD) (H : Nat → Bool) (O : Nat → Nat → Bool) (T : Nat → Nat) (q : Nat → Bool) (l o : Nat) (f w1 w2 w3 : Int32) : Prop := ∀ i, i < 32 →
  bt f i = (decide (i < 20) && (O l i && !q_any (fun o => !decide (o = l) && q o && !zPr D H l i o (T o)) o)) ∧
  bt w1 i = (!decide (dKi D l = 0) && decide (1 ≤ q_cnt (zRc D T q l i) o)) ∧ bt w2 i = (!decide (dKi D l = 0) && decide (2 ≤ q_cnt (zRc D T q l i) o)) ∧ bt w3 i = (!decide (dKi D l = 0) && decide (3 ≤ q_cnt (zRc D T q l i) o))
theorem zAvO_skip {q : Nat → Bool} {l o : Nat} {f w1 w2 w3 : Int32} (h : zAvO D H O T q l o f w1 w2 w3) (hq : o = l ∨ q o = false) : zAvO D H O T q l (o + 1) f w1 w2 w3 := by
  intro i hi
  obtain ⟨h1, h2, h3, h4⟩ := h i hi
  have e1 : q_any (fun o => !decide (o = l) && q o && !zPr D H l i o (T o)) (o + 1) = q_any (fun o => !decide (o = l) && q o && !zPr D H l i o (T o)) o := by
    show (q_any _ o || (!decide (o = l) && q o && !zPr D H l i o (T o))) = _
    rcases hq with e | e
    · rw [decide_eq_true e]; simp
    · rw [e]; simp
  have e2 : q_cnt (zRc D T q l i) (o + 1) = q_cnt (zRc D T q l i) o := by
    show q_cnt (zRc D T q l i) o + (if zRc D T q l i o then 1 else 0) = _
    unfold zRc
    rcases hq with e | e
    · rw [decide_eq_true e]; simp
    · rw [e]; simp
  rw [e1, e2]
  exact ⟨h1, h2, h3, h4⟩
theorem z_allowedO (ok : sj_ok G) (v : okD D) (hb : b = 6 ∨ b = 18) {sl : Nat} (hsl : zSl sl) (hR : zRuO D H O σ b) {l : Nat} (hl : l < dN D) {x3 : Int32} (hO : ∀ i, i < 20 → O l i = true → zOb D H l i (dW D) = true) (hT : ∀ o, o < dN D → o ≠ l → bt x3 o = true → σ sl o = nI (T o) ∧ T o < 20) :
    ∃ r, sj_C G 2 me_X7_allowed [.ref (sj_ad G b), .int (nI l), .ref (sj_ad G sl), .int x3] σ (.ok r, σ) ∧ ∀ i, i < 32 → bt r i = (zAl D H T (bt x3) l i && O l i) := by
  have h9 := v.1
  obtain ⟨h0, hL⟩ := hR
  obtain ⟨r1, r2, r3, r4, r5, r6, r7, r8, r9, r10⟩ := hL l hl
  obtain ⟨-, -, -, vk, vd⟩ := v.2.2.2.1 l hl
  have hin : vp_in (nI l) 9 := z_in (by omega) (by decide)
  have kl : (nI l).toNatClampNeg = l := nI_clamp (by omega)
  have key : ∀ j i f w1 w2 w3, i + j = dN D → zAvO D H O T (bt x3) l i f w1 w2 w3 → ∃ r, sj_J G 2 me_X7_allowed (.ok r, σ) 20 [.ref (sj_ad G b), .int (nI l), .ref (sj_ad G sl), .int x3, .int f, .int w1, .int w2, .int w3, .int (nI i), .null, .null, .null, .null] σ [] ∧ ∀ i, i < 32 → bt r i = (zAl D H T (bt x3) l i && O l i) := by
    intro j
    induction j with
    | zero =>
      intro i f w1 w2 w3 hi hv
      have : i = dN D := by omega
      subst this
      have hend : ∀ full : Int32, (∀ i, i < 32 → bt full i = (!decide (dKi D l = 0) && decide (dRo D (dKi D l - 1) ≤ q_cnt (zRc D T (bt x3) l i) (dN D) ∧ 1 ≤ dRo D (dKi D l - 1)))) → ∀ i, i < 32 → bt (f &&& ((full ||| (full >>> (nI (dDb D l) &&& 31))) ^^^ (-1))) i = (zAl D H T (bt x3) l i && O l i) := by
        intro full hf i hi
        rw [b_and, b_xor, b_m1 i hi, Bool.xor_true, b_or, b_sshr (dDb D l) (by omega) _ hi, (hv i hi).1]
        unfold zAl
        by_cases h20 : i < 20
        · by_cases hOl : O l i = false
          · rw [hOl, Bool.false_and, Bool.and_false, Bool.false_and, Bool.and_false]
          · have hOl : O l i = true := by simpa using hOl
            have eo : O l i = ((decide (dKi D l = 0) || decide (0 < dRo D (dKi D l - 1))) && zSt D H l i) := by rw [hOl]; exact (hO i h20 hOl).symm
            rw [decide_eq_true h20, Bool.true_and, Bool.true_and, if_pos (by omega), hf i hi, hf (dDb D l + i) (by omega)]
            have er : ∀ x : Bool, (x && O l i) = x := fun x => by rw [hOl, Bool.and_true]
            rw [er, eo]
            generalize zSt D H l i = s
            generalize (!q_any (fun o => !decide (o = l) && bt x3 o && !zPr D H l i o (T o)) (dN D)) = a
            show (((decide (dKi D l = 0) || decide (0 < dRo D (dKi D l - 1))) && s && a) && !((!decide (dKi D l = 0) && decide (dRo D (dKi D l - 1) ≤ q_cnt (zRc D T (bt x3) l i) (dN D) ∧ 1 ≤ dRo D (dKi D l - 1))) || (!decide (dKi D l = 0) && decide (dRo D (dKi D l - 1) ≤ q_cnt (zRc D T (bt x3) l (dDb D l + i)) (dN D) ∧ 1 ≤ dRo D (dKi D l - 1))))) = (s && (a && (decide (dKi D l = 0) || (decide (q_cnt (zRc D T (bt x3) l i) (dN D) + 1 ≤ dRo D (dKi D l - 1)) && (!decide (dDb D l = 1) || decide (q_cnt (zRc D T (bt x3) l (i + 1)) (dN D) + 1 ≤ dRo D (dKi D l - 1)))))))
            by_cases k0 : dKi D l = 0
            · rw [decide_eq_true k0]; simp
            · rw [decide_eq_false k0]
              generalize dRo D (dKi D l - 1) = ro
              rcases (by omega : dDb D l = 0 ∨ dDb D l = 1) with e | e
              · rw [e, Nat.zero_add]
                generalize q_cnt (zRc D T (bt x3) l i) (dN D) = c
                cases s <;> cases a <;> rw [Bool.eq_iff_iff] <;> simp <;> omega
              · rw [e, Nat.add_comm 1 i]
                generalize q_cnt (zRc D T (bt x3) l i) (dN D) = c
                generalize q_cnt (zRc D T (bt x3) l (i + 1)) (dN D) = c'
                cases s <;> cases a <;> rw [Bool.eq_iff_iff] <;> simp <;> omega
        · rw [decide_eq_false h20]; rfl
      refine ⟨_, t_X7_allowed_20 hb hsl ⟨fun _ => ⟨hin, hin, rfl⟩, fun q => ?_⟩, ?_⟩
      · rw [h0] at q
        exact absurd (nI_le (by omega) (by omega)) q
      · rw [kl, r3]
        refine hend _ (fun i hi => ?_)
        rw [r10]
        obtain ⟨-, b1, b2, b3⟩ := hv i hi
        by_cases k0 : dKi D l = 0
        · rw [if_pos k0, if_neg (by decide), if_neg (by decide), if_neg (by decide), z_bn _ _ hi, decide_eq_true k0]; simp
        · have hro := v.2.2.2.2.2.2.1 (dKi D l - 1) (by omega)
          rw [if_neg k0]
          rw [decide_eq_false k0, Bool.not_false, Bool.true_and] at b1 b2 b3 ⊢
          generalize dRo D (dKi D l - 1) = ro at hro ⊢
          rcases (by omega : ro = 0 ∨ ro = 1 ∨ ro = 2 ∨ ro = 3) with e | e | e | e <;> subst e
          · rw [if_neg (by decide), if_neg (by decide), if_neg (by decide), z_bn _ _ hi, decide_eq_false (by omega)]; simp
          · rw [if_pos rfl, b1]
            exact decide_eq_decide.mpr (by omega)
          · rw [if_neg (by decide), if_pos rfl, b2]
            exact decide_eq_decide.mpr (by omega)
          · rw [if_neg (by decide), if_neg (by decide), if_pos rfl, b3]
            exact decide_eq_decide.mpr (by omega)
    | succ j ih =>
      intro i f w1 w2 w3 hi hv
      have hlt : ¬ nI (dN D) ≤ nI i := nI_ge (by omega) (by omega)
      by_cases e : i = l
      · obtain ⟨r, hJ, hr⟩ := ih (i + 1) f w1 w2 w3 (by omega) (zAvO_skip hv (Or.inl e))
        refine ⟨r, t_X7_allowed_20 hb hsl ⟨fun q => ?_, fun _ => ⟨fun _ => ?_, fun q => absurd (by rw [e]) q⟩⟩, hr⟩
        · rw [h0] at q; exact absurd q hlt
        · unfold wp_X7_allowed_255
          rw [nI_add]
          exact hJ
      · have ne : ¬ nI i = nI l := by rw [nI_eq (by omega) (by omega)]; exact e
        cases qo : bt x3 i
        · obtain ⟨r, hJ, hr⟩ := ih (i + 1) f w1 w2 w3 (by omega) (zAvO_skip hv (Or.inr qo))
          refine ⟨r, t_X7_allowed_20 hb hsl ⟨fun q => ?_, fun _ => ⟨fun q => absurd q ne, fun _ => ⟨fun _ => ?_, fun q => ?_⟩⟩⟩, hr⟩
          · rw [h0] at q; exact absurd q hlt
          · unfold wp_X7_allowed_255
            rw [nI_add]
            exact hJ
          · rw [z_andbit (by omega)] at q
            exact absurd qo q
        · obtain ⟨t1, t2⟩ := hT i (by omega) e qo
          obtain ⟨-, s2, -⟩ := hL i (by omega)
          have hti : vp_in (nI i) 9 := z_in (by omega) (by decide)
          have ki : (nI i).toNatClampNeg = i := nI_clamp (by omega)
          have e4 : ∀ x : Int32, (x &&& (nI 1 <<< (nI i &&& 31)) = 0) = (bt x i = false) := fun x => z_andbit (by omega)
          have ets : (if dDb D i = 1 then nI 3 else nI 1) <<< (nI (T i) &&& 31) = zTs D T i := rfl
          have edy : nI (T i) / nI 4 * nI 4 = nI (T i / 4 * 4) := by rw [z_d4 t2, pk_mul]
          have btk : ∀ k, k < 32 → bt (zTs D T i) k = zTk D T i k := fun k hk => zTs_bt (by omega) hk
          have b4 := r4 i (by omega)
          have b5 := r5 i (by omega)
          have b6 := r6 i (by omega)
          have b7 := r7 i (by omega)
          have b8 := r8 i (by omega)
          have b9 := r9 i (by omega)
          rw [decide_eq_true (show i < dN D by omega), decide_eq_false e, Bool.not_false, Bool.true_and, Bool.true_and] at b4 b6 b9
          -- the words behind this other
          obtain ⟨r, hJ, hr⟩ := ih (i + 1)
            (((((f &&& (if bt (σ (b + 4) l) i = false then (-1) else ((zTs D T i ||| (zTs D T i >>> (nI (dDb D l) &&& 31))) ^^^ (-1)))) &&& (if bt (σ (b + 5) l) i = false then (-1) else nI 15 <<< (nI (T i / 4 * 4) &&& 31))) &&& (if bt (σ (b + 6) l) i = false then (-1) else ((nI 15 <<< (nI (T i / 4 * 4) &&& 31)) ^^^ (-1)))) &&& (if bt (σ (b + 7) l) i = false then (-1) else (((nI 2 <<< (nI (T i) &&& 31)) - nI 1) ^^^ (-1)))) &&& (if bt (σ (b + 8) l) i = false then (-1) else ((nI 1 <<< (nI (T i) &&& 31)) - nI 1)))
            (if bt (σ (b + 9) l) i = false then w1 else (w1 ||| zTs D T i)) (if bt (σ (b + 9) l) i = false then w2 else (w2 ||| (w1 &&& zTs D T i))) (if bt (σ (b + 9) l) i = false then w3 else (w3 ||| (w2 &&& zTs D T i))) (by omega) (by
              intro k hk
              obtain ⟨h1, h2, h3, h4⟩ := hv k hk
              refine ⟨?_, ?_⟩
              · have eq1 : q_any (fun o => !decide (o = l) && bt x3 o && !zPr D H l k o (T o)) (i + 1) = (q_any (fun o => !decide (o = l) && bt x3 o && !zPr D H l k o (T o)) i || !zPr D H l k i (T i)) := by
                  show (q_any _ i || (!decide (i = l) && bt x3 i && !zPr D H l k i (T i))) = _
                  rw [decide_eq_false e, qo]; rfl
                rw [eq1, Bool.not_or, Bool.not_not, b_and, b_and, b_and, b_and, b_and, h1]
                by_cases h20 : k < 20
                · rw [decide_eq_true h20, Bool.true_and, Bool.true_and]
                  have c1 : bt (if bt (σ (b + 4) l) i = false then (-1) else ((zTs D T i ||| (zTs D T i >>> (nI (dDb D l) &&& 31))) ^^^ (-1))) k = !(zClash D l i && zMt (dDb D l) k (dDb D i) (T i)) := by
                    rw [b4]
                    cases zClash D l i
                    · rw [if_pos rfl, b_m1 k hk]; rfl
                    · rw [if_neg (by decide), b_xor, b_m1 k hk, Bool.xor_true, b_or, btk k hk, b_sshr (dDb D l) (by omega) _ hk, if_pos (by omega), btk _ (by omega), Bool.true_and]
                      congr 1
                      unfold zMt
                      rw [zTk_td, zTk_td]
                      rcases (by omega : dDb D l = 0 ∨ dDb D l = 1) with z | z
                      · rw [z, Nat.zero_add]; simp
                      · rw [z, Nat.add_comm 1 k]; simp
                  have c2 : bt (if bt (σ (b + 5) l) i = false then (-1) else nI 15 <<< (nI (T i / 4 * 4) &&& 31)) k = (!zWd D H 4 (zBoth l i) (dW D) || decide (k / 4 = T i / 4)) := by
                    rw [b5]
                    cases zWd D H 4 (zBoth l i) (dW D)
                    · rw [if_pos rfl, b_m1 k hk]; rfl
                    · rw [if_neg (by decide), z_daym _ (by omega) k hk]; rfl
                  have c3 : bt (if bt (σ (b + 6) l) i = false then (-1) else ((nI 15 <<< (nI (T i / 4 * 4) &&& 31)) ^^^ (-1))) k = (!(zLike D l i && decide (k / 4 = T i / 4)) && (!zWd D H 5 (zBoth l i) (dW D) || !decide (k / 4 = T i / 4))) := by
                    rw [b6]
                    have hx : bt ((nI 15 <<< (nI (T i / 4 * 4) &&& 31)) ^^^ (-1)) k = !decide (k / 4 = T i / 4) := by
                      rw [b_xor, b_m1 k hk, Bool.xor_true, z_daym _ (by omega) k hk]
                    cases zLike D l i <;> cases zWd D H 5 (zBoth l i) (dW D)
                    · rw [if_pos (show (false || false) = false from rfl), b_m1 k hk]; rfl
                    · rw [if_neg (by decide), hx]; simp
                    · rw [if_neg (by decide), hx]; simp
                    · rw [if_neg (by decide), hx]; simp
                  have c4 : bt (if bt (σ (b + 7) l) i = false then (-1) else (((nI 2 <<< (nI (T i) &&& 31)) - nI 1) ^^^ (-1))) k = (!zWd D H 6 (fun a c => decide (a = i) && decide (c = l)) (dW D) || decide (T i < k)) := by
                    rw [b7]
                    cases zWd D H 6 (fun a c => decide (a = i) && decide (c = l)) (dW D)
                    · rw [if_pos rfl, b_m1 k hk]; rfl
                    · rw [if_neg (by decide), b_xor, b_m1 k hk, Bool.xor_true, z_lowm2 _ t2 k hk]
                      show (!decide (k ≤ T i)) = decide (T i < k)
                      rw [Bool.eq_iff_iff, Bool.not_eq_true', decide_eq_false_iff_not, decide_eq_true_eq]
                      omega
                  have c5 : bt (if bt (σ (b + 8) l) i = false then (-1) else ((nI 1 <<< (nI (T i) &&& 31)) - nI 1)) k = (!zWd D H 6 (fun a c => decide (a = l) && decide (c = i)) (dW D) || decide (k < T i)) := by
                    rw [b8]
                    cases zWd D H 6 (fun a c => decide (a = l) && decide (c = i)) (dW D)
                    · rw [if_pos rfl, b_m1 k hk]; rfl
                    · rw [if_neg (by decide), z_lowm _ t2 k hk]; rfl
                  rw [c1, c2, c3, c4, c5]
                  rw [zPr_w (l := l) (i := k) (o := i) (j := T i) v]
                  generalize O l k = g0
                  generalize (!q_any (fun o => !decide (o = l) && bt x3 o && !zPr D H l k o (T o)) i) = g1
                  generalize (!(zClash D l i && zMt (dDb D l) k (dDb D i) (T i))) = g2
                  generalize (!zWd D H 4 (zBoth l i) (dW D) || decide (k / 4 = T i / 4)) = g3
                  generalize (!(zLike D l i && decide (k / 4 = T i / 4))) = g4
                  generalize (!zWd D H 5 (zBoth l i) (dW D) || !decide (k / 4 = T i / 4)) = g5
                  generalize (!zWd D H 6 (fun a c => decide (a = i) && decide (c = l)) (dW D) || decide (T i < k)) = g6
                  generalize (!zWd D H 6 (fun a c => decide (a = l) && decide (c = i)) (dW D) || decide (k < T i)) = g7
                  cases g0 <;> cases g1 <;> cases g2 <;> cases g3 <;> cases g4 <;> cases g5 <;> cases g6 <;> cases g7 <;> rfl
                · rw [decide_eq_false h20]; rfl
              · have eq2 : q_cnt (zRc D T (bt x3) l k) (i + 1) = q_cnt (zRc D T (bt x3) l k) i + (if (decide (dKi D i = dKi D l) && zTk D T i k) then 1 else 0) := by
                  show q_cnt (zRc D T (bt x3) l k) i + (if zRc D T (bt x3) l k i then 1 else 0) = _
                  unfold zRc
                  rw [decide_eq_false e, qo]; rfl
                have z0 : ∀ (n : Nat), (!decide (dKi D l = 0) && decide (0 ≤ n)) = !decide (dKi D l = 0) := fun n => by rw [decide_eq_true (Nat.zero_le n), Bool.and_true]
                have up : ∀ (w w' : Int32) (p : Bool), bt w' k = (p && bt w k) → True := fun _ _ _ _ => trivial
                rw [eq2, z_ge1 (n := 0), z_ge1 (n := 1), z_ge1 (n := 2), z0, ← h2, ← h3, ← h4, b9]
                cases d0 : decide (dKi D l = 0)
                · cases d1 : decide (dKi D i = dKi D l)
                  · rw [if_pos (by rfl), if_pos (by rfl), if_pos (by rfl)]
                    simp
                  · rw [if_neg (by decide), if_neg (by decide), if_neg (by decide), b_or, b_or, b_or, b_and, b_and, btk k hk]
                    simp
                · rw [d0] at h2 h3 h4
                  rw [if_pos (by rfl), if_pos (by rfl), if_pos (by rfl), h2, h3, h4]
                  simp)
          refine ⟨r, t_X7_allowed_20 hb hsl ⟨fun q => ?_, fun _ => ⟨fun q => absurd q ne, fun _ => ⟨fun q => ?_, fun _ => ⟨hti, hti, hin, fun _ => hin, ?_⟩⟩⟩⟩, hr⟩
          · rw [h0] at q; exact absurd q hlt
          · rw [z_andbit (by omega), qo] at q
            cases q
          · unfold wp_X7_allowed_109 wp_X7_allowed_132 wp_X7_allowed_157 wp_X7_allowed_186 wp_X7_allowed_213 wp_X7_allowed_255
            refine ⟨hin, hin, hin, hin, hin, ?_⟩
            rw [ki, kl, t1, s2, r3, ets, edy, nI_add]
            simp only [e4]
            exact hJ
  obtain ⟨r, hJ, hr⟩ := key (dN D) 0 (σ (b + 1) l) (nI 0) (nI 0) (nI 0) (by omega) (by
    intro i hi
    refine ⟨?_, ?_, ?_, ?_⟩
    · rw [r1 i hi]
      show _ = (decide (i < 20) && (O l i && !false))
      simp
    · rw [z_bn _ _ hi]
      show Nat.testBit 0 i = (!decide (dKi D l = 0) && decide (1 ≤ 0))
      simp
    · rw [z_bn _ _ hi]
      show Nat.testBit 0 i = (!decide (dKi D l = 0) && decide (2 ≤ 0))
      simp
    · rw [z_bn _ _ hi]
      show Nat.testBit 0 i = (!decide (dKi D l = 0) && decide (3 ≤ 0))
      simp)
  refine ⟨r, c_X7_allowed ok hb hsl ⟨hin, ?_⟩, hr⟩
  rw [kl]
  exact hJ
end ZAO
