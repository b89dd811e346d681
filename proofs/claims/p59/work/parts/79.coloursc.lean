/-! COLOURS 2: the class -/
theorem z_nm1 {e : Nat} (he : e < 2 ^ 31) : ¬ nI e = -1 := fun q => absurd (by rw [q]; decide : nI e < 0) (nI_pos he)
section ZCC
variable {G : sj_G} {σ : sj_S} {D : zD} {c : Nat → Nat} {p q : Nat}
theorem z_cP (hC : repC D (σ 2)) {b l : Nat} (hb : b ≤ 1) (hl : l < dN D) : σ 2 (3 + l * 5 + b) = nI (dP D b l) := by
  obtain ⟨a0, a1, -⟩ := hC.2.2.2.1 l hl
  rcases (by omega : b = 0 ∨ b = 1) with e | e <;> subst e
  · exact a0
  · exact a1
theorem z_dP6 (v : okD D) {b l : Nat} (hl : l < dN D) : dP D b l < 6 := by
  obtain ⟨g1, g2, -⟩ := v.2.2.2.1 l hl
  unfold dP
  split <;> omega
theorem z_withColour (ok : sj_ok G) (hC : repC D (σ 2)) (v : okD D) {b r x l : Nat} (hb : b ≤ 1) (hr : r < 100) (hx : x < 100) (hl : l ≤ dN D) (hf : ∀ i, i < l → σ 40 i = nI (c i) ∧ c i < 32) :
    sj_C G 3 me_X1_withColour [.ref (sj_ad G 39), .ref (sj_ad G 1), .int (nI b), .int (nI r), .int (nI x), .int (nI l)] σ (.ok (zOp (zFc D c b r x l 0)), σ) := by
  have h9 := v.1
  refine c_X1_withColour ok ?_
  unfold wp_X1_withColour_0
  have key : ∀ k i, i + k = l → sj_J G 3 me_X1_withColour (.ok (zOp (zFc D c b r x k i)), σ) 3 [.ref (sj_ad G 39), .ref (sj_ad G 1), .int (nI b), .int (nI r), .int (nI x), .int (nI l), .int (nI i)] σ [] := by
    intro k
    induction k with
    | zero =>
      intro i hi
      exact t_X1_withColour_3 ⟨fun _ => rfl, fun q => absurd (nI_le (by omega) (by omega)) q⟩
    | succ k ih =>
      intro i hi
      obtain ⟨e1, e2⟩ := hf i (by omega)
      have h1 := ih (i + 1) (by omega)
      have ec : σ 40 (nI i).toNatClampNeg = nI (c i) := by rw [nI_clamp (by omega)]; exact e1
      refine t_X1_withColour_3 ⟨fun q => absurd q (nI_ge (by omega) (by omega)), fun _ => ⟨z_in (by omega) (by decide), fun q => ?_, fun q => ⟨_, _, z_isOfD ok hC v (by omega) hb (by omega), fun q2 => ?_, fun q2 => ?_⟩⟩⟩
      · unfold wp_X1_withColour_36
        rw [ec, nI_eq (by omega) (by omega)] at q
        rw [zFc_s, if_neg (fun w => q w.2), nI_add]
        exact h1
      · unfold wp_X1_withColour_36
        have hn : ¬ dP D b i = r := fun w => by rw [if_pos w] at q2; exact absurd q2 z_10
        rw [zFc_s, if_neg (fun w => hn w.1), nI_add]
        exact h1
      · rw [ec, nI_eq (by omega) (by omega)] at q
        have hy : dP D b i = r := by
          by_cases w : dP D b i = r
          · exact w
          · rw [if_neg w] at q2; exact absurd z_00 q2
        rw [zFc_s, if_pos ⟨hy, q⟩]
        rfl
  exact key l 0 (by omega)
def zUr (D : zD) (c : Nat → Nat) (b r : Nat) : Nat → Int32
  | 0 => nI 0
  | n + 1 => zOr (decide (dP D b n = r)) (zUr D c b r n) (c n)
theorem zUr_s {b r n : Nat} : zUr D c b r (n + 1) = zOr (decide (dP D b n = r)) (zUr D c b r n) (c n) := rfl
theorem zUr_bt {b r y : Nat} (hy : y < 32) : ∀ n, (∀ i, i < n → c i < 32) → bt (zUr D c b r n) y = zUd D c b r n y := by
  intro n
  induction n with
  | zero => intro _; exact (z_bn 0 y hy).trans (Nat.zero_testBit y)
  | succ n ih =>
    intro h
    rw [zUr_s, zOr_bt (h n (by omega)) hy, ih (fun i hi => h i (by omega))]
    show (zUd D c b r n y || _) = (zUd D c b r n y || (decide (dP D b n = r) && decide (c n = y)))
    congr 2
    exact decide_eq_decide.mpr ⟨fun h => h.symm, fun h => h.symm⟩
theorem z_used (ok : sj_ok G) (hC : repC D (σ 2)) (v : okD D) {b l : Nat} (hb : b ≤ 1) (hl : l < dN D) (hf : ∀ i, i < l → σ 40 i = nI (c i) ∧ c i < 32) :
    sj_C G 3 me_X1_used [.ref (sj_ad G 39), .ref (sj_ad G 1), .int (nI b), .int (nI l)] σ (.ok (zUr D c b (dP D b l) l), σ) := by
  have h9 := v.1
  refine c_X1_used ok ?_
  unfold wp_X1_used_0 wp_X1_used_11
  have e : (if nI b = 0 then nI 0 else nI 1) = nI b := by
    rcases (by omega : b = 0 ∨ b = 1) with h | h <;> subst h <;> decide
  have hd := z_dP6 v (b := b) hl
  have h3 := z_ofLesson (σ := σ) ok (l := l) (k := b) (by omega) (by omega)
  rw [z_cP hC hb hl] at h3
  rw [e]
  refine ⟨_, _, h3, ?_⟩
  have key : ∀ k i, i + k = l → sj_J G 3 me_X1_used (.ok (zUr D c b (dP D b l) l), σ) 22 [.ref (sj_ad G 39), .ref (sj_ad G 1), .int (nI b), .int (nI l), .int (nI (dP D b l)), .int (zUr D c b (dP D b l) i), .int (nI i)] σ [] := by
    intro k
    induction k with
    | zero =>
      intro i hi
      have : i = l := by omega
      subst this
      exact t_X1_used_22 ⟨fun _ => rfl, fun q => absurd (nI_le (by omega) (by omega)) q⟩
    | succ k ih =>
      intro i hi
      obtain ⟨e1, e2⟩ := hf i (by omega)
      have h1 := ih (i + 1) (by omega)
      refine t_X1_used_22 ⟨fun q => absurd q (nI_ge (by omega) (by omega)), fun _ => ⟨_, _, z_isOfD ok hC v (by omega) hb (by omega), fun _ => z_in (by omega) (by decide), ?_⟩⟩
      unfold wp_X1_used_54
      rw [nI_clamp (by omega), e1, nI_add]
      rw [zUr_s] at h1
      unfold zOr at h1
      by_cases w : dP D b i = dP D b l
      · rw [if_pos w, if_neg z_10]
        rw [decide_eq_true w, if_pos rfl] at h1
        exact h1
      · rw [if_neg w, if_pos z_00]
        rw [decide_eq_false w, if_neg (by decide)] at h1
        exact h1
  exact key l 0 (by omega)
theorem z_leastBeside (ok : sj_ok G) {x : Int32} {f : Nat → Bool} (h : ∀ i, i < 9 → bt x i = f i) : sj_C G 2 me_X1_leastBeside [.ref (sj_ad G 39), .int x] σ (.ok (nI (zLs f 9 0)), σ) := by
  refine c_X1_leastBeside ok ?_
  unfold wp_X1_leastBeside_0
  have key : ∀ k i, i + k = 9 → sj_J G 2 me_X1_leastBeside (.ok (nI (zLs f k i)), σ) 2 [.null, .int x, .int (nI i)] σ [] := by
    intro k
    induction k with
    | zero =>
      intro i hi
      exact t_X1_leastBeside_2 ⟨fun _ => rfl, fun q => absurd (nI_le (by omega) (by omega)) q⟩
    | succ k ih =>
      intro i hi
      have h1 := ih (i + 1) (by omega)
      have hb := h i (by omega)
      refine t_X1_leastBeside_2 ⟨fun q => absurd q (nI_ge (by omega) (by omega)), fun _ => ⟨fun q => ?_, fun q => ?_⟩⟩
      · rw [z_bit (by omega), hb] at q
        unfold wp_X1_leastBeside_22
        rw [zLs_s, q, if_neg (by decide)]
      · rw [z_bit (by omega), hb, Bool.not_eq_false] at q
        rw [zLs_s, q, if_pos rfl, nI_add]
        exact h1
  exact key 9 0 (by decide)
theorem zOn_n {l n i : Nat} (hn : zSq D c l p q n = none) (h9 : n ≤ 9) : zOn D c l p q i = q_any (fun k => decide (zSq D c l p q k = some i)) n := by
  have key : ∀ m, zSq D c l p q (n + m) = none := by
    intro m
    induction m with
    | zero => exact hn
    | succ m ih => exact zSq_n ih
  unfold zOn
  rw [Bool.eq_iff_iff, q_any_iff, q_any_iff]
  constructor
  · rintro ⟨k, h1, h2⟩
    refine ⟨k, ?_, h2⟩
    apply Classical.byContradiction
    intro hk
    have := key (k - n)
    rw [show n + (k - n) = k by omega] at this
    rw [this] at h2
    exact absurd h2 (by simp)
  · rintro ⟨k, h1, h2⟩
    exact ⟨k, by omega, h2⟩
theorem z_turn (ok : sj_ok G) (hC : repC D (σ 2)) (v : okD D) {l n : Nat} (hl : l < dN D) (hp : p < 10) (hq : q < 10) (hf : ∀ i, i < l → σ 40 i = nI (c i) ∧ c i < 32) (hn8 : n ≤ 8) (hn : zSq D c l p q n = none) (hs : ∀ k, k < n → ∃ e, zSq D c l p q k = some e) :
    ∃ g, sj_C G 4 me_X1_turn [.ref (sj_ad G 39), .ref (sj_ad G 1), .int (nI l), .int (nI p), .int (nI q)] σ (.ok 0, sj_up σ 40 g) ∧ ∀ i, i < l → g i = nI (zFl D c l p q i) := by
  have h9 := v.1
  let gg : Nat → Nat → Int32 := fun j i => if i < j then nI (zFl D c l p q i) else σ 40 i
  refine ⟨gg l, ?_, fun i hi => if_pos hi⟩
  have key2 : ∀ W : Int32, (∀ i, i < 32 → bt W i = zOn D c l p q i) → ∀ m i, i + m = l → sj_J G 4 me_X1_turn (.ok 0, sj_up σ 40 (gg l)) 108 [.ref (sj_ad G 39), .null, .int (nI l), .int (nI p), .int (nI q), .int W, .null, .int (nI i), .null, .null] (sj_up σ 40 (gg i)) [] := by
    intro W hW m
    induction m with
    | zero =>
      intro i hi
      have : i = l := by omega
      subst this
      exact t_X1_turn_108 ⟨fun _ => rfl, fun q => absurd (nI_le (by omega) (by omega)) q⟩
    | succ m ih =>
      intro i hi
      have h1 := ih (i + 1) (by omega)
      obtain ⟨e1, e2⟩ := hf i (by omega)
      refine t_X1_turn_108 ⟨fun q => absurd q (nI_ge (by omega) (by omega)), fun _ => ⟨fun _ => ⟨z_in (by omega) (by decide), z_in (by omega) (by decide)⟩, ?_⟩⟩
      unfold wp_X1_turn_143
      have hgi : gg i i = nI (c i) := (if_neg (by omega)).trans e1
      have e : (if ((W >>> (nI i &&& 31)) &&& nI 1) = 0 then sj_up σ 40 (gg i) else sj_st (sj_up σ 40 (gg i)) 40 (nI i).toNatClampNeg ((nI p + nI q) - (sj_up σ 40 (gg i)) 40 (nI i).toNatClampNeg)) = sj_up σ 40 (gg (i + 1)) := by
        rw [nI_clamp (by omega), sj_up_s, hgi, z_st_up]
        have hb := hW i (by omega)
        by_cases w : zOn D c l p q i = true
        · have hne : ¬ ((W >>> (nI i &&& 31)) &&& nI 1) = 0 := by rw [z_bit (by omega), hb, w]; decide
          rw [if_neg hne]
          have hcp : c i = p ∨ c i = q := by
            unfold zOn at w
            obtain ⟨k, -, hk⟩ := (q_any_iff _).mp w
            exact zSq_pq (decide_eq_true_eq.mp hk)
          rw [nI_add, pk_sub (by omega)]
          congr 1
          funext j
          show (if j = i then nI (p + q - c i) else if j < i then nI (zFl D c l p q j) else σ 40 j) = if j < i + 1 then nI (zFl D c l p q j) else σ 40 j
          by_cases hj : j = i
          · subst hj
            rw [if_pos rfl, if_pos (by omega)]
            unfold zFl
            rw [if_pos w]
          · by_cases h2 : j < i
            · rw [if_neg hj, if_pos h2, if_pos (by omega)]
            · rw [if_neg hj, if_neg h2, if_neg (by omega)]
        · have hne : ((W >>> (nI i &&& 31)) &&& nI 1) = 0 := by
            rw [z_bit (by omega), hb]
            simpa using w
          rw [if_pos hne]
          congr 1
          funext j
          show (if j < i then nI (zFl D c l p q j) else σ 40 j) = if j < i + 1 then nI (zFl D c l p q j) else σ 40 j
          by_cases hj : j = i
          · subst hj
            rw [if_neg (by omega), if_pos (by omega)]
            unfold zFl
            rw [if_neg w]
            exact e1
          · by_cases h2 : j < i
            · rw [if_pos h2, if_pos (by omega)]
            · rw [if_neg h2, if_neg (by omega)]
      rw [e, nI_add]
      exact h1
  have hend : ∀ W : Int32, (∀ i, i < 32 → bt W i = zOn D c l p q i) → sj_J G 4 me_X1_turn (.ok 0, sj_up σ 40 (gg l)) 108 [.ref (sj_ad G 39), .null, .int (nI l), .int (nI p), .int (nI q), .int W, .null, .int (nI 0), .null, .null] σ [] := by
    intro W hW
    have h := key2 W hW l 0 (by omega)
    have e : gg 0 = σ 40 := by
      funext j
      exact if_neg (Nat.not_lt_zero j)
    rw [e, z_up_self] at h
    exact h
  have key1 : ∀ m k, k + m = n → ∀ W : Int32, (∀ i, i < 32 → bt W i = q_any (fun k => decide (zSq D c l p q k = some i)) k) → sj_J G 4 me_X1_turn (.ok 0, sj_up σ 40 (gg l)) 22 [.ref (sj_ad G 39), .ref (sj_ad G 1), .int (nI l), .int (nI p), .int (nI q), .int W, .int (zOp (zSq D c l p q k)), .int (nI (k + 1)), .null, .null] σ [] := by
    intro m
    induction m with
    | zero =>
      intro k hk W hW
      have : k = n := by omega
      subst this
      have hW2 : ∀ i, i < 32 → bt W i = zOn D c l p q i := fun i hi => (hW i hi).trans (zOn_n hn (by omega)).symm
      rw [hn]
      refine t_X1_turn_22 ⟨fun _ => ?_, fun _ => ⟨fun _ => ?_, fun w => absurd rfl w⟩⟩
      · exact hend W hW2
      · exact hend W hW2
    | succ m ih =>
      intro k hk W hW
      obtain ⟨e, he⟩ := hs k (by omega)
      obtain ⟨hel, -, -, -⟩ := zSq_some he
      have hd0 := z_dP6 v (b := 0) (l := e) (by omega)
      have hd1 := z_dP6 v (b := 1) (l := e) (by omega)
      have hbits : ∀ i, i < 32 → bt (W ||| (nI 1 <<< (nI e &&& 31))) i = q_any (fun k => decide (zSq D c l p q k = some i)) (k + 1) := by
        intro i hi
        rw [b_or, hW i hi, z_shl1 (by omega) hi]
        show _ = (q_any (fun k => decide (zSq D c l p q k = some i)) k || decide (zSq D c l p q k = some i))
        rw [he]
        congr 1
        refine decide_eq_decide.mpr ⟨fun h => by rw [h], fun h => (Option.some.inj h).symm⟩
      have h1 := ih (k + 1) (by omega) _ hbits
      rw [zSq_s he] at h1
      rw [he]
      refine t_X1_turn_22 ⟨fun w => absurd w (nI_nlt (by omega) (by omega)), fun _ => ⟨fun w => absurd w (z_nm1 (by omega)), fun _ => ?_⟩⟩
      unfold wp_X1_turn_47 wp_X1_turn_62
      rw [pk_rem (by omega) (by decide) (by decide)]
      by_cases hk2 : k % 2 = 0
      · -- at the class
        rw [if_neg (nI_ne0 (by omega) (by omega)), if_pos z_00]
        have h3 := z_ofLesson (σ := σ) ok (l := e) (k := 0) (by omega) (by omega)
        rw [z_cP hC (by omega) (by omega)] at h3
        refine ⟨_, _, h3, ?_⟩
        unfold wp_X1_turn_93
        refine ⟨_, _, z_withColour (c := c) ok hC v (b := 0) (by omega) (by omega) (by omega : q < 100) (by omega) hf, ?_⟩
        unfold zNw at h1
        rw [if_pos hk2] at h1
        rw [nI_add]
        exact h1
      · have e0 : (k + 1) % 2 = 0 := by omega
        rw [e0, if_pos z_00, if_neg z_10]
        have h3 := z_ofLesson (σ := σ) ok (l := e) (k := 1) (by omega) (by omega)
        rw [z_cP hC (by omega) (by omega)] at h3
        refine ⟨_, _, h3, ?_⟩
        unfold wp_X1_turn_93
        refine ⟨_, _, z_withColour (c := c) ok hC v (b := 1) (by omega) (by omega) (by omega : p < 100) (by omega) hf, ?_⟩
        unfold zNw at h1
        rw [if_neg hk2] at h1
        rw [nI_add]
        exact h1
  refine c_X1_turn ok ?_
  unfold wp_X1_turn_0
  have h3 := z_ofLesson (σ := σ) ok (l := l) (k := 1) (by omega) (by omega)
  rw [z_cP hC (by omega) (by omega)] at h3
  have hd1 := z_dP6 v (b := 1) (l := l) (by omega)
  refine ⟨_, _, h3, _, _, z_withColour (c := c) ok hC v (b := 1) (by omega) (by omega) (by omega : p < 100) (by omega) hf, ?_⟩
  exact key1 n 0 (by omega) (nI 0) (fun i hi => (z_bn 0 i hi).trans (Nat.zero_testBit i))
theorem z_paint (ok : sj_ok G) (hC : repC D (σ 2)) (v : okD D) : ∃ g, sj_C G 5 me_X1_paint [.ref (sj_ad G 39), .ref (sj_ad G 1)] σ (.ok 0, sj_up σ 40 g) ∧ ∀ i, i < dN D → g i = nI (zCo D (zMo D) (dN D) i) := by
  have h9 := v.1
  have hM9 := zMo_9 v
  have key : ∀ k l, l + k = dN D → ∀ g : Nat → Int32, (∀ i, i < l → g i = nI (zCo D (zMo D) l i)) → ∃ g', sj_J G 5 me_X1_paint (.ok 0, sj_up σ 40 g') 8 [.ref (sj_ad G 39), .ref (sj_ad G 1), .int (nI (zMo D)), .int (nI l), .null, .null, .null, .null] (sj_up σ 40 g) [] ∧ ∀ i, i < dN D → g' i = nI (zCo D (zMo D) (dN D) i) := by
    intro k
    induction k with
    | zero =>
      intro l hl g hg
      have : l = dN D := by omega
      subst this
      refine ⟨g, ?_, hg⟩
      refine t_X1_paint_8 ⟨_, _, z_lessonTotal ok, fun _ => rfl, fun w => ?_⟩
      rw [z_upn (by decide), hC.1] at w
      exact absurd (nI_le (by omega) (by omega)) w
    | succ k ih =>
      intro l hl g hg
      obtain ⟨hp, hb⟩ := zCo_ok v l (by omega)
      generalize ec : zCo D (zMo D) l = c at hp hb hg
      have hτ : ∀ g : Nat → Int32, repC D ((sj_up σ 40 g) 2) := fun g => by rw [z_upn (by decide)]; exact hC
      have hf : ∀ i, i < l → (sj_up σ 40 g) 40 i = nI (c i) ∧ c i < 32 := fun i hi => ⟨by rw [sj_up_s]; exact hg i hi, by have := hb i hi; omega⟩
      have hu0 := z_used (σ := sj_up σ 40 g) ok (hτ g) v (b := 0) (by omega) (by omega : l < dN D) hf
      have hu1 := z_used (σ := sj_up σ 40 g) ok (hτ g) v (b := 1) (by omega) (by omega : l < dN D) hf
      have hb0 : ∀ i, i < 9 → bt (zUr D c 0 (dP D 0 l) l) i = zA0 D c l i := fun i hi => zUr_bt (by omega) l (fun i hi => (hf i hi).2)
      have hb1 : ∀ i, i < 9 → bt (zUr D c 1 (dP D 1 l) l) i = zA1 D c l i := fun i hi => zUr_bt (by omega) l (fun i hi => (hf i hi).2)
      have hbb : ∀ i, i < 9 → bt (zUr D c 0 (dP D 0 l) l ||| zUr D c 1 (dP D 1 l) l) i = zAb D c l i := fun i hi => by rw [b_or, hb0 i hi, hb1 i hi]; rfl
      have hx9 : zCb D c l ≤ 9 := by have := (zLs_spec (f := zAb D c l) 9 0).2.1; unfold zCb; omega
      by_cases hk : zCb D c l < zMo D
      · have hc' : zCo D (zMo D) (l + 1) = zEu c l (zCb D c l) := by
          rw [zCo_s, ec]
          unfold zStp
          rw [if_pos hk]
        obtain ⟨g', h1, h2⟩ := ih (l + 1) (by omega) (upd g l (nI (zCb D c l))) (fun i hi => by
          rw [hc']
          unfold upd zEu
          by_cases e : i = l
          · rw [if_pos e, if_pos e]
          · rw [if_neg e, if_neg e]; exact hg i (by omega))
        refine ⟨g', ?_, h2⟩
        refine t_X1_paint_8 ⟨_, _, z_lessonTotal ok, fun w => ?_, fun _ => ⟨_, _, hu0, _, _, hu1, _, _, z_leastBeside ok hbb, fun w => ?_, fun _ => ⟨z_in (by omega) (by decide), ?_⟩⟩⟩
        · rw [z_upn (by decide), hC.1] at w
          exact absurd w (nI_ge (by omega) (by omega))
        · exact absurd w (nI_ge hk (by omega))
        · unfold wp_X1_paint_92
          rw [nI_clamp (by omega), z_st_up, nI_add]
          exact h1
      · obtain ⟨a0, a1, e1, e0, e2, hne⟩ := zKe_ok (c := c) (l := l) (by omega) hM9 (zMo_le (b := 0) v (by omega) (by omega)) (zMo_le (b := 1) v (by omega) (by omega)) hk
        obtain ⟨n, n1, n2, n3⟩ := zSq_end hp e1 hne
        obtain ⟨gt, ht, hg2⟩ := z_turn (σ := sj_up σ 40 g) (c := c) (p := zCp D c l) (q := zCq D c l) ok (hτ g) v (l := l) (n := n) (by omega) (by omega) (by omega) hf (by omega) n2 n3
        have hc' : zCo D (zMo D) (l + 1) = zEu (zFl D c l (zCp D c l) (zCq D c l)) l (zCp D c l) := by
          rw [zCo_s, ec]
          unfold zStp
          rw [if_neg hk]
        obtain ⟨g', h1, h2⟩ := ih (l + 1) (by omega) (upd gt l (nI (zCp D c l))) (fun i hi => by
          rw [hc']
          unfold upd zEu
          by_cases e : i = l
          · rw [if_pos e, if_pos e]
          · rw [if_neg e, if_neg e]; exact hg2 i (by omega))
        refine ⟨g', ?_, h2⟩
        refine t_X1_paint_8 ⟨_, _, z_lessonTotal ok, fun w => ?_, fun _ => ⟨_, _, hu0, _, _, hu1, _, _, z_leastBeside ok hbb, fun _ => ⟨_, _, z_leastBeside ok hb0, _, _, z_leastBeside ok hb1, _, ht, z_in (by omega) (by decide), ?_⟩, fun w => ?_⟩⟩
        · rw [z_upn (by decide), hC.1] at w
          exact absurd w (nI_ge (by omega) (by omega))
        · unfold wp_X1_paint_92
          rw [nI_clamp (by omega), z_up_up, z_st_up, nI_add]
          exact h1
        · exact absurd (nI_le (a := zMo D) (b := zCb D c l) (by omega) (by omega)) w
  have h0 := key (dN D) 0 (by omega) (σ 40) (fun i hi => absurd hi (by omega))
  rw [z_up_self] at h0
  obtain ⟨g', h1, h2⟩ := h0
  refine ⟨g', c_X1_paint ok ?_, h2⟩
  unfold wp_X1_paint_0
  have hm := z_mostOf (σ := σ) ok hC v
  rw [zMost_eq] at hm
  exact ⟨_, _, hm, h1⟩
end ZCC
