/-! COLOURS 3: the reference, and the pair -/
section ZCM
variable {G : sj_G} {σ : sj_S} {D : zD} {c : Nat → Nat} {p q : Nat}
theorem z_mP (hM : repM D (σ 57)) {b l : Nat} (hb : b ≤ 1) (hl : l < dN D) : σ 57 (9 * b + l) = nI (dP D b l) := by
  obtain ⟨a0, a1, -⟩ := hM.2.2.2.1 l hl
  rcases (by omega : b = 0 ∨ b = 1) with e | e <;> subst e
  · exact a0
  · exact a1
theorem y_coloured (ok : sj_ok G) (hM : repM D (σ 57)) (v : okD D) {b r x l : Nat} (hb : b ≤ 1) (hr : r < 100) (hx : x < 100) (hl : l ≤ dN D) (hf : ∀ i, i < l → σ 64 i = nI (c i) ∧ c i < 32) :
    sj_C G 3 me_X12_coloured [.ref (sj_ad G 56), .int (nI l), .int (nI b), .int (nI r), .int (nI x)] σ (.ok (zOp (zFc D c b r x l 0)), σ) := by
  have h9 := v.1
  refine c_X12_coloured ok ?_
  unfold wp_X12_coloured_0
  have key : ∀ k i, i + k = l → sj_J G 3 me_X12_coloured (.ok (zOp (zFc D c b r x k i)), σ) 3 [.ref (sj_ad G 56), .int (nI l), .int (nI b), .int (nI r), .int (nI x), .int (nI i)] σ [] := by
    intro k
    induction k with
    | zero =>
      intro i hi
      exact t_X12_coloured_3 ⟨fun _ => rfl, fun q => absurd (nI_le (by omega) (by omega)) q⟩
    | succ k ih =>
      intro i hi
      obtain ⟨e1, e2⟩ := hf i (by omega)
      have h1 := ih (i + 1) (by omega)
      have ec : σ 64 (nI i).toNatClampNeg = nI (c i) := by rw [nI_clamp (by omega)]; exact e1
      refine t_X12_coloured_3 ⟨fun q => absurd q (nI_ge (by omega) (by omega)), fun _ => ⟨_, _, y_isOf ok hM v (by omega) hb (by omega), fun q2 => ?_, fun q2 => ⟨z_in (by omega) (by decide), fun q => ?_, fun q => ?_⟩⟩⟩
      · unfold wp_X12_coloured_35
        have hn : ¬ dP D b i = r := fun w => by rw [if_pos w] at q2; exact absurd q2 z_10
        rw [zFc_s, if_neg (fun w => hn w.1), nI_add]
        exact h1
      · unfold wp_X12_coloured_35
        rw [ec, nI_eq (by omega) (by omega)] at q
        rw [zFc_s, if_neg (fun w => q w.2), nI_add]
        exact h1
      · rw [ec, nI_eq (by omega) (by omega)] at q
        have hy : dP D b i = r := by
          by_cases w : dP D b i = r
          · exact w
          · rw [if_neg w] at q2; exact absurd z_00 q2
        rw [zFc_s, if_pos ⟨hy, q⟩]
        rfl
  exact key l 0 (by omega)
theorem zOp_none {o : Option Nat} (h : ∀ e, o = some e → e < 2 ^ 31) : zOp o = -1 ↔ o = none := by
  cases o with
  | none => exact ⟨fun _ => rfl, fun _ => rfl⟩
  | some e => exact ⟨fun q => absurd q (z_nm1 (h e rfl)), fun q => by cases q⟩
theorem zFc_small {b r x l : Nat} (hl : l < 100) : ∀ e, zFc D c b r x l 0 = some e → e < 2 ^ 31 := fun e h => by
  have := (zFc_some _ _ h).2.1
  omega
theorem zFc_t {b r x l : Nat} (hl : l < 100) : (zOp (zFc D c b r x l 0) = -1) ↔ zUd D c b r l x = false := by
  rw [zOp_none (zFc_small hl), zFc_used]
theorem y_free (ok : sj_ok G) (hM : repM D (σ 57)) (v : okD D) {b r l : Nat} (hb : b ≤ 1) (hr : r < 100) (hl : l ≤ dN D) (hf : ∀ i, i < l → σ 64 i = nI (c i) ∧ c i < 9) :
    sj_C G 4 me_X12_free [.ref (sj_ad G 56), .int (nI l), .int (nI b), .int (nI r)] σ (.ok (nI (zLs (zUd D c b r l) 9 0)), σ) := by
  have h9 := v.1
  refine c_X12_free ok ?_
  unfold wp_X12_free_0
  have hf2 : ∀ i, i < l → σ 64 i = nI (c i) ∧ c i < 32 := fun i hi => ⟨(hf i hi).1, by have := (hf i hi).2; omega⟩
  have key : ∀ k i, i + k = 9 → sj_J G 4 me_X12_free (.ok (nI (zLs (zUd D c b r l) k i)), σ) 3 [.ref (sj_ad G 56), .int (nI l), .int (nI b), .int (nI r), .int (nI i)] σ [] := by
    intro k
    induction k with
    | zero =>
      intro i hi
      refine t_X12_free_3 ⟨_, _, y_coloured ok hM v hb hr (by omega) hl hf2, fun _ => rfl, fun w => ?_⟩
      rw [zFc_t (by omega), Bool.not_eq_false, zUd_iff] at w
      obtain ⟨o, h1, -, h2⟩ := w
      have := (hf o h1).2
      omega
    | succ k ih =>
      intro i hi
      have h1 := ih (i + 1) (by omega)
      refine t_X12_free_3 ⟨_, _, y_coloured ok hM v hb hr (by omega) hl hf2, fun w => ?_, fun w => ?_⟩
      · rw [zFc_t (by omega)] at w
        rw [zLs_s, w, if_neg (by decide)]
      · rw [zFc_t (by omega), Bool.not_eq_false] at w
        rw [zLs_s, w, if_pos rfl, nI_add]
        exact h1
  exact key 9 0 (by decide)
def zTw (σ : sj_S) (g w : Nat → Int32) : sj_S := sj_up (sj_up σ 64 g) 65 w
theorem zTw_n {g w : Nat → Int32} {b : Nat} (h1 : b ≠ 64) (h2 : b ≠ 65) : zTw σ g w b = σ b := by
  unfold zTw
  rw [z_upn h2, z_upn h1]
theorem zTw_64 {g w : Nat → Int32} : zTw σ g w 64 = g := by
  unfold zTw
  rw [z_upn (by decide), sj_up_s]
theorem zTw_65 {g w : Nat → Int32} : zTw σ g w 65 = w := sj_up_s
theorem zTw_s64 {g w : Nat → Int32} {i : Nat} {x : Int32} : sj_st (zTw σ g w) 64 i x = zTw σ (upd g i x) w := by
  funext b
  by_cases h : b = 64
  · subst h
    rw [z_sta, zTw_64, zTw_64]
  · rw [z_stn h]
    by_cases h2 : b = 65
    · subst h2
      rw [zTw_65, zTw_65]
    · rw [zTw_n h h2, zTw_n h h2]
theorem zTw_s65 {g w : Nat → Int32} {i : Nat} {x : Int32} : sj_st (zTw σ g w) 65 i x = zTw σ g (upd w i x) := by
  unfold zTw
  rw [z_st_up]
theorem zTw_id : zTw σ (σ 64) (σ 65) = σ := by
  unfold zTw
  rw [z_up_self, z_up_self]
/-- the reference turns the way -/
theorem y_turn (ok : sj_ok G) (hM : repM D (σ 57)) (v : okD D) {M : Int32} {l n : Nat} (hl : l < dN D) (hp9 : p < 9) (hq9 : q < 9) (hb9 : ∀ i, i < l → c i < 9) (hpr : zPro D c l) (hq : zUd D c 1 (dTe D l) l q = false) (hne : p ≠ q)
    (hn8 : n ≤ 8) (hn : zSq D c l p q n = none) (hs : ∀ k, k < n → ∃ e, zSq D c l p q k = some e) {g w : Nat → Int32} (hg : ∀ i, i < l → g i = nI (c i)) :
    ∃ g1 w1, (∀ i, i < l + 1 → g1 i = nI (zEu (zFl D c l p q) l p i)) ∧ ∀ R : sj_R, sj_J G 5 me_X12_colours R 7 [.ref (sj_ad G 56), .int M, .int (nI (l + 1)), .null, .null, .null, .null, .null, .null, .null, .null] (zTw σ g1 w1) [] →
      sj_J G 5 me_X12_colours R 121 [.ref (sj_ad G 56), .int M, .int (nI l), .null, .null, .null, .int (nI p), .int (nI q), .int (nI 0), .int (zOp (zSq D c l p q 0)), .null] (zTw σ g w) [] := by
  have h9 := v.1
  have hM' : ∀ g w, repM D (zTw σ g w 57) := fun g w => by rw [zTw_n (by decide) (by decide)]; exact hM
  -- the colours of the way
  have k216 : ∀ m k, k + m = n → ∀ g w : Nat → Int32, (∀ j, j < n → ∀ e, zSq D c l p q j = some e → w j = nI e) → (∀ i, i < l → g i = nI (if q_any (fun j => decide (zSq D c l p q j = some i)) k then p + q - c i else c i)) →
      ∃ g1, (∀ i, i < l + 1 → g1 i = nI (zEu (zFl D c l p q) l p i)) ∧ ∀ R : sj_R, sj_J G 5 me_X12_colours R 7 [.ref (sj_ad G 56), .int M, .int (nI (l + 1)), .null, .null, .null, .null, .null, .null, .null, .null] (zTw σ g1 w) [] →
      sj_J G 5 me_X12_colours R 216 [.ref (sj_ad G 56), .int M, .int (nI l), .null, .null, .null, .int (nI p), .int (nI q), .int (nI n), .null, .int (nI k)] (zTw σ g w) [] := by
    intro m
    induction m with
    | zero =>
      intro k hk g w hw hg
      have : k = n := by omega
      subst this
      refine ⟨upd g l (nI p), fun i hi => ?_, fun R hR => ?_⟩
      · unfold upd zEu
        by_cases e : i = l
        · rw [if_pos e, if_pos e]
        · rw [if_neg e, if_neg e, hg i (by omega)]
          unfold zFl
          rw [zOn_n hn (by omega)]
      · refine t_X12_colours_216 ⟨fun _ => ⟨z_in (by omega) (by decide), ?_⟩, fun q => absurd (nI_le (by omega) (by omega)) q⟩
        unfold wp_X12_colours_267
        rw [nI_clamp (by omega), zTw_s64, nI_add]
        exact hR
    | succ m ih =>
      intro k hk g w hw hg
      obtain ⟨e, he⟩ := hs k (by omega)
      obtain ⟨hel, -, -, -⟩ := zSq_some he
      have hwk := hw k (by omega) e he
      have hnot : q_any (fun j => decide (zSq D c l p q j = some e)) k = false := by
        rw [← Bool.not_eq_true, q_any_iff]
        rintro ⟨j, hj, hj2⟩
        exact zSq_inj hpr hq hne j k e hj (decide_eq_true_eq.mp hj2) he
      have hge : g e = nI (c e) := by rw [hg e hel, hnot, if_neg (by decide)]
      have hpq := zSq_pq he
      obtain ⟨g1, f1, f2⟩ := ih (k + 1) (by omega) (upd g e (nI (p + q - c e))) w hw (fun i hi => by
        show upd g e (nI (p + q - c e)) i = nI (if (q_any (fun j => decide (zSq D c l p q j = some i)) k || decide (zSq D c l p q k = some i)) then p + q - c i else c i)
        rw [he]
        by_cases h : i = e
        · subst h
          rw [z_ue, decide_eq_true rfl, Bool.or_true, if_pos rfl]
        · have : decide (some e = some i) = false := decide_eq_false (fun q => h (Option.some.inj q).symm)
          rw [z_un h, this, Bool.or_false]
          exact hg i hi)
      refine ⟨g1, f1, fun R hR => ?_⟩
      refine t_X12_colours_216 ⟨fun q => absurd q (nI_ge (by omega) (by omega)), fun _ => ?_⟩
      rw [nI_clamp (by omega), zTw_65, hwk, nI_clamp (by omega), zTw_64, hge, zTw_s64, nI_add k 1, nI_add p q, pk_sub (by omega)]
      exact ⟨z_in (by omega) (by decide), z_in (by omega) (by decide), z_in (by omega) (by decide), z_in (by omega) (by decide), f2 R hR⟩
  -- the way itself
  have hf : ∀ w, ∀ i, i < l → (zTw σ g w) 64 i = nI (c i) ∧ c i < 32 := fun w i hi => ⟨by rw [zTw_64]; exact hg i hi, by have := hb9 i hi; omega⟩
  have k121 : ∀ m k, k + m = n → ∀ w : Nat → Int32, (∀ j, j < k → ∀ e, zSq D c l p q j = some e → w j = nI e) →
      ∃ g1 w1, (∀ i, i < l + 1 → g1 i = nI (zEu (zFl D c l p q) l p i)) ∧ ∀ R : sj_R, sj_J G 5 me_X12_colours R 7 [.ref (sj_ad G 56), .int M, .int (nI (l + 1)), .null, .null, .null, .null, .null, .null, .null, .null] (zTw σ g1 w1) [] →
      sj_J G 5 me_X12_colours R 121 [.ref (sj_ad G 56), .int M, .int (nI l), .null, .null, .null, .int (nI p), .int (nI q), .int (nI k), .int (zOp (zSq D c l p q k)), .null] (zTw σ g w) [] := by
    intro m
    induction m with
    | zero =>
      intro k hk w hw
      have : k = n := by omega
      subst this
      obtain ⟨g1, f1, f2⟩ := k216 k 0 (by omega) g w hw (fun i hi => hg i hi)
      refine ⟨g1, w, f1, fun R hR => ?_⟩
      rw [hn]
      exact t_X12_colours_121 ⟨fun _ => f2 R hR, fun q => absurd rfl q⟩
    | succ m ih =>
      intro k hk w hw
      obtain ⟨e, he⟩ := hs k (by omega)
      obtain ⟨hel, -, -, -⟩ := zSq_some he
      have hd0 := z_dP6 v (b := 0) (l := e) (by omega)
      have hd1 := z_dP6 v (b := 1) (l := e) (by omega)
      obtain ⟨g1, w1, f1, f2⟩ := ih (k + 1) (by omega) (upd w k (nI e)) (fun j hj e2 he2 => by
        by_cases h : j = k
        · subst h
          rw [he] at he2
          cases he2
          exact z_ue
        · rw [z_un h]
          exact hw j (by omega) e2 he2)
      refine ⟨g1, w1, f1, fun R hR => ?_⟩
      have h1 := f2 R hR
      rw [zSq_s he] at h1
      rw [he, show zOp (some e) = nI e from rfl]
      refine t_X12_colours_121 ⟨fun q => absurd q (z_nm1 (by omega)), fun _ => ⟨z_in (by omega) (by decide), ?_⟩⟩
      rw [nI_clamp (by omega), nI_add, pk_rem (by omega) (by decide) (by decide), zTw_s65]
      unfold wp_X12_colours_152 wp_X12_colours_166 wp_X12_colours_193 wp_X12_colours_205
      have e9 : (nI 9 + nI e).toNatClampNeg = 9 * 1 + e := by rw [nI_add, nI_clamp (by omega)]
      have e0 : (nI 0 + nI e).toNatClampNeg = 9 * 0 + e := by rw [nI_add, nI_clamp (by omega)]
      have g9 : vp_in (nI 9 + nI e) 128 := by rw [nI_add]; exact z_in (by omega) (by decide)
      have g0 : vp_in (nI 0 + nI e) 128 := by rw [nI_add]; exact z_in (by omega) (by decide)
      have m0 := z_mP (σ := zTw σ g (upd w k (nI e))) (hM' _ _) (b := 0) (l := e) (by omega) (by omega)
      have m1 := z_mP (σ := zTw σ g (upd w k (nI e))) (hM' _ _) (b := 1) (l := e) (by omega) (by omega)
      unfold zNw at h1
      by_cases hk2 : k % 2 = 0
      · have e1 : (k + 1) % 2 = 1 := by omega
        rw [if_pos hk2] at h1
        rw [e1, if_pos rfl, if_neg z_10, if_neg z_10, if_neg z_10, e0, m0]
        exact ⟨fun q => absurd q z_10, fun _ => g0, _, _, y_coloured (c := c) ok (hM' _ _) v (b := 0) (by omega) (by omega) (by omega : q < 100) (by omega) (hf _), h1⟩
      · have e1 : (k + 1) % 2 = 0 := by omega
        rw [if_neg hk2] at h1
        rw [e1, if_neg (by decide), if_pos z_00, if_pos z_00, if_pos z_00, e9, m1]
        exact ⟨fun _ => g9, fun q => absurd z_00 q, _, _, y_coloured (c := c) ok (hM' _ _) v (b := 1) (by omega) (by omega) (by omega : p < 100) (by omega) (hf _), h1⟩
  exact k121 n 0 (by omega) w (fun j hj => absurd hj (by omega))
theorem y_colours (ok : sj_ok G) (hM : repM D (σ 57)) (v : okD D) : ∃ g w, sj_C G 5 me_X12_colours [.ref (sj_ad G 56)] σ (.ok 0, zTw σ g w) ∧ ∀ i, i < dN D → g i = nI (zCo D (zMo D) (dN D) i) := by
  have h9 := v.1
  have hM9 := zMo_9 v
  have hM' : ∀ g w, repM D (zTw σ g w 57) := fun g w => by rw [zTw_n (by decide) (by decide)]; exact hM
  let Fin : (Nat → Int32) → (Nat → Int32) → Nat → (Nat → Int32) → (Nat → Int32) → Prop := fun g' w' l g w => sj_J G 5 me_X12_colours (.ok 0, zTw σ g' w') 7 [.ref (sj_ad G 56), .int (nI (zMo D)), .int (nI l), .null, .null, .null, .null, .null, .null, .null, .null] (zTw σ g w) []
  have step : ∀ k l, l + k = dN D → ∀ g w : Nat → Int32, (∀ i, i < l → g i = nI (zCo D (zMo D) l i)) → ∃ g' w', Fin g' w' l g w ∧ ∀ i, i < dN D → g' i = nI (zCo D (zMo D) (dN D) i) := by
    intro k
    induction k with
    | zero =>
      intro l hl g w hg
      have : l = dN D := by omega
      subst this
      refine ⟨g, w, ?_, hg⟩
      refine t_X12_colours_7 ⟨_, _, y_many ok, fun _ => rfl, fun q => ?_⟩
      rw [zTw_n (by decide) (by decide), hM.1] at q
      exact absurd (nI_le (by omega) (by omega)) q
    | succ k ih =>
      intro l hl g w hg
      obtain ⟨hp, hb⟩ := zCo_ok v l (by omega)
      generalize ec : zCo D (zMo D) l = c at hp hb hg
      have hd0 := z_dP6 v (b := 0) (l := l) (by omega)
      have hd1 := z_dP6 v (b := 1) (l := l) (by omega)
      have hf9 : ∀ (g w : Nat → Int32), (∀ i, i < l → g i = nI (c i)) → ∀ i, i < l → (zTw σ g w) 64 i = nI (c i) ∧ c i < 9 := fun g w hg i hi => ⟨by rw [zTw_64]; exact hg i hi, by have := hb i hi; omega⟩
      have hf32 : ∀ (g w : Nat → Int32), (∀ i, i < l → g i = nI (c i)) → ∀ i, i < l → (zTw σ g w) 64 i = nI (c i) ∧ c i < 32 := fun g w hg i hi => ⟨by rw [zTw_64]; exact hg i hi, by have := hb i hi; omega⟩
      have e9 : (nI 9 + nI l).toNatClampNeg = 9 * 1 + l := by rw [nI_add, nI_clamp (by omega)]
      have e0 : (nI 0 + nI l).toNatClampNeg = 9 * 0 + l := by rw [nI_add, nI_clamp (by omega)]
      have g9 : vp_in (nI 9 + nI l) 128 := by rw [nI_add]; exact z_in (by omega) (by decide)
      have g0 : vp_in (nI 0 + nI l) 128 := by rw [nI_add]; exact z_in (by omega) (by decide)
      have m0 := z_mP (σ := zTw σ g w) (hM' _ _) (b := 0) (l := l) (by omega) (by omega)
      have m1 := z_mP (σ := zTw σ g w) (hM' _ _) (b := 1) (l := l) (by omega) (by omega)
      -- what is to be shown from the loop of the least colour
      have small : ∀ g' w', (zCb D c l < zMo D → Fin g' w' (l + 1) (upd g l (nI (zCb D c l))) w) →
          (¬ zCb D c l < zMo D → sj_J G 5 me_X12_colours (.ok 0, zTw σ g' w') 121 [.ref (sj_ad G 56), .int (nI (zMo D)), .int (nI l), .null, .null, .null, .int (nI (zCp D c l)), .int (nI (zCq D c l)), .int (nI 0), .int (zOp (zSq D c l (zCp D c l) (zCq D c l) 0)), .null] (zTw σ (upd g l (nI (zCb D c l))) w) []) →
          Fin g' w' l g w := by
        intro g' w' hA hB
        have k38 : ∀ m i, i + m = 9 → zLs (zAb D c l) m i = zCb D c l → sj_J G 5 me_X12_colours (.ok 0, zTw σ g' w') 38 [.ref (sj_ad G 56), .int (nI (zMo D)), .int (nI l), .int (nI (dP D 1 l)), .int (nI (dP D 0 l)), .int (nI i), .null, .null, .null, .null, .null] (zTw σ g w) [] := by
          have fin : ∀ i, i ≤ 9 → zCb D c l = i → zAb D c l i = false → sj_J G 5 me_X12_colours (.ok 0, zTw σ g' w') 38 [.ref (sj_ad G 56), .int (nI (zMo D)), .int (nI l), .int (nI (dP D 1 l)), .int (nI (dP D 0 l)), .int (nI i), .null, .null, .null, .null, .null] (zTw σ g w) [] := by
            intro i hi he hz
            have hz' : (zA0 D c l i || zA1 D c l i) = false := hz
            rw [Bool.or_eq_false_iff] at hz'
            subst he
            have hg2 : ∀ i, i < l → upd g l (nI (zCb D c l)) i = nI (c i) := fun i hi => by rw [z_un (by omega)]; exact hg i hi
            refine t_X12_colours_38 ⟨_, _, y_coloured (c := c) ok (hM' _ _) v (b := 1) (by omega) (by omega) (by omega) (by omega) (hf32 g w hg), fun q => absurd ((zFc_t (by omega)).mpr hz'.2) q, fun _ => ⟨_, _, y_coloured (c := c) ok (hM' _ _) v (b := 0) (by omega) (by omega) (by omega) (by omega) (hf32 g w hg), fun _ => ⟨z_in (by omega) (by decide), fun q => ?_, fun q => ?_⟩, fun q => absurd ((zFc_t (by omega)).mpr hz'.1) q⟩⟩
            · rw [nI_clamp (by omega), zTw_s64]
              have hk : ¬ zCb D c l < zMo D := by
                intro r
                exact absurd q (nI_ge r (by omega))
              have e1 : zCp D c l ≤ 9 := by have := (zLs_spec (f := zA0 D c l) 9 0).2.1; unfold zCp; omega
              exact ⟨_, _, y_free (c := c) ok (hM' _ _) v (b := 0) (by omega) (by omega) (by omega) (hf9 _ w hg2), _, _, y_free (c := c) ok (hM' _ _) v (b := 1) (by omega) (by omega) (by omega) (hf9 _ w hg2), _, _, y_coloured (c := c) ok (hM' _ _) v (b := 1) (by omega) (by omega) (by unfold zCp at e1; exact Nat.lt_of_le_of_lt e1 (by omega)) (by omega) (hf32 _ w hg2), hB hk⟩
            · unfold wp_X12_colours_267
              rw [nI_clamp (by omega), zTw_s64, nI_add]
              refine hA ?_
              apply Classical.byContradiction
              intro r
              exact q (nI_le (by omega) (by omega))
          intro m
          induction m with
          | zero =>
            intro i hi he
            refine fin i (by omega) he.symm ?_
            show (zUd D c 0 (dG D l) l i || zUd D c 1 (dTe D l) l i) = false
            rw [Bool.or_eq_false_iff]
            have : ∀ b r, zUd D c b r l i = false := fun b r => by
              rw [← Bool.not_eq_true, zUd_iff]
              rintro ⟨o, h1, -, h2⟩
              have := hb o h1
              omega
            exact ⟨this 0 _, this 1 _⟩
          | succ m ihm =>
            intro i hi he
            rw [zLs_s] at he
            by_cases hz : zAb D c l i = true
            · rw [if_pos hz] at he
              have h1 := ihm (i + 1) (by omega) he
              have hz' : (zA0 D c l i || zA1 D c l i) = true := hz
              rw [Bool.or_eq_true] at hz'
              refine t_X12_colours_38 ⟨_, _, y_coloured (c := c) ok (hM' _ _) v (b := 1) (by omega) (by omega) (by omega) (by omega) (hf32 g w hg), fun q => ?_, fun q => ⟨_, _, y_coloured (c := c) ok (hM' _ _) v (b := 0) (by omega) (by omega) (by omega) (by omega) (hf32 g w hg), fun q2 => ?_, fun q2 => ?_⟩⟩
              · unfold wp_X12_colours_65
                rw [nI_add]
                exact h1
              · have r1 := (zFc_t (by omega)).mp q
                have r2 := (zFc_t (by omega)).mp q2
                have s1 : zA1 D c l i = false := r1
                have s0 : zA0 D c l i = false := r2
                rw [s1, s0] at hz'
                rcases hz' with h | h <;> cases h
              · unfold wp_X12_colours_65
                rw [nI_add]
                exact h1
            · rw [if_neg hz] at he
              exact fin i (by omega) he.symm (by simpa using hz)
        refine t_X12_colours_7 ⟨_, _, y_many ok, fun q => ?_, fun _ => ⟨g9, g0, ?_⟩⟩
        · rw [zTw_n (by decide) (by decide), hM.1] at q
          exact absurd q (nI_ge (by omega) (by omega))
        · rw [e9, e0, m0, m1]
          exact k38 9 0 (by decide) rfl
      by_cases hk : zCb D c l < zMo D
      · have hc' : zCo D (zMo D) (l + 1) = zEu c l (zCb D c l) := by
          rw [zCo_s, ec]
          unfold zStp
          rw [if_pos hk]
        obtain ⟨g', w', h1, h2⟩ := ih (l + 1) (by omega) (upd g l (nI (zCb D c l))) w (fun i hi => by
          rw [hc']
          unfold upd zEu
          by_cases e : i = l
          · rw [if_pos e, if_pos e]
          · rw [if_neg e, if_neg e]; exact hg i (by omega))
        exact ⟨g', w', small g' w' (fun _ => h1) (fun r => absurd hk r), h2⟩
      · obtain ⟨a0, a1, e1, e00, e2, hne⟩ := zKe_ok (c := c) (l := l) (by omega) hM9 (zMo_le (b := 0) v (by omega) (by omega)) (zMo_le (b := 1) v (by omega) (by omega)) hk
        obtain ⟨n, n1, n2, n3⟩ := zSq_end hp e1 hne
        have hc' : zCo D (zMo D) (l + 1) = zEu (zFl D c l (zCp D c l) (zCq D c l)) l (zCp D c l) := by
          rw [zCo_s, ec]
          unfold zStp
          rw [if_neg hk]
        -- the end of the way is told by the functions that the rest leaves: first the rest for any
        have hall : ∃ g1 w1, (∀ i, i < l + 1 → g1 i = nI (zEu (zFl D c l (zCp D c l) (zCq D c l)) l (zCp D c l) i)) ∧ ∀ R : sj_R, sj_J G 5 me_X12_colours R 7 [.ref (sj_ad G 56), .int (nI (zMo D)), .int (nI (l + 1)), .null, .null, .null, .null, .null, .null, .null, .null] (zTw σ g1 w1) [] → sj_J G 5 me_X12_colours R 121 [.ref (sj_ad G 56), .int (nI (zMo D)), .int (nI l), .null, .null, .null, .int (nI (zCp D c l)), .int (nI (zCq D c l)), .int (nI 0), .int (zOp (zSq D c l (zCp D c l) (zCq D c l) 0)), .null] (zTw σ (upd g l (nI (zCb D c l))) w) [] :=
          y_turn ok hM v (M := nI (zMo D)) (by omega) (by omega) (by omega) (fun i hi => by have := hb i hi; omega) hp e1 hne (by omega) n2 n3 (fun i hi => by rw [z_un (by omega)]; exact hg i hi)
        obtain ⟨g1, w1, f1, f2⟩ := hall
        obtain ⟨g', w', h1, h2⟩ := ih (l + 1) (by omega) g1 w1 (fun i hi => by rw [hc']; exact f1 i hi)
        exact ⟨g', w', small g' w' (fun r => absurd r hk) (fun _ => f2 _ h1), h2⟩
  obtain ⟨g', w', h1, h2⟩ := step (dN D) 0 (by omega) (σ 64) (σ 65) (fun i hi => absurd hi (by omega))
  have h1 : sj_J G 5 me_X12_colours (.ok 0, zTw σ g' w') 7 [.ref (sj_ad G 56), .int (nI (zMo D)), .int (nI 0), .null, .null, .null, .null, .null, .null, .null, .null] (zTw σ (σ 64) (σ 65)) [] := h1
  rw [zTw_id] at h1
  refine ⟨g', w', c_X12_colours ok ⟨_, _, y_mostOf ok hM v, h1⟩, h2⟩
end ZCM
section ZCP
variable {G : sj_G} {σ : sj_S}
theorem p_colour (ok : sj_ok G) (h : zA σ) (x : Int32) : zPair G (zI2 σ) 10 me_X11_colour 6 me_X12_colour [.int x] (zcd 3 0 0) σ := by
  obtain ⟨D, T, v, hC, hM, hT⟩ := h.1
  have h9 := v.1
  rcases z_rg x (dN D) with ⟨l, hl, rfl⟩ | hx
  · obtain ⟨g, hc, hg⟩ := z_paint (σ := σ) ok hC v
    have hM0 : repM D (sj_st (sj_up σ 40 g) 56 0 (nI 0) 57) := by rw [z_stn (by decide), z_upn (by decide)]; exact hM
    obtain ⟨g2, w2, hm, hg2⟩ := y_colours (σ := sj_st (sj_up σ 40 g) 56 0 (nI 0)) ok hM0 v
    have hcc : sj_C G 10 me_X11_colour [.ref (sj_ad G 0), .int (nI l)] σ (.ok (nI (zCo D (zMo D) (dN D) l)), sj_up σ 40 g) := by
      refine c_X11_colour ok (Or.inl ⟨_, z_requireLesson0 ok hC v hl, _, hc, z_in (by omega) (by decide), ?_⟩)
      rw [nI_clamp (by omega), sj_up_s, hg l hl]
    have hmm : sj_C G 6 me_X12_colour [.ref (sj_ad G 56), .int (nI l)] (sj_up σ 40 g) (.ok (nI (zCo D (zMo D) (dN D) l)), zTw (sj_st (sj_up σ 40 g) 56 0 (nI 0)) g2 w2) := by
      refine c_X12_colour ok ⟨_, _, y_noLesson0 ok hM0 v zT00 hl, fun _ => ⟨_, hm, z_in (by omega) (by decide), ?_⟩, fun q => absurd nI_0 q⟩
      rw [nI_clamp (by omega), zTw_64, hg2 l hl]
    refine ⟨_, _, _, _, hcc, hmm, zSame_ok ?_ rfl, zI2_fr (c := nI 0) h (fun b hb => ?_)⟩
    · rw [zTw_n (by decide) (by decide), z_ste]
    · have hne : ∀ b, b ∈ zKP → b ≠ 64 ∧ b ≠ 65 ∧ b ≠ 40 := by decide
      obtain ⟨n1, n2, n3⟩ := hne b hb
      rw [zTw_n n1 n2]
      by_cases e : b = 56
      · subst e
        rw [z_sta, z_sta, z_upn n3]
      · rw [z_stn e, z_stn e, z_upn n3]
  · have hM0 : repM D ((sj_st σ 56 0 (nI 0)) 57) := by rw [z_stn (by decide)]; exact hM
    have hm : sj_C G 6 me_X12_colour [.ref (sj_ad G 56), .int x] σ (.ok (nI 0), (sj_st (sj_st σ 56 0 (nI 0)) 56 0 (nI 1))) :=
      c_X12_colour ok ⟨_, _, y_noLesson1 ok hM0 v zT00 hx (by decide), fun q => absurd q z_10, fun _ => rfl⟩
    exact ⟨_, _, _, _, c_X11_colour ok (Or.inr ⟨_, _, z_requireLesson1 ok hC v hx, rfl⟩), hm, zSame_er (by decide) z_ste, zI2_th2 h⟩
end ZCP
