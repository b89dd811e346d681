/-! COVER 3: the reference -/
theorem z_nltm {x : Nat} (h : x < 2 ^ 31) : ¬ nI x < -1 := by
  rw [Int32.lt_iff_toInt_lt, nI_toInt h, show (-1 : Int32).toInt = -1 by decide]
  omega
theorem z_ltm1 {x : Nat} (h : x < 2 ^ 31) : (-1 : Int32) < nI x := by
  rw [Int32.lt_iff_toInt_lt, nI_toInt h, show (-1 : Int32).toInt = -1 by decide]
  omega
def zSe (C : Nat → Nat → Bool) (w : Nat → Nat) : Nat → Nat → Nat → Option Nat
  | 0, _, a => some a
  | n + 1, k, a => if w k < 6 then (if C k (w k) = true ∧ q_any (fun j => decide (w j = w k)) k = false then zSe C w n (k + 1) (a + 1) else none) else zSe C w n (k + 1) a
theorem zSe_s {C : Nat → Nat → Bool} {w : Nat → Nat} {n k a : Nat} : zSe C w (n + 1) k a = if w k < 6 then (if C k (w k) = true ∧ q_any (fun j => decide (w j = w k)) k = false then zSe C w n (k + 1) (a + 1) else none) else zSe C w n (k + 1) a := rfl
theorem zSe_iff {C : Nat → Nat → Bool} {w : Nat → Nat} : ∀ n k r, zVal C w k → (zSe C w n k (zCt w k) = some r ↔ zVal C w (k + n) ∧ zCt w (k + n) = r) := by
  intro n
  induction n with
  | zero =>
    intro k r hv
    exact ⟨fun h => ⟨hv, Option.some.inj h⟩, fun h => congrArg some h.2⟩
  | succ n ih =>
    intro k r hv
    rw [zSe_s]
    have ek : k + (n + 1) = (k + 1) + n := by omega
    rw [ek]
    by_cases h6 : w k < 6
    · rw [if_pos h6]
      have ec : zCt w k + 1 = zCt w (k + 1) := by rw [zCt_s, if_pos h6]
      by_cases hg : C k (w k) = true ∧ q_any (fun j => decide (w j = w k)) k = false
      · rw [if_pos hg, ec]
        refine ih (k + 1) r (fun i hi h => ?_)
        by_cases e : i = k
        · subst e
          refine ⟨hg.1, fun j hj q => ?_⟩
          have := q_any_f.mp hg.2 j hj
          rw [decide_eq_true q] at this
          cases this
        · exact hv i (by omega) h
      · rw [if_neg hg]
        constructor
        · intro h; cases h
        · rintro ⟨h, -⟩
          exfalso
          obtain ⟨h1, h2⟩ := h k (by omega) h6
          exact hg ⟨h1, q_any_f.mpr (fun j hj => decide_eq_false (h2 j hj))⟩
    · rw [if_neg h6]
      have ec : zCt w k = zCt w (k + 1) := by rw [zCt_s, if_neg h6]; rfl
      rw [ec]
      refine ih (k + 1) r (fun i hi h => ?_)
      by_cases e : i = k
      · subst e; exact absurd h h6
      · exact hv i (by omega) h
theorem zSe_i {C : Nat → Nat → Bool} {w : Nat → Nat} {m r : Nat} : zSe C w m 0 0 = some r ↔ zVal C w m ∧ zCt w m = r := by
  have h := zSe_iff (C := C) (w := w) m 0 r (fun i hi => absurd hi (by omega))
  rw [Nat.zero_add] at h
  exact h
theorem zCt_le {w : Nat → Nat} {k : Nat} : zCt w k ≤ k := q_cnt_le _ _
section ZVM
variable {G : sj_G} {σ : sj_S} {D : zD} {T : Nat → Nat}
theorem y_illB (ok : sj_ok G) (hM : repM D (σ 57)) {t d : Nat} (ht : t < 6) (hd : d < 32) : sj_C G 2 me_X12_isIll [.ref (sj_ad G 56), .int (nI t), .int (nI d)] σ (.ok (if (dIll D t).testBit d then nI 1 else nI 0), σ) := by
  refine c_X12_isIll ok ?_
  unfold wp_X12_isIll_0 wp_X12_isIll_22
  simp only [nI_add]
  refine ⟨z_in (by omega) (by decide), ?_, ?_⟩
  · rw [nI_clamp (by omega), (hM.2.2.2.2.2.1 t ht).2, z_bitv hd, z_bn _ _ hd]
    cases (dIll D t).testBit d
    · rw [if_neg (by decide), if_neg (by decide)]
    · rw [if_pos rfl, if_pos rfl]
  · split <;> simp
theorem y_canTake (ok : sj_ok G) (hM : repM D (σ 57)) (v : okD D) (hT : ∀ l, l < dN D → σ 59 l = nI (T l) ∧ T l < 40) {t l s : Nat} (ht : t < 6) (hl : l < dN D) (hs : s < 20) : sj_C G 5 me_X12_canTake [.ref (sj_ad G 56), .int (nI t), .int (nI l), .int (nI s)] σ (.ok (if zCap D T s l t then nI 1 else nI 0), σ) := by
  have h9 := v.1
  obtain ⟨-, -, m3, -⟩ := hM.2.2.2.1 l hl
  obtain ⟨-, -, g3, -⟩ := v.2.2.2.1 l hl
  refine c_X12_canTake ok ?_
  unfold wp_X12_canTake_0 wp_X12_canTake_51 wp_X12_canTake_52
  have hdiv : nI s / nI 4 = nI (s / 4) := pk_div (by omega) (by decide) (by decide)
  simp only [nI_add, hdiv]
  rw [nI_clamp (by omega), nI_clamp (by omega), (hM.2.2.2.2.2.1 t ht).1, m3, z_bitv (by omega), z_bn _ _ (by omega)]
  refine ⟨z_in (by omega) (by decide), z_in (by omega) (by decide), fun q => ?_, fun q => ⟨_, _, y_illB ok hM ht (by omega), fun q2 => ?_, fun q2 => ⟨_, _, y_lessonThen ok hM v hT (b := 1) (by omega) (by omega) (by omega), ?_, ?_⟩⟩⟩
  · have : (dTch D t).testBit (dSu D l) = false := by
      cases h : (dTch D t).testBit (dSu D l)
      · rfl
      · rw [h, if_pos rfl] at q; exact absurd rfl q
    unfold zCap
    rw [this]
    exact ⟨rfl, Or.inl (by trivial)⟩
  · have : (dIll D t).testBit (s / 4) = true := by
      cases h : (dIll D t).testBit (s / 4)
      · rw [h, if_neg (by decide)] at q2; exact absurd z_00 q2
      · rfl
    unfold zCap zFit
    rw [this, Bool.not_true, Bool.and_false, Bool.and_false]
    exact ⟨rfl, Or.inl (by trivial)⟩
  · have h1 : (dTch D t).testBit (dSu D l) = true := by
      cases h : (dTch D t).testBit (dSu D l)
      · rw [h, if_neg (by decide)] at q; exact absurd q (by decide)
      · rfl
    have h2 : (dIll D t).testBit (s / 4) = false := by
      cases h : (dIll D t).testBit (s / 4)
      · rfl
      · rw [h, if_pos rfl] at q2; exact absurd q2 z_10
    unfold zCap zFit
    rw [h1, h2, Bool.true_and, Bool.not_false, Bool.and_true]
    simp only [zOp_m1 (D := D) (T := T) (b := 1) (p := t) (s := s) (n := dN D) (by omega)]
    cases zAny D 1 t T s (dN D)
    · rw [if_pos rfl]; rfl
    · rw [if_neg (by decide)]; rfl
  · split <;> simp
theorem y_serves (ok : sj_ok G) (hM : repM D (σ 57)) (v : okD D) (hT : ∀ l, l < dN D → σ 59 l = nI (T l) ∧ T l < 40) {s m : Nat} (hs : s < 20) (hm9 : m ≤ 9) {w nd : Nat → Nat} {C : Nat → Nat → Bool} (hmm : σ 56 15 = nI m) (hw : ∀ k, k < m → σ 67 k = nI (w k) ∧ w k ≤ 6) (hn : ∀ k, k < m → σ 66 k = nI (nd k) ∧ nd k < dN D) (hC : ∀ k, k < m → ∀ t, C k t = zCap D T s (nd k) t) :
    sj_C G 6 me_X12_serves [.ref (sj_ad G 56), .int (nI s)] σ (.ok (zOp (zSe C w m 0 0)), σ) := by
  have h9 := v.1
  refine c_X12_serves ok ?_
  unfold wp_X12_serves_0
  have key : ∀ n k a, k + n = m → a ≤ k → sj_J G 6 me_X12_serves (.ok (zOp (zSe C w n k a)), σ) 4 [.ref (sj_ad G 56), .int (nI s), .int (nI a), .int (nI k), .null] σ [] := by
    intro n
    induction n with
    | zero =>
      intro k a hk ha
      refine t_X12_serves_4 ⟨fun _ => rfl, fun q => ?_⟩
      rw [hmm] at q
      exact absurd (nI_le (by omega) (by omega)) q
    | succ n ih =>
      intro k a hk ha
      obtain ⟨w1, w2⟩ := hw k (by omega)
      obtain ⟨n1, n2⟩ := hn k (by omega)
      have i9 : vp_in (nI k) 9 := z_in (by omega) (by decide)
      refine t_X12_serves_4 ⟨fun q => ?_, fun _ => ⟨i9, ?_⟩⟩
      · rw [hmm] at q
        exact absurd q (nI_ge (by omega) (by omega))
      · rw [nI_clamp (by omega), w1, n1]
        refine ⟨fun q => ?_, fun q => ?_⟩
        · have h6 : w k < 6 := by
            apply Classical.byContradiction
            intro r
            have : w k = 6 := by omega
            rw [this] at q
            exact q rfl
          refine ⟨i9, i9, _, _, y_canTake ok hM v hT h6 n2 hs, fun q2 => ?_, fun q2 => ?_⟩
          · have hc : C k (w k) = true := by
              rw [hC k (by omega)]
              cases h : zCap D T s (nd k) (w k)
              · rw [h, if_neg (by decide)] at q2; exact absurd z_00 q2
              · rfl
            have inner : ∀ i j, j + i = k → q_any (fun j => decide (w j = w k)) j = false → sj_J G 6 me_X12_serves (.ok (zOp (zSe C w (n + 1) k a)), σ) 51 [.ref (sj_ad G 56), .int (nI s), .int (nI a), .int (nI k), .int (nI j)] σ [] := by
              intro i
              induction i with
              | zero =>
                intro j hj hf
                obtain rfl : j = k := by omega
                refine t_X12_serves_51 ⟨fun _ => ?_, fun q => absurd (nI_le (by omega) (by omega)) q⟩
                unfold wp_X12_serves_84
                rw [zSe_s, if_pos h6, if_pos ⟨hc, hf⟩, nI_add, nI_add]
                exact ih (j + 1) (a + 1) (by omega) (by omega)
              | succ i ihi =>
                intro j hj hf
                obtain ⟨x1, x2⟩ := hw j (by omega)
                refine t_X12_serves_51 ⟨fun q => absurd q (nI_ge (by omega) (by omega)), fun _ => ⟨z_in (by omega) (by decide), i9, fun q => ?_, fun q => ?_⟩⟩
                · rw [nI_clamp (by omega), nI_clamp (by omega), x1, w1, nI_eq (by omega) (by omega)] at q
                  rw [nI_add]
                  refine ihi (j + 1) (by omega) ?_
                  show (q_any (fun j => decide (w j = w k)) j || decide (w j = w k)) = false
                  rw [hf, decide_eq_false q]
                  rfl
                · rw [nI_clamp (by omega), nI_clamp (by omega), x1, w1, nI_eq (by omega) (by omega)] at q
                  have : ¬ (C k (w k) = true ∧ q_any (fun j => decide (w j = w k)) k = false) := by
                    rintro ⟨-, r⟩
                    have := q_any_f.mp r j (by omega)
                    rw [decide_eq_true q] at this
                    cases this
                  rw [zSe_s, if_pos h6, if_neg this]
                  rfl
            exact inner k 0 (by omega) rfl
          · have hc : ¬ C k (w k) = true := by
              rw [hC k (by omega)]
              intro h
              rw [h, if_pos rfl] at q2
              exact absurd q2 z_10
            rw [zSe_s, if_pos h6, if_neg (fun r => hc r.1)]
            rfl
        · rw [nI_eq (by omega) (by decide)] at q
          unfold wp_X12_serves_84
          rw [zSe_s, if_neg (by omega), nI_add]
          exact ih (k + 1) a (by omega) (by omega)
  exact key m 0 0 (by omega) (by omega)
/-- the scan of the plans so far -/
def zPS (C : Nat → Nat → Bool) (m n : Nat) (ρ : sj_S) : Prop := (ρ 56 16 = -1 ∧ ∀ i, i < n → ¬ zVal C (zDg m i) m) ∨
  ∃ b, b < n ∧ zVal C (zDg m b) m ∧ ρ 56 16 = nI (zCt (zDg m b) m) ∧ (∀ k, k < m → ρ 68 k = nI (zDg m b k)) ∧ (∀ i, i < n → zVal C (zDg m i) m → zCt (zDg m i) m ≤ zCt (zDg m b) m) ∧ ∀ i, i < b → zVal C (zDg m i) m → zCt (zDg m i) m < zCt (zDg m b) m
/-- what plans leaves alone -/
def zPF (σ ρ : sj_S) : Prop := (∀ b, b ≠ 56 → b ≠ 66 → b ≠ 67 → b ≠ 68 → ρ b = σ b) ∧ ∀ k, k ≠ 15 → k ≠ 16 → ρ 56 k = σ 56 k
theorem zPF_st {ρ : sj_S} (h : zPF σ ρ) {a i : Nat} {x : Int32} (ha : a = 66 ∨ a = 67 ∨ a = 68) : zPF σ (sj_st ρ a i x) :=
  ⟨fun b h1 h2 h3 h4 => by rw [z_stn (by omega)]; exact h.1 b h1 h2 h3 h4, fun k h1 h2 => by rw [z_stn (by omega)]; exact h.2 k h1 h2⟩
theorem zPF_56 {ρ : sj_S} (h : zPF σ ρ) {i : Nat} {x : Int32} (hi : i = 15 ∨ i = 16) : zPF σ (sj_st ρ 56 i x) :=
  ⟨fun b h1 h2 h3 h4 => by rw [z_stn h1]; exact h.1 b h1 h2 h3 h4, fun k h1 h2 => by rw [z_sti (by omega)]; exact h.2 k h1 h2⟩
def zPE (D : zD) (T : Nat → Nat) (s : Nat) (ρ : sj_S) : Prop := ρ 56 15 = nI (zNm9 D T s) ∧ ρ 56 16 = nI (zMx (zCC D T s) (zNm9 D T s) 0 (fun _ => true)) ∧ ∀ k, k < zNm9 D T s → ρ 66 k = nI (zNd (zNe D T s) k) ∧ ρ 68 k = nI (zGg (zCC D T s) (zNm9 D T s) k)
theorem y_plans (ok : sj_ok G) (hM : repM D (σ 57)) (v : okD D) (hT : ∀ l, l < dN D → σ 59 l = nI (T l) ∧ T l < 40) {s : Nat} (hs : s < 20) : ∃ ρ, sj_C G 7 me_X12_plans [.ref (sj_ad G 56), .int (nI s)] σ (.ok 0, ρ) ∧ zPF σ ρ ∧ zPE D T s ρ := by
  have h9 := v.1
  have hdiv : nI s / nI 4 = nI (s / 4) := pk_div (by omega) (by decide) (by decide)
  unfold zPE
  have hmd : zNm9 D T s = q_cnt (zNe D T s) 9 := rfl
  have hmN : q_cnt (zNe D T s) 9 = q_cnt (zNe D T s) (dN D) := by
    have key : ∀ k, dN D + k ≤ 9 → q_cnt (zNe D T s) (dN D + k) = q_cnt (zNe D T s) (dN D) := by
      intro k
      induction k with
      | zero => intro _; rfl
      | succ k ih =>
        intro hk
        have : zNe D T s (dN D + k) = false := by
          unfold zNe
          rw [decide_eq_false (by omega)]
          rfl
        show q_cnt (zNe D T s) (dN D + k) + (if zNe D T s (dN D + k) then 1 else 0) = _
        rw [this, ih (by omega)]
        rfl
    have := key (9 - dN D) (by omega)
    rw [show dN D + (9 - dN D) = 9 by omega] at this
    exact this
  have hnd : ∀ k, k < zNm9 D T s → zNd (zNe D T s) k < dN D ∧ zNe D T s (zNd (zNe D T s) k) = true ∧ q_cnt (zNe D T s) (zNd (zNe D T s) k) = k := by
    intro k hk
    obtain ⟨i, h1, h2, h3⟩ := q_cnt_find 9 hk
    have := zNd_eq h1 h2
    rw [h3] at this
    rw [this]
    refine ⟨?_, h2, h3⟩
    unfold zNe at h2
    rw [Bool.and_eq_true, decide_eq_true_eq] at h2
    exact h2.1
  generalize em : zNm9 D T s = m at hmd hnd
  generalize eC : zCC D T s = C
  generalize eN : zNe D T s = N at hmd hmN hnd
  have hm9 : m ≤ 9 := by rw [hmd]; exact q_cnt_le N 9
  have hCC : ∀ k t, C k t = zCap D T s (zNd N k) t := fun k t => by rw [← eC, ← eN]; rfl
  have h7 : 7 ^ m ≤ 7 ^ 9 := Nat.pow_le_pow_right (by omega) hm9
  have h79 : (7 : Nat) ^ 9 = 40353607 := by decide
  -- the scan
  have k102 : ∀ k n (ρ : sj_S), n + k = 7 ^ m → zPF σ ρ → ρ 56 15 = nI m → (∀ i, i < m → ρ 66 i = nI (zNd N i)) → zPS C m n ρ →
      ∃ ρ', sj_J G 7 me_X12_plans (.ok 0, ρ') 102 [.ref (sj_ad G 56), .int (nI s), .int (nI (7 ^ m)), .int (nI n), .null, .null, .null] ρ [] ∧ zPF σ ρ' ∧ ρ' 56 15 = nI m ∧ (∀ i, i < m → ρ' 66 i = nI (zNd N i)) ∧ zPS C m (7 ^ m) ρ' := by
    intro k
    induction k with
    | zero =>
      intro n ρ hn hf h15 h66 hps
      obtain rfl : n = 7 ^ m := by omega
      exact ⟨ρ, t_X12_plans_102 ⟨fun _ => rfl, fun q => absurd (nI_le (by omega) (by omega)) q⟩, hf, h15, h66, hps⟩
    | succ k ih =>
      intro n ρ hn hf h15 h66 hps
      -- the digits
      have k118 : ∀ i (ρ : sj_S), i ≤ m → zPF σ ρ → ρ 56 15 = nI m → (∀ i, i < m → ρ 66 i = nI (zNd N i)) → zPS C m n ρ → (∀ j, i ≤ j → j < m → ρ 67 j = nI (zDg m n j)) →
          ∃ ρ', (∀ R : sj_R, sj_J G 7 me_X12_plans R 118 [.ref (sj_ad G 56), .int (nI s), .int (nI (7 ^ m)), .int (nI n), .int (nI n / nI 1 - nI n / nI 1 + nI (n / 7 ^ 0)), .int (zk 0), .null] ρ' [] → True) ∧ zPF σ ρ' ∧ ρ' 56 15 = nI m ∧ (∀ i, i < m → ρ' 66 i = nI (zNd N i)) ∧ zPS C m n ρ' ∧ (∀ j, j < m → ρ' 67 j = nI (zDg m n j)) ∧
            ∀ R : sj_R, sj_J G 7 me_X12_plans R 118 [.ref (sj_ad G 56), .int (nI s), .int (nI (7 ^ m)), .int (nI n), .int (nI (n / 7 ^ m)), .int (zk 0), .null] ρ' [] → sj_J G 7 me_X12_plans R 118 [.ref (sj_ad G 56), .int (nI s), .int (nI (7 ^ m)), .int (nI n), .int (nI (n / 7 ^ (m - i))), .int (zk i), .null] ρ [] := by
        intro i
        induction i with
        | zero =>
          intro ρ _ hf h15 h66 hps hd
          exact ⟨ρ, fun _ _ => trivial, hf, h15, h66, hps, fun j hj => hd j (Nat.zero_le j) hj, fun R hR => hR⟩
        | succ i ihi =>
          intro ρ hi hf h15 h66 hps hd
          have hz : zk (i + 1) = nI i := by unfold zk; rw [if_neg (by omega), Nat.add_sub_cancel]
          have hdg : nI (n / 7 ^ (m - (i + 1))) - nI (n / 7 ^ (m - (i + 1))) / nI 7 * nI 7 = nI (zDg m n i) := by
            have : n / 7 ^ (m - (i + 1)) ≤ n := Nat.div_le_self _ _
            rw [pk_rem (by omega) (by decide) (by decide)]
            rfl
          have hdv : nI (n / 7 ^ (m - (i + 1))) / nI 7 = nI (n / 7 ^ (m - i)) := by
            have : n / 7 ^ (m - (i + 1)) ≤ n := Nat.div_le_self _ _
            rw [pk_div (by omega) (by decide) (by decide), Nat.div_div_eq_div_mul, ← Nat.pow_succ, show (m - (i + 1)).succ = m - i by omega]
          obtain ⟨ρ', -, g1, g2, g3, g4, g5, g6⟩ := ihi (sj_st ρ 67 i (nI (zDg m n i))) (by omega) (zPF_st hf (Or.inr (Or.inl rfl))) (by rw [z_stn (by decide)]; exact h15) (fun j hj => by rw [z_stn (by decide)]; exact h66 j hj)
            (by unfold zPS; rw [z_stn (by decide), z_stn (by decide)]; exact hps) (fun j h1 h2 => by
              by_cases e : j = i
              · subst e; exact z_ste
              · rw [z_sti e]; exact hd j (by omega) h2)
          refine ⟨ρ', fun _ _ => trivial, g1, g2, g3, g4, g5, fun R hR => ?_⟩
          have h1 := g6 R hR
          refine t_X12_plans_118 ⟨fun q => ?_, fun _ => ?_⟩
          · rw [hz] at q
            exact absurd q (nI_pos (by omega))
          · rw [hz, nI_clamp (by omega), hdg, hdv, z_m1k]
            exact ⟨z_in (by omega) (by decide), h1⟩
      obtain ⟨ρ1, -, g1, g2, g3, g4, g5, g6⟩ := k118 m ρ (Nat.le_refl m) hf h15 h66 hps (fun j h1 h2 => absurd h2 (by omega))
      rw [Nat.sub_self, Nat.pow_zero, Nat.div_one] at g6
      have hsv := y_serves (σ := ρ1) (D := D) (T := T) (C := C) (w := zDg m n) (nd := zNd N) ok (by rw [g1.1 57 (by decide) (by decide) (by decide) (by decide)]; exact hM) v (fun l hl => by rw [g1.1 59 (by decide) (by decide) (by decide) (by decide)]; exact hT l hl) hs hm9 g2 (fun j hj => ⟨g5 j hj, zDg_6⟩) (fun j hj => ⟨g3 j hj, (hnd j hj).1⟩) (fun j _ t => hCC j t)
      have hzk : zk m = nI m - nI 1 := by
        unfold zk
        by_cases q : m = 0
        · rw [if_pos q, q]
          decide
        · rw [if_neg q, pk_sub (by omega)]
      -- what remains, from the state behind serves
      have hgo : ∃ ρ2, (∀ R : sj_R, sj_J G 7 me_X12_plans R 102 [.ref (sj_ad G 56), .int (nI s), .int (nI (7 ^ m)), .int (nI (n + 1)), .null, .null, .null] ρ2 [] → sj_J G 7 me_X12_plans R 118 [.ref (sj_ad G 56), .int (nI s), .int (nI (7 ^ m)), .int (nI n), .int (nI (n / 7 ^ m)), .int (zk 0), .null] ρ1 []) ∧ zPF σ ρ2 ∧ ρ2 56 15 = nI m ∧ (∀ i, i < m → ρ2 66 i = nI (zNd N i)) ∧ zPS C m (n + 1) ρ2 := by
        have hneg : (zk 0 : Int32) < 0 := by decide
        by_cases hv : zVal C (zDg m n) m
        · have hsome : zSe C (zDg m n) m 0 0 = some (zCt (zDg m n) m) := zSe_i.mpr ⟨hv, rfl⟩
          rw [hsome] at hsv
          have hct : zCt (zDg m n) m ≤ m := zCt_le
          by_cases hbest : ρ1 56 16 < nI (zCt (zDg m n) m)
          · -- it is kept
            have k176 : ∀ i j (ρ : sj_S), j + i = m → zPF σ ρ → ρ 56 15 = nI m → ρ 56 16 = nI (zCt (zDg m n) m) → (∀ i, i < m → ρ 66 i = nI (zNd N i)) → (∀ j, j < m → ρ 67 j = nI (zDg m n j)) → (∀ k, k < j → ρ 68 k = nI (zDg m n k)) →
                ∃ ρ', (∀ R : sj_R, sj_J G 7 me_X12_plans R 102 [.ref (sj_ad G 56), .int (nI s), .int (nI (7 ^ m)), .int (nI (n + 1)), .null, .null, .null] ρ' [] → sj_J G 7 me_X12_plans R 176 [.ref (sj_ad G 56), .int (nI s), .int (nI (7 ^ m)), .int (nI n), .null, .null, .int (nI j)] ρ []) ∧ zPF σ ρ' ∧ ρ' 56 15 = nI m ∧ ρ' 56 16 = nI (zCt (zDg m n) m) ∧ (∀ i, i < m → ρ' 66 i = nI (zNd N i)) ∧ ∀ k, k < m → ρ' 68 k = nI (zDg m n k) := by
              intro i
              induction i with
              | zero =>
                intro j ρ hj f1 f2 f3 f4 f5 f6
                obtain rfl : j = m := by omega
                refine ⟨ρ, fun R hR => t_X12_plans_176 ⟨fun _ => ?_, fun q => ?_⟩, f1, f2, f3, f4, f6⟩
                · unfold wp_X12_plans_205
                  rw [nI_add]
                  exact hR
                · rw [f2] at q
                  exact absurd (nI_le (by omega) (by omega)) q
              | succ i ihi =>
                intro j ρ hj f1 f2 f3 f4 f5 f6
                obtain ⟨ρ', r1, r2⟩ := ihi (j + 1) (sj_st ρ 68 j (nI (zDg m n j))) (by omega) (zPF_st f1 (Or.inr (Or.inr rfl))) (by rw [z_stn (by decide)]; exact f2) (by rw [z_stn (by decide)]; exact f3) (fun k hk => by rw [z_stn (by decide)]; exact f4 k hk) (fun k hk => by rw [z_stn (by decide)]; exact f5 k hk) (fun k hk => by
                  by_cases e : k = j
                  · subst e; exact z_ste
                  · rw [z_sti e]; exact f6 k (by omega))
                refine ⟨ρ', fun R hR => t_X12_plans_176 ⟨fun q => ?_, fun _ => ⟨z_in (by omega) (by decide), z_in (by omega) (by decide), ?_⟩⟩, r2⟩
                · rw [f2] at q
                  exact absurd q (nI_ge (by omega) (by omega))
                · rw [nI_clamp (by omega), f5 j (by omega), nI_add]
                  exact r1 R hR
            obtain ⟨ρ2, r1, r2, r3, r4, r5, r6⟩ := k176 m 0 (sj_st ρ1 56 16 (nI (zCt (zDg m n) m))) (by omega) (zPF_56 g1 (Or.inr rfl)) (by rw [z_sti (by decide)]; exact g2) z_ste (fun k hk => by rw [z_stn (by decide)]; exact g3 k hk) (fun k hk => by rw [z_stn (by decide)]; exact g5 k hk) (fun k hk => absurd hk (by omega))
            refine ⟨ρ2, fun R hR => t_X12_plans_118 ⟨fun _ => ⟨_, _, hsv, fun _ => r1 R hR, fun q => absurd hbest q⟩, fun q => absurd hneg q⟩, r2, r3, r5, ?_⟩
            right
            refine ⟨n, by omega, hv, r4, r6, fun i hi hvi => ?_, fun i hi hvi => ?_⟩
            · by_cases e : i = n
              · subst e; exact Nat.le_refl _
              · rcases g4 with ⟨p1, p2⟩ | ⟨b, p1, p2, p3, p4, p5, p6⟩
                · exact absurd hvi (p2 i (by omega))
                · have := p5 i (by omega) hvi
                  rw [p3, nI_ltI (by have := zCt_le (w := zDg m b) (k := m); omega) (by omega)] at hbest
                  omega
            · rcases g4 with ⟨p1, p2⟩ | ⟨b, p1, p2, p3, p4, p5, p6⟩
              · exact absurd hvi (p2 i (by omega))
              · have := p5 i (by omega) hvi
                rw [p3, nI_ltI (by have := zCt_le (w := zDg m b) (k := m); omega) (by omega)] at hbest
                omega
          · refine ⟨ρ1, fun R hR => t_X12_plans_118 ⟨fun _ => ⟨_, _, hsv, fun q => absurd q hbest, fun _ => ?_⟩, fun q => absurd hneg q⟩, g1, g2, g3, ?_⟩
            · unfold wp_X12_plans_205
              rw [nI_add]
              exact hR
            · rcases g4 with ⟨p1, p2⟩ | ⟨b, p1, p2, p3, p4, p5, p6⟩
              · rw [p1] at hbest
                exact absurd (z_ltm1 (by omega)) hbest
              · right
                refine ⟨b, by omega, p2, p3, p4, fun i hi hvi => ?_, p6⟩
                by_cases e : i = n
                · subst e
                  rw [p3, nI_ltI (by have := zCt_le (w := zDg m b) (k := m); omega) (by omega)] at hbest
                  omega
                · exact p5 i (by omega) hvi
        · have hnone : zSe C (zDg m n) m 0 0 = none := by
            cases h : zSe C (zDg m n) m 0 0 with
            | none => rfl
            | some r => exact absurd (zSe_i.mp h).1 hv
          rw [hnone] at hsv
          have hno : ¬ ρ1 56 16 < -1 := by
            rcases g4 with ⟨p1, p2⟩ | ⟨b, p1, p2, p3, p4, p5, p6⟩
            · rw [p1]; decide
            · rw [p3]; exact z_nltm (by have := zCt_le (w := zDg m b) (k := m); omega)
          refine ⟨ρ1, fun R hR => t_X12_plans_118 ⟨fun _ => ⟨_, _, hsv, fun q => absurd q hno, fun _ => ?_⟩, fun q => absurd hneg q⟩, g1, g2, g3, ?_⟩
          · unfold wp_X12_plans_205
            rw [nI_add]
            exact hR
          · rcases g4 with ⟨p1, p2⟩ | ⟨b, p1, p2, p3, p4, p5, p6⟩
            · left
              refine ⟨p1, fun i hi => ?_⟩
              by_cases e : i = n
              · subst e; exact hv
              · exact p2 i (by omega)
            · right
              refine ⟨b, by omega, p2, p3, p4, fun i hi hvi => ?_, p6⟩
              by_cases e : i = n
              · subst e; exact absurd hvi hv
              · exact p5 i (by omega) hvi
      obtain ⟨ρ2, r1, r2, r3, r4, r5⟩ := hgo
      obtain ⟨ρ', s1, s2⟩ := ih (n + 1) ρ2 (by omega) r2 r3 r4 r5
      refine ⟨ρ', t_X12_plans_102 ⟨fun q => absurd q (nI_ge (by omega) (by omega)), fun _ => ?_⟩, s2⟩
      rw [h15, ← hzk]
      exact g6 _ (r1 _ s1)
  -- how many plans
  have k81 : ∀ k j (ρ : sj_S), j + k = m → ρ 56 15 = nI m → ∀ R : sj_R, sj_J G 7 me_X12_plans R 102 [.ref (sj_ad G 56), .int (nI s), .int (nI (7 ^ m)), .int (nI 0), .null, .null, .null] ρ [] → sj_J G 7 me_X12_plans R 81 [.ref (sj_ad G 56), .int (nI s), .int (nI (7 ^ j)), .int (nI j), .null, .null, .null] ρ [] := by
    intro k
    induction k with
    | zero =>
      intro j ρ hj h15 R hR
      obtain rfl : j = m := by omega
      refine t_X12_plans_81 ⟨fun _ => hR, fun q => ?_⟩
      rw [h15] at q
      exact absurd (nI_le (by omega) (by omega)) q
    | succ k ih =>
      intro j ρ hj h15 R hR
      refine t_X12_plans_81 ⟨fun q => ?_, fun _ => ?_⟩
      · rw [h15] at q
        exact absurd q (nI_ge (by omega) (by omega))
      · rw [pk_mul, ← Nat.pow_succ, nI_add]
        exact ih (j + 1) ρ (by omega) h15 R hR
  -- who needs one
  have k7 : ∀ k l (ρ : sj_S), l + k = dN D → zPF σ ρ → ρ 56 15 = nI (q_cnt N l) → (∀ i, i < l → N i = true → ρ 66 (q_cnt N i) = nI i) → ∃ ρ', (∀ R : sj_R, sj_J G 7 me_X12_plans R 81 [.ref (sj_ad G 56), .int (nI s), .int (nI 1), .int (nI 0), .null, .null, .null] (sj_st ρ' 56 16 (-1)) [] → sj_J G 7 me_X12_plans R 7 [.ref (sj_ad G 56), .int (nI s), .int (nI l), .null, .null, .null, .null] ρ []) ∧ zPF σ ρ' ∧ ρ' 56 15 = nI (q_cnt N (dN D)) ∧ ∀ i, i < dN D → N i = true → ρ' 66 (q_cnt N i) = nI i := by
    intro k
    induction k with
    | zero =>
      intro l ρ hl hf h15 h66
      obtain rfl : l = dN D := by omega
      have hM2 : repM D (ρ 57) := by rw [hf.1 57 (by decide) (by decide) (by decide) (by decide)]; exact hM
      refine ⟨ρ, fun R hR => t_X12_plans_7 ⟨_, _, y_many ok, fun _ => hR, fun q => ?_⟩, hf, h15, h66⟩
      rw [hM2.1] at q
      exact absurd (nI_le (by omega) (by omega)) q
    | succ k ih =>
      intro l ρ hl hf h15 h66
      have hM2 : repM D (ρ 57) := by rw [hf.1 57 (by decide) (by decide) (by decide) (by decide)]; exact hM
      have hT2 : ∀ l, l < dN D → ρ 59 l = nI (T l) ∧ T l < 40 := fun l hl => by rw [hf.1 59 (by decide) (by decide) (by decide) (by decide)]; exact hT l hl
      obtain ⟨-, mte, -⟩ := hM2.2.2.2.1 l (by omega)
      obtain ⟨-, gte, -⟩ := v.2.2.2.1 l (by omega)
      have hat := y_isAt (σ := ρ) (T := T) ok hM2 v hT2 (l := l) (i := s) (by omega) (by omega)
      have hill := y_illB (σ := ρ) (D := D) ok hM2 (t := dTe D l) (d := s / 4) gte (by omega)
      have hql : q_cnt N l ≤ l := q_cnt_le N l
      have i9 : vp_in (nI 9 + nI l) 128 := by rw [nI_add]; exact z_in (by omega) (by decide)
      have e9 : (nI 9 + nI l).toNatClampNeg = 9 + l := by rw [nI_add, nI_clamp (by omega)]
      have hN : N l = (zTk D T l s && (dIll D (dTe D l)).testBit (s / 4)) := by
        rw [← eN]
        unfold zNe
        rw [decide_eq_true (by omega)]
        rfl
      have hlt : ∀ R : sj_R, ∀ X Y : Prop, (nI (dN D) ≤ nI l → X) := fun _ _ _ q => absurd q (nI_ge (by omega) (by omega))
      by_cases ht : zTk D T l s = true
      · rw [ht, if_pos rfl] at hat
        by_cases hi : (dIll D (dTe D l)).testBit (s / 4) = true
        · rw [hi, if_pos rfl] at hill
          have hNt : N l = true := by rw [hN, ht, hi]; rfl
          obtain ⟨ρ', r1, r2⟩ := ih (l + 1) (sj_st (sj_st ρ 66 (q_cnt N l) (nI l)) 56 15 (nI (q_cnt N l + 1))) (by omega) (zPF_56 (zPF_st hf (Or.inl rfl)) (Or.inl rfl)) (by rw [z_ste, q_cnt_s, hNt]; rfl) (fun i hi hni => by
            rw [z_stn (by decide)]
            by_cases e : i = l
            · subst e; exact z_ste
            · have hmono := q_cnt_mono (S := N) (i := i + 1) l (by omega)
              have e3 : q_cnt N (i + 1) = q_cnt N i + 1 := by rw [q_cnt_s, hni]; rfl
              rw [z_sti (by omega)]
              exact h66 i (by omega) hni)
          refine ⟨ρ', fun R hR => ?_, r2⟩
          have h1 := r1 R hR
          refine t_X12_plans_7 ⟨_, _, y_many ok, fun q => ?_, fun _ => ⟨_, _, hat, fun q => absurd q z_10, fun _ => ⟨i9, ?_⟩⟩⟩
          · rw [hM2.1] at q
            exact absurd q (nI_ge (by omega) (by omega))
          · rw [e9, mte, hdiv]
            refine ⟨_, _, hill, fun _ => ?_, ?_⟩
            · rw [h15]; exact z_in (by omega) (by decide)
            · unfold wp_X12_plans_66
              rw [if_neg z_10, h15, nI_clamp (by omega), nI_add, nI_add]
              exact h1
        · have hi : (dIll D (dTe D l)).testBit (s / 4) = false := by simpa using hi
          rw [hi, if_neg (by decide)] at hill
          have hNf : N l = false := by rw [hN, hi, Bool.and_false]
          obtain ⟨ρ', r1, r2⟩ := ih (l + 1) ρ (by omega) hf (by rw [q_cnt_s, hNf]; exact h15) (fun i hi hni => by
            by_cases e : i = l
            · subst e; rw [hNf] at hni; cases hni
            · exact h66 i (by omega) hni)
          refine ⟨ρ', fun R hR => ?_, r2⟩
          have h1 := r1 R hR
          refine t_X12_plans_7 ⟨_, _, y_many ok, fun q => ?_, fun _ => ⟨_, _, hat, fun q => absurd q z_10, fun _ => ⟨i9, ?_⟩⟩⟩
          · rw [hM2.1] at q
            exact absurd q (nI_ge (by omega) (by omega))
          · rw [e9, mte, hdiv]
            refine ⟨_, _, hill, fun q => absurd z_00 q, ?_⟩
            unfold wp_X12_plans_66
            rw [if_pos z_00, nI_add]
            exact h1
      · have ht : zTk D T l s = false := by simpa using ht
        rw [ht, if_neg (by decide)] at hat
        have hNf : N l = false := by rw [hN, ht]; rfl
        obtain ⟨ρ', r1, r2⟩ := ih (l + 1) ρ (by omega) hf (by rw [q_cnt_s, hNf]; exact h15) (fun i hi hni => by
          by_cases e : i = l
          · subst e; rw [hNf] at hni; cases hni
          · exact h66 i (by omega) hni)
        refine ⟨ρ', fun R hR => ?_, r2⟩
        have h1 := r1 R hR
        refine t_X12_plans_7 ⟨_, _, y_many ok, fun q => ?_, fun _ => ⟨_, _, hat, fun _ => ?_, fun q => absurd z_00 q⟩⟩
        · rw [hM2.1] at q
          exact absurd q (nI_ge (by omega) (by omega))
        · unfold wp_X12_plans_66
          rw [nI_add]
          exact h1
  obtain ⟨ρ1, a1, a2, a3, a4⟩ := k7 (dN D) 0 (sj_st σ 56 15 (nI 0)) (by omega) ⟨fun b h1 _ _ _ => z_stn h1, fun k h1 _ => z_sti h1⟩ z_ste (fun i hi => absurd hi (by omega))
  rw [← hmN, ← hmd] at a3
  have h66 : ∀ i, i < m → ρ1 66 i = nI (zNd N i) := fun i hi => by
    obtain ⟨n1, n2, n3⟩ := hnd i hi
    have := a4 _ n1 n2
    rw [n3] at this
    exact this
  obtain ⟨ρ2, b1, b2, b3, b4, b5⟩ := k102 (7 ^ m) 0 (sj_st ρ1 56 16 (-1)) (by omega) (zPF_56 a2 (Or.inr rfl)) (by rw [z_sti (by decide)]; exact a3) (fun i hi => by rw [z_stn (by decide)]; exact h66 i hi) (Or.inl ⟨z_ste, fun i hi => absurd hi (by omega)⟩)
  have hend : ρ2 56 16 = nI (zMx C m 0 (fun _ => true)) ∧ ∀ k, k < m → ρ2 68 k = nI (zGg C m k) := by
    rcases b5 with ⟨p1, p2⟩ | ⟨b, p1, p2, p3, p4, p5, p6⟩
    · exfalso
      have h6 : ∀ j, j < m → (fun _ : Nat => 6) j ≤ 6 := fun j _ => Nat.le_refl 6
      refine p2 _ (zNu_lt m h6) (zVal_congr (v := fun _ => 6) (fun j hj => (zDg_nm h6 hj).symm) (fun i hi h => absurd h (by show ¬ (6 : Nat) < 6; omega)))
    · obtain ⟨q1, q2⟩ := zG_scan (C := C) p1 p2 rfl p5 p6
      exact ⟨by rw [p3, q1], fun k hk => by rw [p4 k hk, q2 k hk]⟩
  refine ⟨ρ2, c_X12_plans ok ?_, b2, b3, hend.1, fun k hk => ⟨b4 k hk, hend.2 k hk⟩⟩
  unfold wp_X12_plans_0
  refine a1 _ ?_
  have h0 := k81 m 0 (sj_st ρ1 56 16 (-1)) (by omega) (by rw [z_sti (by decide)]; exact a3) _ b1
  rw [Nat.pow_zero] at h0
  exact h0
end ZVM
