/-! DATES 2: both sides' methods of dates -/
section ZDT
variable {G : sj_G} {σ : sj_S}
theorem z_eq0 {a : Nat} (h : a < 2 ^ 31) : (nI a = 0) = (a = 0) := by rw [← nI_0, nI_eq h (by decide)]
theorem y_isLeap (ok : sj_ok G) {y : Nat} (hy : y < 2 ^ 31) : sj_C G 2 me_X12_isLeap [.int (nI y)] σ (.ok (if qLp y then nI 1 else nI 0), σ) := by
  refine c_X12_isLeap ok ?_
  unfold wp_X12_isLeap_0 wp_X12_isLeap_26
  rw [z_rem hy (by decide : 0 < 4) (by decide), z_rem hy (by decide : 0 < 100) (by decide), z_rem hy (by decide : 0 < 400) (by decide)]
  simp only [z_eq0 (show y % 4 < 2 ^ 31 by omega), z_eq0 (show y % 100 < 2 ^ 31 by omega), z_eq0 (show y % 400 < 2 ^ 31 by omega)]
  unfold qLp
  by_cases h1 : y % 4 = 0 <;> by_cases h2 : y % 100 = 0 <;> by_cases h3 : y % 400 = 0 <;> simp [h1, h2, h3]
theorem y_monthDays (ok : sj_ok G) {y m : Nat} (hy : y < 2 ^ 31) (hm : m < 2 ^ 31) : sj_C G 3 me_X12_monthDays [.int (nI y), .int (nI m)] σ (.ok (nI (qMl y m)), σ) := by
  have e : ∀ k, k < 12 → (nI m = nI k) = (m = k) := fun k hk => by rw [nI_eq hm (by omega)]
  refine c_X12_monthDays ok ⟨fun h => ?_, fun h => ⟨_, _, y_isLeap ok hy, ?_⟩⟩
  · rw [e 2 (by decide)] at h
    unfold wp_X12_monthDays_52
    simp only [e 4 (by decide), e 6 (by decide), e 9 (by decide), e 11 (by decide)]
    unfold qMl
    rw [if_neg h]
    repeat' split
    all_goals rfl
  · rw [e 2 (by decide)] at h
    unfold wp_X12_monthDays_52 qMl
    rw [if_pos h]
    cases qLp y <;> rfl
theorem z_monthLength (ok : sj_ok G) {y m : Nat} (hy : y < 2 ^ 31) (hm : m < 2 ^ 31) : sj_C G 2 me_X10_monthLength [.ref (sj_ad G 50), .int (nI y), .int (nI m)] σ (.ok (nI (qMl y m)), σ) := by
  have e : ∀ k, k < 12 → (nI m = nI k) = (m = k) := fun k hk => by rw [nI_eq hm (by omega)]
  refine c_X10_monthLength ok ⟨fun h => ?_, fun h => ?_⟩
  · rw [e 2 (by decide)] at h
    unfold wp_X10_monthLength_74
    simp only [e 4 (by decide), e 6 (by decide), e 9 (by decide), e 11 (by decide)]
    unfold qMl
    rw [if_neg h]
    repeat' split
    all_goals rfl
  · rw [e 2 (by decide)] at h
    unfold wp_X10_monthLength_31 wp_X10_monthLength_43
    rw [z_rem hy (by decide : 0 < 4) (by decide), z_rem hy (by decide : 0 < 100) (by decide), z_rem hy (by decide : 0 < 400) (by decide)]
    simp only [z_eq0 (show y % 4 < 2 ^ 31 by omega), z_eq0 (show y % 100 < 2 ^ 31 by omega), z_eq0 (show y % 400 < 2 ^ 31 by omega)]
    unfold qMl qLp
    rw [if_pos h]
    by_cases h1 : y % 4 = 0 <;> by_cases h2 : y % 100 = 0 <;> by_cases h3 : y % 400 = 0 <;> simp [h1, h2, h3] <;> first | rfl | omega | decide
theorem z_ndiv {x : Int32} (h : x < 0) : x / nI 10000 < nI 2000 := by
  rw [Int32.lt_iff_toInt_lt, Int32.toInt_div, nI_toInt (by decide : 10000 < 2 ^ 31), nI_toInt (by decide : 2000 < 2 ^ 31)]
  have h1 : x.toInt < 0 := by rw [Int32.lt_iff_toInt_lt, Int32.toInt_zero] at h; exact h
  have h2 : -2 ^ 31 ≤ x.toInt := Int32.le_toInt x
  have h3 : x.toInt.tdiv ((10000 : Nat) : Int) = -((-x.toInt) / 10000) := by
    rw [show x.toInt = -(-x.toInt) by omega, Int.neg_tdiv, Int.tdiv_eq_ediv_of_nonneg (by omega)]
    simp
  rw [h3, Int.bmod_eq_of_le (by omega) (by omega)]
  omega
/-- a date or not -/
theorem z_dt (x : Int32) : (∃ n, n < 2 ^ 31 ∧ x = nI n ∧ qDt n) ∨ (x < 0 ∨ ∃ n, n < 2 ^ 31 ∧ x = nI n ∧ ¬ qDt n) := by
  by_cases h : x < 0
  · exact Or.inr (Or.inl h)
  · obtain ⟨n, hn, e⟩ := nI_of h
    by_cases q : qDt n
    · exact Or.inl ⟨n, hn, e, q⟩
    · exact Or.inr (Or.inr ⟨n, hn, e, q⟩)
theorem z_mo {n : Nat} (hn : n < 2 ^ 31) : nI n / nI 100 - nI n / nI 100 / nI 100 * nI 100 = nI (n / 100 % 100) := by
  rw [pk_div hn (by decide) (by decide), z_rem (by omega) (by decide) (by decide)]
theorem z_isDateN (ok : sj_ok G) {n : Nat} (hn : n < 2 ^ 31) : (qDt n → sj_C G 3 me_X10_isDate [.ref (sj_ad G 50), .int (nI n)] σ (.ok (nI 1), σ)) ∧ (¬ qDt n → sj_C G 3 me_X10_isDate [.ref (sj_ad G 50), .int (nI n)] σ (.ok (nI 0), σ)) := by
  have key : ∀ r : Int32, (qDt n → r = nI 1) → (¬ qDt n → r = nI 0) → sj_C G 3 me_X10_isDate [.ref (sj_ad G 50), .int (nI n)] σ (.ok r, σ) := by
    intro r h1 h0
    have hf : ¬ qDt n → wp_X10_isDate_66 G (.ok r, σ) σ := fun q => by
      unfold wp_X10_isDate_66 wp_X10_isDate_67
      rw [h0 q]
      exact ⟨rfl, Or.inl rfl⟩
    refine c_X10_isDate ok ?_
    unfold wp_X10_isDate_0
    rw [z_mo hn, pk_div hn (by decide) (by decide), z_rem hn (by decide) (by decide)]
    refine ⟨fun h => hf (fun q => ?_), fun a1 => ⟨fun h => hf (fun q => ?_), fun a2 => ⟨fun h => hf (fun q => ?_), fun a3 => ⟨fun h => hf (fun q => ?_), fun a4 => ⟨fun h => hf (fun q => ?_), fun a5 => ⟨_, _, z_monthLength ok (by omega) (by omega), ?_⟩⟩⟩⟩⟩⟩
    · rw [nI_ltI (by omega) (by decide)] at h
      exact absurd q.1 (by omega)
    · rw [nI_ltI (by decide) (by omega)] at h
      exact absurd q.2.1 (by omega)
    · rw [nI_ltI (by omega) (by decide)] at h
      exact absurd q.2.2.1 (by omega)
    · rw [nI_ltI (by decide) (by omega)] at h
      exact absurd q.2.2.2.1 (by omega)
    · rw [nI_ltI (by omega) (by decide)] at h
      exact absurd q.2.2.2.2.1 (by omega)
    · rw [nI_ltI (by omega) (by decide)] at a1
      rw [nI_ltI (by decide) (by omega)] at a2
      rw [nI_ltI (by omega) (by decide)] at a3
      rw [nI_ltI (by decide) (by omega)] at a4
      rw [nI_ltI (by omega) (by decide)] at a5
      have hm := (qMl_le (n / 10000) (n / 100 % 100)).2
      unfold wp_X10_isDate_67
      by_cases q : qMl (n / 10000) (n / 100 % 100) < n % 100
      · rw [if_pos (nI_lt q (by omega)), h0 (fun r => absurd r.2.2.2.2.2 (by omega))]
        exact ⟨rfl, Or.inl rfl⟩
      · rw [if_neg (nI_nlt (by omega) (by omega)), h1 ⟨by omega, by omega, by omega, by omega, by omega, by omega⟩]
        exact ⟨rfl, Or.inr rfl⟩
  exact ⟨fun h => key (nI 1) (fun _ => rfl) (fun q => absurd h q), fun h => key (nI 0) (fun q => absurd q h) (fun _ => rfl)⟩
theorem z_isDate0 (ok : sj_ok G) {x : Int32} (h : x < 0 ∨ ∃ n, n < 2 ^ 31 ∧ x = nI n ∧ ¬ qDt n) : sj_C G 3 me_X10_isDate [.ref (sj_ad G 50), .int x] σ (.ok (nI 0), σ) := by
  rcases h with h | ⟨n, hn, rfl, q⟩
  · refine c_X10_isDate ok ⟨fun _ => ?_, fun q => absurd (z_ndiv h) q⟩
    exact ⟨rfl, Or.inl rfl⟩
  · exact (z_isDateN ok hn).2 q
theorem y_isDateN (ok : sj_ok G) {n : Nat} (hn : n < 2 ^ 31) : (qDt n → sj_C G 4 me_X12_isDate [.int (nI n)] σ (.ok (nI 1), σ)) ∧ (¬ qDt n → sj_C G 4 me_X12_isDate [.int (nI n)] σ (.ok (nI 0), σ)) := by
  have key : ∀ r : Int32, (qDt n → r = nI 1) → (¬ qDt n → r = nI 0) → sj_C G 4 me_X12_isDate [.int (nI n)] σ (.ok r, σ) := by
    intro r h1 h0
    have hf : ¬ qDt n → wp_X12_isDate_59 G (.ok r, σ) σ := fun q => by
      unfold wp_X12_isDate_59 wp_X12_isDate_60
      rw [h0 q]
      exact ⟨rfl, Or.inl rfl⟩
    have hin : ∀ a lo hi : Nat, a < 2 ^ 31 → lo < 2 ^ 31 → hi < 2 ^ 31 → sj_C G 2 me_X12_in [.int (nI a), .int (nI lo), .int (nI hi)] σ (.ok (if lo ≤ a ∧ a ≤ hi then nI 1 else nI 0), σ) := fun a lo hi ha hl hh => by
      by_cases q : lo ≤ a ∧ a ≤ hi
      · rw [if_pos q]
        exact y_in1 ok (nI_nlt q.1 ha) (nI_nlt q.2 hh)
      · rw [if_neg q]
        refine y_in0 ok ?_
        rw [nI_ltI ha hl, nI_ltI hh ha]
        omega
    have hz : ∀ p : Prop, ∀ [Decidable p], ((if p then nI 1 else nI 0) = 0) = (¬ p) := fun p _ => by
      by_cases q : p
      · simp [q]; decide
      · simp [q]; decide
    refine c_X12_isDate ok ⟨_, _, hin n 20000101 20991231 hn (by decide) (by decide), fun h => ?_, fun a1 => ?_⟩
    · rw [hz] at h
      refine hf (fun q => h ?_)
      obtain ⟨g1, g2, g3, g4, g5, g6⟩ := q
      have hm := (qMl_le (n / 10000) (n / 100 % 100)).2
      omega
    · rw [z_mo hn, pk_div hn (by decide) (by decide), z_rem hn (by decide) (by decide)]
      rw [hz] at a1
      have a1 := Classical.not_not.mp a1
      refine ⟨_, _, hin (n / 100 % 100) 1 12 (by omega) (by decide) (by decide), fun h => ?_, fun a2 => ?_⟩
      · rw [hz] at h
        exact hf (fun q => h ⟨q.2.2.1, q.2.2.2.1⟩)
      · rw [hz] at a2
        have a2 := Classical.not_not.mp a2
        have hm := (qMl_le (n / 10000) (n / 100 % 100)).2
        refine ⟨_, _, y_monthDays ok (by omega) (by omega), _, _, hin (n % 100) 1 (qMl (n / 10000) (n / 100 % 100)) (by omega) (by decide) (by omega), ?_⟩
        unfold wp_X12_isDate_60
        by_cases q : 1 ≤ n % 100 ∧ n % 100 ≤ qMl (n / 10000) (n / 100 % 100)
        · rw [if_pos q, if_neg z_10, h1 ⟨by omega, by omega, a2.1, a2.2, q.1, q.2⟩]
          exact ⟨rfl, Or.inr rfl⟩
        · rw [if_neg q, if_pos z_00, h0 (fun r => q r.2.2.2.2)]
          exact ⟨rfl, Or.inl rfl⟩
  exact ⟨fun h => key (nI 1) (fun _ => rfl) (fun q => absurd h q), fun h => key (nI 0) (fun q => absurd q h) (fun _ => rfl)⟩
theorem y_isDate0 (ok : sj_ok G) {x : Int32} (h : x < 0 ∨ ∃ n, n < 2 ^ 31 ∧ x = nI n ∧ ¬ qDt n) : sj_C G 4 me_X12_isDate [.int x] σ (.ok (nI 0), σ) := by
  rcases h with h | ⟨n, hn, rfl, q⟩
  · have h0 : x < nI 20000101 := by
      rw [Int32.lt_iff_toInt_lt, nI_toInt (by decide : 20000101 < 2 ^ 31)]
      rw [Int32.lt_iff_toInt_lt, Int32.toInt_zero] at h
      omega
    refine c_X12_isDate ok ⟨_, _, y_in0 ok (Or.inl h0), fun _ => ⟨rfl, Or.inl rfl⟩, fun q => absurd nI_0 q⟩
  · exact (y_isDateN ok hn).2 q
theorem y_noDate1 (ok : sj_ok G) (h0 : σ 56 0 = 0) {x : Int32} (h : x < 0 ∨ ∃ n, n < 2 ^ 31 ∧ x = nI n ∧ ¬ qDt n) : sj_C G 5 me_X12_noDate [.ref (sj_ad G 56), .int x] σ (.ok (nI 1), sj_st σ 56 0 (nI 1)) :=
  c_X12_noDate ok ⟨_, _, y_isDate0 ok h, _, _, y_fails0 ok h0 (by decide), rfl, Or.inr rfl⟩
theorem y_noDate0 (ok : sj_ok G) (h0 : σ 56 0 = 0) {n : Nat} (hn : n < 2 ^ 31) (h : qDt n) : sj_C G 5 me_X12_noDate [.ref (sj_ad G 56), .int (nI n)] σ (.ok (nI 0), σ) :=
  c_X12_noDate ok ⟨_, _, (y_isDateN ok hn).1 h, _, _, y_fails1 ok h0, rfl, Or.inl rfl⟩
theorem z_serialOf (ok : sj_ok G) {n : Nat} (hn : n < 2 ^ 31) (h : qDt n) : sj_C G 2 me_X10_serialOf [.ref (sj_ad G 50), .int (nI n)] σ (.ok (nI (qDay n + 7305)), σ) := by
  obtain ⟨k, m, d, h1, h2, h3, h4, e1, e2, e3, ea, e⟩ := qDt_eq h
  have hd := (qMl_le (1990 + k) (m + 1)).2
  refine c_X10_serialOf ok ?_
  unfold wp_X10_serialOf_0
  rw [z_mo hn, pk_div hn (by decide) (by decide), e1, e2]
  unfold wp_X10_serialOf_23
  have es : (if nI 2 < nI (m + 1) then nI 0 else nI 1) = nI (if 2 < m + 1 then 0 else 1) := by
    by_cases q : 2 < m + 1
    · rw [if_pos (nI_lt q (by omega)), if_pos q]
    · rw [if_neg (nI_nlt (by omega) (by omega)), if_neg q]
  have hle : (if 2 < m + 1 then 0 else 1) ≤ 1990 + k := by split <;> omega
  rw [es, pk_sub hle]
  generalize hY : 1990 + k - (if 2 < m + 1 then 0 else 1) = Y
  have hY2 : Y < 2100 := by omega
  rw [z_rem hn (by decide : 0 < 100) (by decide), e3, nI_add, z_rem (by omega) (by decide : 0 < 12) (by decide), pk_mul, nI_add, pk_div (by omega) (by decide) (by decide), nI_add, pk_sub (by omega), z_rem (by omega : Y < 2 ^ 31) (by decide : 0 < 400) (by decide), pk_div (by omega : Y < 2 ^ 31) (by decide : 0 < 400) (by decide), pk_mul, pk_mul, nI_add, pk_div (by omega) (by decide) (by decide), nI_add, pk_div (by omega) (by decide) (by decide), pk_sub (by omega)]
  intro y1 ey
  subst ey
  have hc := qEra_c (k - 10) (by omega) m h3
  rw [show 2000 + (k - 10) = 1990 + k by omega, show 10 + (k - 10) = k by omega, ← qYd_c k (by omega), ← qMd_c _ m h3] at hc
  unfold qEra at hc
  dsimp only at hc
  rw [hY] at hc
  rw [nI_add, pk_sub (by omega), e]
  refine congrArg (fun z => ((Except.ok (nI z), σ) : sj_R)) ?_
  omega
theorem z_dateAt (ok : sj_ok G) {k m d : Nat} (hk : k < 114) (hm : m < 12) (hd : d < qMl (1990 + k) (m + 1)) : sj_C G 2 me_X10_dateAt [.ref (sj_ad G 50), .int (nI (qYd k + qMd (1990 + k) m + d + 7305))] σ (.ok (nI (10000 * (1990 + k) + 100 * (m + 1) + d + 1)), σ) := by
  obtain ⟨hc, ho⟩ := qAt_c hk hm hd
  have hA : qYd k + qMd (1990 + k) m + d + 7305 < 100000 := by
    have h1 := (qMl_le (1990 + k) (m + 1)).2
    have h2 : qMd (1990 + k) m ≤ 31 * m := zSumN_le m (fun i _ => (qMl_le _ _).2)
    have h3 : qYd k ≤ 366 * k := zSumN_le k (fun i _ => by unfold qYl; split <;> omega)
    omega
  refine c_X10_dateAt ok ?_
  unfold wp_X10_dateAt_0
  rw [nI_add, show qYd k + qMd (1990 + k) m + d + 7305 + 719468 = qYd k + qMd (1990 + k) m + d + 726773 by omega]
  generalize hN : qYd k + qMd (1990 + k) m + d + 726773 = A at hc ho ⊢
  have hA : A < 900000 := by omega
  unfold qAt at hc
  dsimp only at hc
  unfold qOk at ho
  dsimp only at ho
  rw [decide_eq_true_eq] at ho
  rw [z_rem (by omega : A < 2 ^ 31) (by decide : 0 < 146097) (by decide)]
  have he : A % 146097 < 146097 := Nat.mod_lt _ (by decide)
  generalize A % 146097 = e at hc he ho ⊢
  rw [pk_div (by omega : e < 2 ^ 31) (by decide : 0 < 1460) (by decide), pk_div (by omega : e < 2 ^ 31) (by decide : 0 < 36524) (by decide), pk_div (by omega : e < 2 ^ 31) (by decide : 0 < 146096) (by decide), pk_sub (by omega), nI_add, pk_sub (by omega), pk_div (by omega) (by decide) (by decide)]
  have hyo : (e - e / 1460 + e / 36524 - e / 146096) / 365 < 500 := by omega
  generalize (e - e / 1460 + e / 36524 - e / 146096) / 365 = yo at hc hyo ho ⊢
  intro y1 e1
  subst e1
  rw [pk_mul, pk_div (by omega) (by decide) (by decide), nI_add, pk_div (by omega) (by decide) (by decide), pk_sub (by omega), pk_sub ho]
  have hiy : e - (365 * yo + yo / 4 - yo / 100) < 200000 := by omega
  generalize e - (365 * yo + yo / 4 - yo / 100) = iy at hc hiy ⊢
  intro y2 e2
  subst e2
  rw [pk_mul, nI_add, pk_div (by omega) (by decide) (by decide)]
  have hmm : (153 * ((5 * iy + 2) / 153) + 2) / 5 ≤ iy + 1 := by omega
  have hmx : (5 * iy + 2) / 153 < 10000 := by omega
  generalize hmm' : (5 * iy + 2) / 153 = mm at hc hmm hmx ⊢
  have hmm2 : (153 * mm + 2) / 5 ≤ iy := by omega
  have em : (if nI 10 ≤ nI mm then nI mm - nI 9 else nI mm + nI 3) = nI (if 10 ≤ mm then mm - 9 else mm + 3) := by
    by_cases q : 10 ≤ mm
    · rw [if_pos (nI_le q (by omega)), if_pos q, pk_sub (by omega)]
    · rw [if_neg (nI_ge (by omega) (by omega)), if_neg q, nI_add]
  rw [em]
  have hmo : (if 10 ≤ mm then mm - 9 else mm + 3) < 10004 := by split <;> omega
  generalize (if 10 ≤ mm then mm - 9 else mm + 3) = mo at hc hmo ⊢
  unfold wp_X10_dateAt_102 wp_X10_dateAt_126
  have ez : (if nI 2 < nI mo then nI 0 else nI 1) = nI (if 2 < mo then 0 else 1) := by
    by_cases q : 2 < mo
    · rw [if_pos (nI_lt q (by omega)), if_pos q]
    · rw [if_neg (nI_nlt (by omega) (by omega)), if_neg q]
  have d1 : nI A / nI 146097 = nI (A / 146097) := pk_div (by omega) (by decide) (by decide)
  have d2 : nI (153 * mm + 2) / nI 5 = nI ((153 * mm + 2) / 5) := pk_div (by omega) (by decide) (by decide)
  have d3 : nI iy - nI ((153 * mm + 2) / 5) = nI (iy - (153 * mm + 2) / 5) := pk_sub hmm2
  simp only [ez, d1, pk_mul, nI_add, d2, d3]
  rw [hc]
theorem y_dayOf (ok : sj_ok G) {n : Nat} (hn : n < 2 ^ 31) (h : qDt n) : sj_C G 4 me_X12_dayOf [.int (nI n)] σ (.ok (nI (qDay n)), σ) := by
  obtain ⟨k, m, d, h1, h2, h3, h4, e1, e2, e3, ea, e⟩ := qDt_eq h
  refine c_X12_dayOf ok ?_
  unfold wp_X12_dayOf_0
  rw [z_rem hn (by decide) (by decide), e3, pk_sub (by omega), show d + 1 - 1 = d by omega, e]
  have ey : nI n / nI 10000 = nI (1990 + k) := by rw [pk_div hn (by decide) (by decide), e1]
  have em : nI n / nI 100 - nI n / nI 100 / nI 100 * nI 100 = nI (m + 1) := by rw [z_mo hn, e2]
  have key2 : ∀ j i, i + j = m → sj_J G 4 me_X12_dayOf (.ok (nI (qYd k + qMd (1990 + k) m + d)), σ) 47 [.int (nI n), .int (nI (d + qYd k + qMd (1990 + k) i)), .int (nI (i + 1))] σ [] := by
    intro j
    induction j with
    | zero =>
      intro i hi
      have : i = m := by omega
      subst this
      refine t_X12_dayOf_47 ⟨fun _ => ?_, fun q => ?_⟩
      · rw [show d + qYd k + qMd (1990 + k) i = qYd k + qMd (1990 + k) i + d by omega]
      · rw [em] at q
        exact absurd (nI_le (by omega) (by omega)) q
    | succ j ih =>
      intro i hi
      have hi1 := ih (i + 1) (by omega)
      refine t_X12_dayOf_47 ⟨fun q => ?_, fun _ => ?_⟩
      · rw [em] at q
        exact absurd q (nI_ge (by omega) (by omega))
      · rw [ey]
        refine ⟨_, _, y_monthDays ok (by omega) (by omega), ?_⟩
        have hmd : qMd (1990 + k) (i + 1) = qMd (1990 + k) i + qMl (1990 + k) (i + 1) := rfl
        rw [hmd, ← Nat.add_assoc] at hi1
        rw [nI_add, nI_add]
        exact hi1
  have key : ∀ j i, i + j = k → sj_J G 4 me_X12_dayOf (.ok (nI (qYd k + qMd (1990 + k) m + d)), σ) 11 [.int (nI n), .int (nI (d + qYd i)), .int (nI (1990 + i))] σ [] := by
    intro j
    induction j with
    | zero =>
      intro i hi
      have : i = k := by omega
      subst this
      refine t_X12_dayOf_11 ⟨fun _ => key2 m 0 (by omega), fun q => ?_⟩
      rw [ey] at q
      exact absurd (nI_le (by omega) (by omega)) q
    | succ j ih =>
      intro i hi
      have hi1 := ih (i + 1) (by omega)
      refine t_X12_dayOf_11 ⟨fun q => ?_, fun _ => ⟨_, _, y_isLeap ok (by omega), ?_⟩⟩
      · rw [ey] at q
        exact absurd q (nI_ge (by omega) (by omega))
      · unfold wp_X12_dayOf_37
        have el : (if (if qLp (1990 + i) then nI 1 else nI 0) = 0 then nI 365 else nI 366) = nI (qYl (1990 + i)) := by
          unfold qYl
          cases qLp (1990 + i) <;> decide
        have hmd : qYd (i + 1) = qYd i + qYl (1990 + i) := rfl
        rw [hmd, ← Nat.add_assoc] at hi1
        rw [el, nI_add, nI_add]
        exact hi1
  exact key k 0 (by omega)
theorem y_dateOfDay (ok : sj_ok G) {k m d : Nat} (hk : k < 114) (hm : m < 12) (hd : d < qMl (1990 + k) (m + 1)) : sj_C G 4 me_X12_dateOfDay [.int (nI (qYd k + qMd (1990 + k) m + d))] σ (.ok (nI (10000 * (1990 + k) + 100 * (m + 1) + d + 1)), σ) := by
  have b1 := (qMl_le (1990 + k) (m + 1)).2
  have b2 : qMd (1990 + k) m ≤ 31 * m := zSumN_le m (fun i _ => (qMl_le _ _).2)
  have b3 : qYd k ≤ 366 * k := zSumN_le k (fun i _ => by unfold qYl; split <;> omega)
  have b4 : qMd (1990 + k) m + d < qYl (1990 + k) := by
    have g3 : qMd (1990 + k) (m + 1) ≤ qMd (1990 + k) 12 := zSumN_mono 12 (by omega)
    have g4 : qMd (1990 + k) (m + 1) = qMd (1990 + k) m + qMl (1990 + k) (m + 1) := rfl
    rw [qYl_md]
    omega
  have hyl : ∀ y, 365 ≤ qYl y ∧ qYl y ≤ 366 := fun y => by unfold qYl; split <;> omega
  have el : ∀ y, (if (if qLp y then nI 1 else nI 0) = 0 then nI 365 else nI 366) = nI (qYl y) := fun y => by
    unfold qYl
    cases qLp y <;> decide
  refine c_X12_dateOfDay ok ?_
  unfold wp_X12_dateOfDay_0
  have key2 : ∀ j i, i + j = m → sj_J G 4 me_X12_dateOfDay (.ok (nI (10000 * (1990 + k) + 100 * (m + 1) + d + 1)), σ) 53 [.null, .int (nI (qMd (1990 + k) m + d - qMd (1990 + k) i)), .int (nI (1990 + k)), .int (nI (i + 1))] σ [] := by
    intro j
    induction j with
    | zero =>
      intro i hi
      have : i = m := by omega
      subst this
      rw [show qMd (1990 + k) i + d - qMd (1990 + k) i = d by omega]
      refine t_X12_dateOfDay_53 ⟨_, _, y_monthDays ok (by omega) (by omega), fun _ => ?_, fun q => absurd (nI_lt hd (by omega)) q⟩
      rw [pk_mul, pk_mul, nI_add, nI_add, nI_add]
    | succ j ih =>
      intro i hi
      have hi1 := ih (i + 1) (by omega)
      have g1 : qMd (1990 + k) (i + 1) = qMd (1990 + k) i + qMl (1990 + k) (i + 1) := rfl
      have g2 : qMd (1990 + k) (i + 1) ≤ qMd (1990 + k) m := zSumN_mono m (by omega)
      refine t_X12_dateOfDay_53 ⟨_, _, y_monthDays ok (by omega) (by omega), fun q => ?_, fun q => ⟨_, _, y_monthDays ok (by omega) (by omega), ?_⟩⟩
      · exact absurd q (nI_nlt (by omega) (by omega))
      · rw [pk_sub (by omega), nI_add, show qMd (1990 + k) m + d - qMd (1990 + k) i - qMl (1990 + k) (i + 1) = qMd (1990 + k) m + d - qMd (1990 + k) (i + 1) by omega]
        exact hi1
  have key : ∀ j i, i + j = k → sj_J G 4 me_X12_dateOfDay (.ok (nI (10000 * (1990 + k) + 100 * (m + 1) + d + 1)), σ) 6 [.null, .int (nI (qYd k + qMd (1990 + k) m + d - qYd i)), .int (nI (1990 + i)), .null] σ [] := by
    intro j
    induction j with
    | zero =>
      intro i hi
      have : i = k := by omega
      subst this
      refine t_X12_dateOfDay_6 ⟨_, _, y_isLeap ok (by omega), ?_⟩
      rw [el, show qYd i + qMd (1990 + i) m + d - qYd i = qMd (1990 + i) m + d by omega]
      refine ⟨fun _ => key2 m 0 (by omega), fun q => absurd (nI_lt b4 (by have := hyl (1990 + i); omega)) q⟩
    | succ j ih =>
      intro i hi
      have hi1 := ih (i + 1) (by omega)
      have g1 : qYd (i + 1) = qYd i + qYl (1990 + i) := rfl
      have g2 : qYd (i + 1) ≤ qYd k := zSumN_mono k (by omega)
      refine t_X12_dateOfDay_6 ⟨_, _, y_isLeap ok (by omega), ?_⟩
      rw [el]
      refine ⟨fun q => absurd q (nI_nlt (by omega) (by omega)), fun _ => ⟨_, _, y_isLeap ok (by omega), ?_⟩⟩
      unfold wp_X12_dateOfDay_43
      rw [el, pk_sub (by omega), nI_add, show qYd k + qMd (1990 + k) m + d - qYd i - qYl (1990 + i) = qYd k + qMd (1990 + k) m + d - qYd (i + 1) by omega]
      exact hi1
  have h := key k 0 (by omega)
  rw [show qYd k + qMd (1990 + k) m + d - qYd 0 = qYd k + qMd (1990 + k) m + d from Nat.sub_zero _] at h
  exact h
/-- every day of these years is a date -/
theorem q_date {N : Nat} (h : N < 41600) : ∃ k m d, k < 114 ∧ m < 12 ∧ d < qMl (1990 + k) (m + 1) ∧ N = qYd k + qMd (1990 + k) m + d := by
  have h114 : 41600 ≤ qYd 114 := by decide +kernel
  obtain ⟨k, r, h1, h2, h3⟩ := zSumN_find (f := fun i => qYl (1990 + i)) 114 N (Nat.lt_of_lt_of_le h h114)
  have h3 : r < qYl (1990 + k) := h3
  rw [qYl_md] at h3
  obtain ⟨m, d, g1, g2, g3⟩ := zSumN_find (f := fun i => qMl (1990 + k) (i + 1)) 12 r h3
  exact ⟨k, m, d, h1, g1, g3, by rw [h2, g2, ← Nat.add_assoc]; rfl⟩
theorem z_floorMod (ok : sj_ok G) {a : Nat} (ha : a < 2 ^ 30) : sj_C G 2 me_J9_floorMod_7cf53 [.int (nI a), .int (nI 7)] σ (.ok (nI (a % 7)), σ) := by
  refine c_J9_floorMod_7cf53 ok ⟨by decide, fun _ => ?_, fun h => ?_⟩
  · rw [z_rem (by omega) (by decide) (by decide)]
    rfl
  · have h1 : a ^^^ 7 < 2 ^ 30 := Nat.xor_lt_two_pow ha (by decide)
    rw [nx_xor] at h
    exact absurd (nI_pos' (by omega)) h
theorem z_weekday (ok : sj_ok G) {N : Nat} (hN : N < 100000) : sj_C G 3 me_X10_weekday [.ref (sj_ad G 50), .int (nI (N + 7305))] σ (.ok (nI (N % 7)), σ) := by
  refine c_X10_weekday ok ?_
  unfold wp_X10_weekday_0
  rw [pk_sub (by omega)]
  refine ⟨_, _, z_floorMod ok (by omega), ?_⟩
  rw [show (N + 7305 - 4) % 7 = N % 7 by omega]
theorem z_requireDate0 (ok : sj_ok G) {n : Nat} (hn : n < 2 ^ 31) (h : qDt n) : sj_C G 9 me_X11_requireDate [.ref (sj_ad G 0), .int (nI n)] σ (.ok (nI (qDay n + 7305)), σ) :=
  c_X11_requireDate ok ⟨_, _, (z_isDateN ok hn).1 h, fun _ => ⟨_, _, z_serialOf ok hn h, rfl⟩, fun q => absurd q z_10⟩
theorem z_requireDate1 (ok : sj_ok G) {x : Int32} (h : x < 0 ∨ ∃ n, n < 2 ^ 31 ∧ x = nI n ∧ ¬ qDt n) : sj_C G 9 me_X11_requireDate [.ref (sj_ad G 0), .int x] σ (.error 1, σ) :=
  c_X11_requireDate ok ⟨_, _, z_isDate0 ok h, fun q => absurd nI_0 q, fun _ => rfl⟩
end ZDT
