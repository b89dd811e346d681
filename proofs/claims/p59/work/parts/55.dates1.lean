/-! DATES 2: both sides' methods of dates -/
section ZDT
variable {G : sj_G} {σ : sj_S}
theorem z_eq0 {a : Nat} (h : a < 2 ^ 31) : (nI a = 0) = (a = 0) := by rw [← nI_0, nI_eq h (by decide)]
theorem z_monthLength (ok : sj_ok G) {y m : Nat} (hy : y < 2 ^ 31) (hm : m < 2 ^ 31) : sj_C G 2 me_X10_monthLength [.ref (sj_ad G 50), .int (nI y), .int (nI m)] σ (.ok (nI (qMl y m)), σ) := by
  have e : ∀ k, k < 12 → (nI m = nI k) = (m = k) := fun k hk => by rw [nI_eq hm (by omega)]
  refine c_X10_monthLength ok ⟨fun h => ?_, fun h => ?_⟩
  · rw [e 2 (by decide)] at h
    unfold wp_X10_monthLength_74
    simp only [e 4 (by decide), e 6 (by decide), e 9 (by decide), e 11 (by decide)]
    unfold qMl
    rw [if_neg h]
    repeat' split
    all_goals rfl
  · rw [e 2 (by decide)] at h
    unfold wp_X10_monthLength_31 wp_X10_monthLength_43
    rw [z_rem hy (by decide : 0 < 4) (by decide), z_rem hy (by decide : 0 < 100) (by decide), z_rem hy (by decide : 0 < 400) (by decide)]
    simp only [z_eq0 (show y % 4 < 2 ^ 31 by omega), z_eq0 (show y % 100 < 2 ^ 31 by omega), z_eq0 (show y % 400 < 2 ^ 31 by omega)]
    unfold qMl qLp
    rw [if_pos h]
    by_cases h1 : y % 4 = 0 <;> by_cases h2 : y % 100 = 0 <;> by_cases h3 : y % 400 = 0 <;> simp [h1, h2, h3] <;> first | rfl | omega | decide
theorem z_ndiv {x : Int32} (h : x < 0) : x / nI 10000 < nI 2000 := by
  rw [Int32.lt_iff_toInt_lt, Int32.toInt_div, nI_toInt (by decide : 10000 < 2 ^ 31), nI_toInt (by decide : 2000 < 2 ^ 31)]
  have h1 : x.toInt < 0 := by rw [Int32.lt_iff_toInt_lt, Int32.toInt_zero] at h; exact h
  have h2 : -2 ^ 31 ≤ x.toInt := Int32.le_toInt x
  have h3 : x.toInt.tdiv ((10000 : Nat) : Int) = -((-x.toInt) / 10000) := by
    rw [show x.toInt = -(-x.toInt) by omega, Int.neg_tdiv, Int.tdiv_eq_ediv_of_nonneg (by omega)]
    simp
  rw [h3, Int.bmod_eq_of_le (by omega) (by omega)]
  omega
theorem z_dt (x : Int32) : (∃ n, n < 2 ^ 31 ∧ x = nI n ∧ qDt n) ∨ (x < 0 ∨ ∃ n, n < 2 ^ 31 ∧ x = nI n ∧ ¬ qDt n) := by
  by_cases h : x < 0
  · exact Or.inr (Or.inl h)
  · obtain ⟨n, hn, e⟩ := nI_of h
    by_cases q : qDt n
    · exact Or.inl ⟨n, hn, e, q⟩
    · exact Or.inr (Or.inr ⟨n, hn, e, q⟩)
theorem z_mo {n : Nat} (hn : n < 2 ^ 31) : nI n / nI 100 - nI n / nI 100 / nI 100 * nI 100 = nI (n / 100 % 100) := by
  rw [pk_div hn (by decide) (by decide), z_rem (by omega) (by decide) (by decide)]
theorem z_isDateN (ok : sj_ok G) {n : Nat} (hn : n < 2 ^ 31) : (qDt n → sj_C G 3 me_X10_isDate [.ref (sj_ad G 50), .int (nI n)] σ (.ok (nI 1), σ)) ∧ (¬ qDt n → sj_C G 3 me_X10_isDate [.ref (sj_ad G 50), .int (nI n)] σ (.ok (nI 0), σ)) := by
  have key : ∀ r : Int32, (qDt n → r = nI 1) → (¬ qDt n → r = nI 0) → sj_C G 3 me_X10_isDate [.ref (sj_ad G 50), .int (nI n)] σ (.ok r, σ) := by
    intro r h1 h0
    have hf : ¬ qDt n → wp_X10_isDate_66 G (.ok r, σ) σ := fun q => by
      unfold wp_X10_isDate_66 wp_X10_isDate_67
      rw [h0 q]
      exact ⟨rfl, Or.inl rfl⟩
    refine c_X10_isDate ok ?_
    unfold wp_X10_isDate_0
    rw [z_mo hn, pk_div hn (by decide) (by decide), z_rem hn (by decide) (by decide)]
    refine ⟨fun h => hf (fun q => ?_), fun a1 => ⟨fun h => hf (fun q => ?_), fun a2 => ⟨fun h => hf (fun q => ?_), fun a3 => ⟨fun h => hf (fun q => ?_), fun a4 => ⟨fun h => hf (fun q => ?_), fun a5 => ⟨_, _, z_monthLength ok (by omega) (by omega), ?_⟩⟩⟩⟩⟩⟩
    · rw [nI_ltI (by omega) (by decide)] at h
      exact absurd q.1 (by omega)
    · rw [nI_ltI (by decide) (by omega)] at h
      exact absurd q.2.1 (by omega)
    · rw [nI_ltI (by omega) (by decide)] at h
      exact absurd q.2.2.1 (by omega)
    · rw [nI_ltI (by decide) (by omega)] at h
      exact absurd q.2.2.2.1 (by omega)
    · rw [nI_ltI (by omega) (by decide)] at h
      exact absurd q.2.2.2.2.1 (by omega)
    · rw [nI_ltI (by omega) (by decide)] at a1
      rw [nI_ltI (by decide) (by omega)] at a2
      rw [nI_ltI (by omega) (by decide)] at a3
      rw [nI_ltI (by decide) (by omega)] at a4
      rw [nI_ltI (by omega) (by decide)] at a5
      have hm := (qMl_le (n / 10000) (n / 100 % 100)).2
      unfold wp_X10_isDate_67
      by_cases q : qMl (n / 10000) (n / 100 % 100) < n % 100
      · rw [if_pos (nI_lt q (by omega)), h0 (fun r => absurd r.2.2.2.2.2 (by omega))]
        exact ⟨rfl, Or.inl rfl⟩
      · rw [if_neg (nI_nlt (by omega) (by omega)), h1 ⟨by omega, by omega, by omega, by omega, by omega, by omega⟩]
        exact ⟨rfl, Or.inr rfl⟩
  exact ⟨fun h => key (nI 1) (fun _ => rfl) (fun q => absurd h q), fun h => key (nI 0) (fun q => absurd q h) (fun _ => rfl)⟩
theorem z_isDate0 (ok : sj_ok G) {x : Int32} (h : x < 0 ∨ ∃ n, n < 2 ^ 31 ∧ x = nI n ∧ ¬ qDt n) : sj_C G 3 me_X10_isDate [.ref (sj_ad G 50), .int x] σ (.ok (nI 0), σ) := by
  rcases h with h | ⟨n, hn, rfl, q⟩
  · refine c_X10_isDate ok ⟨fun _ => ?_, fun q => absurd (z_ndiv h) q⟩
    exact ⟨rfl, Or.inl rfl⟩
  · exact (z_isDateN ok hn).2 q
theorem z_serialOf (ok : sj_ok G) {n : Nat} (hn : n < 2 ^ 31) (h : qDt n) : sj_C G 2 me_X10_serialOf [.ref (sj_ad G 50), .int (nI n)] σ (.ok (nI (qDay n + 7305)), σ) := by
  obtain ⟨k, m, d, h1, h2, h3, h4, e1, e2, e3, ea, e⟩ := qDt_eq h
  have hd := (qMl_le (1990 + k) (m + 1)).2
  refine c_X10_serialOf ok ?_
  unfold wp_X10_serialOf_0
  rw [z_mo hn, pk_div hn (by decide) (by decide), e1, e2]
  unfold wp_X10_serialOf_23
  have es : (if nI 2 < nI (m + 1) then nI 0 else nI 1) = nI (if 2 < m + 1 then 0 else 1) := by
    by_cases q : 2 < m + 1
    · rw [if_pos (nI_lt q (by omega)), if_pos q]
    · rw [if_neg (nI_nlt (by omega) (by omega)), if_neg q]
  have hle : (if 2 < m + 1 then 0 else 1) ≤ 1990 + k := by split <;> omega
  rw [es, pk_sub hle]
  generalize hY : 1990 + k - (if 2 < m + 1 then 0 else 1) = Y
  have hY2 : Y < 2100 := by omega
  rw [z_rem hn (by decide : 0 < 100) (by decide), e3, nI_add, z_rem (by omega) (by decide : 0 < 12) (by decide), pk_mul, nI_add, pk_div (by omega) (by decide) (by decide), nI_add, pk_sub (by omega), z_rem (by omega : Y < 2 ^ 31) (by decide : 0 < 400) (by decide), pk_div (by omega : Y < 2 ^ 31) (by decide : 0 < 400) (by decide), pk_mul, pk_mul, nI_add, pk_div (by omega) (by decide) (by decide), nI_add, pk_div (by omega) (by decide) (by decide), pk_sub (by omega)]
  intro y1 ey
  subst ey
  have hc := qEra_c (k - 10) (by omega) m h3
  rw [show 2000 + (k - 10) = 1990 + k by omega, show 10 + (k - 10) = k by omega, ← qYd_c k (by omega), ← qMd_c _ m h3] at hc
  unfold qEra at hc
  dsimp only at hc
  rw [hY] at hc
  rw [nI_add, pk_sub (by omega), e]
  refine congrArg (fun z => ((Except.ok (nI z), σ) : sj_R)) ?_
  omega
theorem z_dateAt (ok : sj_ok G) {k m d : Nat} (hk : k < 114) (hm : m < 12) (hd : d < qMl (1990 + k) (m + 1)) : sj_C G 2 me_X10_dateAt [.ref (sj_ad G 50), .int (nI (qYd k + qMd (1990 + k) m + d + 7305))] σ (.ok (nI (10000 * (1990 + k) + 100 * (m + 1) + d + 1)), σ) := by
  obtain ⟨hc, ho⟩ := qAt_c hk hm hd
  have hA : qYd k + qMd (1990 + k) m + d + 7305 < 100000 := by
    have h1 := (qMl_le (1990 + k) (m + 1)).2
    have h2 : qMd (1990 + k) m ≤ 31 * m := zSumN_le m (fun i _ => (qMl_le _ _).2)
    have h3 : qYd k ≤ 366 * k := zSumN_le k (fun i _ => by unfold qYl; split <;> omega)
    omega
  refine c_X10_dateAt ok ?_
  unfold wp_X10_dateAt_0
  rw [nI_add, show qYd k + qMd (1990 + k) m + d + 7305 + 719468 = qYd k + qMd (1990 + k) m + d + 726773 by omega]
  generalize hN : qYd k + qMd (1990 + k) m + d + 726773 = A at hc ho ⊢
  have hA : A < 900000 := by omega
  unfold qAt at hc
  dsimp only at hc
  unfold qOk at ho
  dsimp only at ho
  rw [decide_eq_true_eq] at ho
  rw [z_rem (by omega : A < 2 ^ 31) (by decide : 0 < 146097) (by decide)]
  have he : A % 146097 < 146097 := Nat.mod_lt _ (by decide)
  generalize A % 146097 = e at hc he ho ⊢
  rw [pk_div (by omega : e < 2 ^ 31) (by decide : 0 < 1460) (by decide), pk_div (by omega : e < 2 ^ 31) (by decide : 0 < 36524) (by decide), pk_div (by omega : e < 2 ^ 31) (by decide : 0 < 146096) (by decide), pk_sub (by omega), nI_add, pk_sub (by omega), pk_div (by omega) (by decide) (by decide)]
  have hyo : (e - e / 1460 + e / 36524 - e / 146096) / 365 < 500 := by omega
  generalize (e - e / 1460 + e / 36524 - e / 146096) / 365 = yo at hc hyo ho ⊢
  intro y1 e1
  subst e1
  rw [pk_mul, pk_div (by omega) (by decide) (by decide), nI_add, pk_div (by omega) (by decide) (by decide), pk_sub (by omega), pk_sub ho]
  have hiy : e - (365 * yo + yo / 4 - yo / 100) < 200000 := by omega
  generalize e - (365 * yo + yo / 4 - yo / 100) = iy at hc hiy ⊢
  intro y2 e2
  subst e2
  rw [pk_mul, nI_add, pk_div (by omega) (by decide) (by decide)]
  have hmm : (153 * ((5 * iy + 2) / 153) + 2) / 5 ≤ iy + 1 := by omega
  have hmx : (5 * iy + 2) / 153 < 10000 := by omega
  generalize hmm' : (5 * iy + 2) / 153 = mm at hc hmm hmx ⊢
  have hmm2 : (153 * mm + 2) / 5 ≤ iy := by omega
  have em : (if nI 10 ≤ nI mm then nI mm - nI 9 else nI mm + nI 3) = nI (if 10 ≤ mm then mm - 9 else mm + 3) := by
    by_cases q : 10 ≤ mm
    · rw [if_pos (nI_le q (by omega)), if_pos q, pk_sub (by omega)]
    · rw [if_neg (nI_ge (by omega) (by omega)), if_neg q, nI_add]
  rw [em]
  have hmo : (if 10 ≤ mm then mm - 9 else mm + 3) < 10004 := by split <;> omega
  generalize (if 10 ≤ mm then mm - 9 else mm + 3) = mo at hc hmo ⊢
  unfold wp_X10_dateAt_102 wp_X10_dateAt_126
  have ez : (if nI 2 < nI mo then nI 0 else nI 1) = nI (if 2 < mo then 0 else 1) := by
    by_cases q : 2 < mo
    · rw [if_pos (nI_lt q (by omega)), if_pos q]
    · rw [if_neg (nI_nlt (by omega) (by omega)), if_neg q]
  have d1 : nI A / nI 146097 = nI (A / 146097) := pk_div (by omega) (by decide) (by decide)
  have d2 : nI (153 * mm + 2) / nI 5 = nI ((153 * mm + 2) / 5) := pk_div (by omega) (by decide) (by decide)
  have d3 : nI iy - nI ((153 * mm + 2) / 5) = nI (iy - (153 * mm + 2) / 5) := pk_sub hmm2
  simp only [ez, d1, pk_mul, nI_add, d2, d3]
  rw [hc]
theorem q_date {N : Nat} (h : N < 41600) : ∃ k m d, k < 114 ∧ m < 12 ∧ d < qMl (1990 + k) (m + 1) ∧ N = qYd k + qMd (1990 + k) m + d := by
  have h114 : 41600 ≤ qYd 114 := by decide +kernel
  obtain ⟨k, r, h1, h2, h3⟩ := zSumN_find (f := fun i => qYl (1990 + i)) 114 N (Nat.lt_of_lt_of_le h h114)
  have h3 : r < qYl (1990 + k) := h3
  rw [qYl_md] at h3
  obtain ⟨m, d, g1, g2, g3⟩ := zSumN_find (f := fun i => qMl (1990 + k) (i + 1)) 12 r h3
  exact ⟨k, m, d, h1, g1, g3, by rw [h2, g2, ← Nat.add_assoc]; rfl⟩
theorem z_floorMod (ok : sj_ok G) {a : Nat} (ha : a < 2 ^ 30) : sj_C G 2 me_J9_floorMod_7cf53 [.int (nI a), .int (nI 7)] σ (.ok (nI (a % 7)), σ) := by
  refine c_J9_floorMod_7cf53 ok ⟨by decide, fun _ => ?_, fun h => ?_⟩
  · rw [z_rem (by omega) (by decide) (by decide)]
    rfl
  · have h1 : a ^^^ 7 < 2 ^ 30 := Nat.xor_lt_two_pow ha (by decide)
    rw [nx_xor] at h
    exact absurd (nI_pos' (by omega)) h
theorem z_weekday (ok : sj_ok G) {N : Nat} (hN : N < 100000) : sj_C G 3 me_X10_weekday [.ref (sj_ad G 50), .int (nI (N + 7305))] σ (.ok (nI (N % 7)), σ) := by
  refine c_X10_weekday ok ?_
  unfold wp_X10_weekday_0
  rw [pk_sub (by omega)]
  refine ⟨_, _, z_floorMod ok (by omega), ?_⟩
  rw [show (N + 7305 - 4) % 7 = N % 7 by omega]
theorem z_requireDate0 (ok : sj_ok G) {n : Nat} (hn : n < 2 ^ 31) (h : qDt n) : sj_C G 9 me_X11_requireDate [.ref (sj_ad G 0), .int (nI n)] σ (.ok (nI (qDay n + 7305)), σ) :=
  c_X11_requireDate ok ⟨_, _, (z_isDateN ok hn).1 h, fun _ => ⟨_, _, z_serialOf ok hn h, rfl⟩, fun q => absurd q z_10⟩
theorem z_requireDate1 (ok : sj_ok G) {x : Int32} (h : x < 0 ∨ ∃ n, n < 2 ^ 31 ∧ x = nI n ∧ ¬ qDt n) : sj_C G 9 me_X11_requireDate [.ref (sj_ad G 0), .int x] σ (.error 1, σ) :=
  c_X11_requireDate ok ⟨_, _, z_isDate0 ok h, fun q => absurd nI_0 q, fun _ => rfl⟩
end ZDT
