/-! P59, THE CLASS ALONE 5: the year -/
/-- the date of a day -/
def kDn (N : Nat) : Nat := qAt (N + 726773)
theorem k_dn {N : Nat} (h : 3652 ≤ N) (h2 : N < 40000) : ∃ k m d, k < 114 ∧ m < 12 ∧ d < qMl (1990 + k) (m + 1) ∧ N = qYd k + qMd (1990 + k) m + d ∧ kDn N = 10000 * (1990 + k) + 100 * (m + 1) + d + 1 ∧ kDn N < 2 ^ 31 ∧ qDt (kDn N) ∧ qDay (kDn N) = N := by
  obtain ⟨k, m, d, h3, h4, h5, e⟩ := q_date (N := N) (by omega)
  have ea := (qAt_c h3 h4 h5).1
  have b := (qMl_le (1990 + k) (m + 1)).2
  have g10 : qYd 10 = 3652 := by decide +kernel
  have g110 : 40000 ≤ qYd 110 := by decide +kernel
  have k10 : 10 ≤ k := by
    apply Classical.byContradiction
    intro q
    have a1 : qYd (k + 1) ≤ qYd 10 := zSumN_mono 10 (by omega)
    have a2 : qYd (k + 1) = qYd k + qYl (1990 + k) := rfl
    have a3 : qMd (1990 + k) (m + 1) ≤ qMd (1990 + k) 12 := zSumN_mono 12 (by omega)
    have a4 : qMd (1990 + k) (m + 1) = qMd (1990 + k) m + qMl (1990 + k) (m + 1) := rfl
    rw [qYl_md] at a2
    omega
  have k110 : k < 110 := by
    apply Classical.byContradiction
    intro q
    have a1 : qYd 110 ≤ qYd k := zSumN_mono k (by omega)
    omega
  have en : kDn N = 10000 * (1990 + k) + 100 * (m + 1) + d + 1 := by
    unfold kDn
    rw [e, ea]
  have f1 : kDn N / 10000 = 1990 + k := by omega
  have f2 : kDn N / 100 % 100 = m + 1 := by omega
  have f3 : kDn N % 100 = d + 1 := by omega
  refine ⟨k, m, d, h3, h4, h5, e, en, by omega, ⟨by omega, by omega, by omega, by omega, by omega, ?_⟩, ?_⟩
  · rw [f1, f2, f3]
    exact h5
  · unfold qDay
    rw [f1, f2, f3, show 1990 + k - 1990 = k by omega, show m + 1 - 1 = m by omega]
    omega
theorem kDn_lt {a b : Nat} (ha : 3652 ≤ a) (hab : a < b) (hb : b < 40000) : kDn a < kDn b := by
  obtain ⟨-, -, -, -, -, -, -, -, -, q1, q2⟩ := k_dn ha (by omega)
  obtain ⟨-, -, -, -, -, -, -, -, -, q3, q4⟩ := k_dn (N := b) (by omega) hb
  have := qDay_lt q3 q1
  rw [q2, q4] at this
  omega
section K5
variable {G : sj_G} {σ : sj_S} {B y0 h : Nat} {f g : Nat → Nat}
theorem k_reqDate (ok : sj_ok G) {N : Nat} (h : 3652 ≤ N) (h2 : N < 40000) : sj_C G 9 me_X11_requireDate [.ref (sj_ad G 0), .int (nI (kDn N))] σ (.ok (nI (N + 7305)), σ) := by
  obtain ⟨-, -, -, -, -, -, -, -, q, q1, q2⟩ := k_dn h h2
  have := z_requireDate0 (σ := σ) ok q q1
  rw [q2] at this
  exact this
theorem k_dateAt (ok : sj_ok G) {N : Nat} (h : 3652 ≤ N) (h2 : N < 40000) : sj_C G 2 me_X10_dateAt [.ref (sj_ad G 50), .int (nI (N + 7305))] σ (.ok (nI (kDn N)), σ) := by
  obtain ⟨k, m, d, h3, h4, h5, e, en, -, -, -⟩ := k_dn h h2
  have := z_dateAt (σ := σ) ok h3 h4 h5
  rw [← e, ← en] at this
  exact this
theorem k_dayOfWeek (ok : sj_ok G) {N : Nat} (h : 3652 ≤ N) (h2 : N < 40000) : sj_C G 10 me_X11_dayOfWeek [.ref (sj_ad G 0), .int (nI (kDn N))] σ (.ok (nI (N % 7)), σ) :=
  c_X11_dayOfWeek ok (Or.inl ⟨_, _, k_reqDate ok h h2, _, _, z_weekday ok (by omega), rfl⟩)
theorem k_later (ok : sj_ok G) {N j : Nat} (h : 3652 ≤ N) (h2 : N < 40000) (hj : j ≤ 2000) (h3 : 4652 ≤ N + j) (h4 : N + j < 41000) : sj_C G 10 me_X11_later [.ref (sj_ad G 0), .int (nI (kDn N)), .int (nI j - nI 1000)] σ (.ok (nI (kDn (N + j - 1000))), σ) := by
  have b1 : ¬ (nI j - nI 1000) < -1000 := by
    rw [Int32.lt_iff_toInt_lt, pk_sub_toInt (by omega) (by decide), show (-1000 : Int32).toInt = -1000 by decide]
    omega
  have b2 : (nI j - nI 1000) ≤ nI 1000 := by
    rw [Int32.le_iff_toInt_le, pk_sub_toInt (by omega) (by decide), nI_toInt (by decide)]
    omega
  refine c_X11_later ok (Or.inl ⟨_, _, k_reqDate ok h h2, Or.inl ⟨_, z_between0 ok b1 b2, ?_⟩⟩)
  rw [z_addpm (by omega), show N + 7305 + j - 1000 = N + j - 1000 + 7305 by omega]
  exact ⟨_, _, k_dateAt ok (by omega) (by omega), rfl⟩
theorem k_laterP (ok : sj_ok G) {N p : Nat} (h : 3652 ≤ N) (hp : p ≤ 1000) (h4 : N + p < 40000) : sj_C G 10 me_X11_later [.ref (sj_ad G 0), .int (nI (kDn N)), .int (nI p)] σ (.ok (nI (kDn (N + p))), σ) := by
  have := k_later (σ := σ) (N := N) (j := p + 1000) ok h (by omega) (by omega) (by omega) (by omega)
  rw [pk_sub (by omega), show p + 1000 - 1000 = p by omega, show N + (p + 1000) - 1000 = N + p by omega] at this
  exact this
theorem k_setYear (ok : sj_ok G) (hY : zYr σ B y0 h f g) {N : Nat} (h1 : 3652 ≤ N) (h2 : N < 40000) (h7 : N % 7 = 0) : ∃ τ, sj_C G 10 me_X11_setYear [.ref (sj_ad G 0), .int (nI (kDn N))] σ (.ok (nI y0), τ) ∧ zYr τ N (kDn N) 0 f g ∧ ∀ b, b ≠ 50 → b ≠ 51 → τ b = σ b := by
  obtain ⟨-, -, -, -, -, -, -, -, q0, q1, q2⟩ := k_dn h1 h2
  have hb := z_beginAt (x := nI (N + 7305)) ok hY
  generalize eτ : sj_up (sj_st (sj_st σ 50 1 (nI (N + 7305))) 50 2 (nI 0)) 51 (fun i => if i < 280 then nI 0 else σ 51 i) = τ at hb
  have hw := z_weekday (σ := σ) (N := N) ok (by omega)
  rw [h7] at hw
  have hτ : ∀ b, b ≠ 50 → b ≠ 51 → τ b = σ b := fun b h1 h2 => by rw [← eτ, z_upn h2, z_stn h1, z_stn h1]
  have t1 : τ 50 1 = nI (N + 7305) := by rw [← eτ, z_upn (by decide), z_sti (by decide), z_ste]
  have t2 : τ 50 2 = nI 0 := by rw [← eτ, z_upn (by decide), z_ste]
  have t51 : ∀ p, p < 280 → τ 51 p = nI 0 := fun p hp => by
    rw [← eτ, sj_up_s]
    exact if_pos hp
  exact ⟨τ, c_X11_setYear ok (Or.inl ⟨_, _, k_reqDate ok h1 h2, _, _, hw, fun _ => ⟨_, _, hb, rfl⟩, fun q => absurd nI_0 q⟩), ⟨q1, q0, q2, h7, by decide, t1, t2, trivial, trivial, fun k hk => absurd hk (Nat.not_lt_zero k), fun p hp => t51 p hp⟩, hτ⟩
theorem k_holiday (ok : sj_ok G) (hY : zYr σ B y0 h f g) (h10 : h < 10) {a b : Nat} (h1 : 3652 ≤ a) (hab : a ≤ b) (h2 : b < 40000) : ∃ τ f' g', sj_C G 10 me_X11_holiday [.ref (sj_ad G 0), .int (nI (kDn a)), .int (nI (kDn b))] σ (.ok (nI (h + 1)), τ) ∧ zYr τ B y0 (h + 1) f' g' ∧ ∀ b, b ≠ 50 → b ≠ 51 → τ b = σ b := by
  have hb2 : σ 50 2 = nI h := hY.2.2.2.2.2.2.1
  have hc := z_addHoliday (F := a) (L := b) ok hY (by omega) (by omega)
  generalize eτ : sj_st (sj_up σ 51 (fun i => if a ≤ B + i ∧ i < 280 ∧ B + i ≤ b then nI 1 else σ 51 i)) 50 2 (nI (h + 1)) = τ at hc
  have hτ : ∀ b, b ≠ 50 → b ≠ 51 → τ b = σ b := fun b h1 h2 => by rw [← eτ, z_stn h1, z_upn h2]
  have t1 : τ 50 1 = σ 50 1 := by rw [← eτ, z_sti (by decide), z_upn (by decide)]
  have t2 : τ 50 2 = nI (h + 1) := by rw [← eτ, z_ste]
  have t51 : ∀ p, p < 280 → τ 51 p = if a ≤ B + p ∧ p < 280 ∧ B + p ≤ b then nI 1 else σ 51 p := fun p hp => by
    rw [← eτ, z_stn (by decide), sj_up_s]
  refine ⟨τ, fun k => if k = h then a else f k, fun k => if k = h then b else g k, c_X11_holiday ok (Or.inl ⟨_, _, k_reqDate ok h1 (by omega), Or.inl ⟨_, _, k_reqDate ok (by omega) h2, fun _ => ⟨fun _ => ⟨_, _, hc, rfl⟩, fun q => ?_⟩, fun q => absurd (nI_le (by omega) (by omega)) q⟩⟩), ⟨hY.1, hY.2.1, hY.2.2.1, hY.2.2.2.1, by omega, by rw [t1]; exact hY.2.2.2.2.2.1, t2, trivial, trivial, fun k hk => ?_, fun p hp => ?_⟩, hτ⟩
  · rw [hb2] at q
    exact absurd (nI_lt h10 (by decide)) q
  · by_cases r : k = h
    · simp only [r, if_true]
      exact ⟨trivial, trivial, by omega, by omega⟩
    · simp only [r, if_false]
      exact hY.2.2.2.2.2.2.2.2.2.1 k (by omega)
  · rw [t51 p hp, hY.2.2.2.2.2.2.2.2.2.2 p hp]
    have e9 : zHo (fun k => if k = h then a else f k) (fun k => if k = h then b else g k) (B + p) (h + 1) = (zHo f g (B + p) h || (decide (a ≤ B + p) && decide (B + p ≤ b))) := by
      show (zHo (fun k => if k = h then a else f k) (fun k => if k = h then b else g k) (B + p) h || (decide ((if h = h then a else f h) ≤ B + p) && decide (B + p ≤ (if h = h then b else g h)))) = _
      rw [if_pos rfl, if_pos rfl, zHo_congr h (fun k hk => ⟨if_neg (by omega), if_neg (by omega)⟩)]
    rw [e9]
    by_cases r : a ≤ B + p ∧ B + p ≤ b
    · rw [if_pos ⟨r.1, hp, r.2⟩, decide_eq_true r.1, decide_eq_true r.2]
      simp
    · rw [if_neg (by omega), show (decide (a ≤ B + p) && decide (B + p ≤ b)) = false by rw [Bool.and_eq_false_iff, decide_eq_false_iff_not, decide_eq_false_iff_not]; omega, Bool.or_false]
theorem k_schoolDays (ok : sj_ok G) (hY : zYr σ B y0 h f g) : sj_C G 4 me_X11_schoolDays [.ref (sj_ad G 0)] σ (.ok (nI (q_cnt (zSd B h f g) 280)), σ) := by
  have hc := z_daysBetween (a := 0) (b := 280) ok hY (by omega) (by omega)
  have e : q_cnt (fun i => zSd B h f g (0 + i)) (280 - 0) = q_cnt (zSd B h f g) 280 := q_cnt_congr _ (fun i _ => by rw [Nat.zero_add])
  rw [e] at hc
  exact c_X11_schoolDays ok ⟨_, _, hc, rfl⟩
theorem k_dateOf (ok : sj_ok G) (hY : zYr σ B y0 h f g) (hB2 : B < 39000) {t : Nat} (ht : t < 280) (st : zSd B h f g t = true) : sj_C G 9 me_X11_dateOf [.ref (sj_ad G 0), .int (nI (q_cnt (zSd B h f g) t))] σ (.ok (nI (kDn (B + t))), σ) := by
  have hB := zYr_B hY
  have hb1 : σ 50 1 = nI (B + 7305) := hY.2.2.2.2.2.1
  have hsd : ∀ i, i < 280 → sj_C G 2 me_X10_isSchoolDay [.ref (sj_ad G 50), .int (nI i)] σ (.ok (if zSd B h f g i then nI 1 else nI 0), σ) := fun i hi => z_isSchoolDay ok hY hi
  generalize zSd B h f g = S at st hsd ⊢
  have hS : ∀ i, q_cnt S (i + 1) = q_cnt S i + (if S i then 1 else 0) := fun i => rfl
  have hle : q_cnt S t ≤ t := q_cnt_le _ t
  obtain ⟨m, em⟩ : ∃ m, m = q_cnt S t := ⟨_, rfl⟩
  rw [← em] at hle ⊢
  refine c_X11_dateOf ok ?_
  unfold wp_X11_dateOf_0
  have key : ∀ j i, i + j = t → sj_J G 9 me_X11_dateOf (.ok (nI (kDn (B + t))), σ) 4 [.ref (sj_ad G 0), .null, .int (nI (m - q_cnt S i)), .int (nI i)] σ [] := by
    intro j
    induction j with
    | zero =>
      intro i hi
      have : i = t := by omega
      subst this
      refine t_X11_dateOf_4 ⟨fun q => absurd q (nI_ge (by omega) (by decide)), fun _ => ⟨fun q => absurd q (nI_pos (by omega)), fun _ => ⟨_, _, hsd i (by omega), fun q => ?_, fun _ => ⟨fun q => ?_, fun _ => ?_⟩⟩⟩⟩
      · rw [st] at q; exact absurd q z_10
      · rw [← em, Nat.sub_self] at q; exact absurd nI_0 q
      · rw [hb1, nI_add, show B + 7305 + i = B + i + 7305 by omega]
        exact ⟨_, _, k_dateAt ok (by omega) (by omega), rfl⟩
    | succ j ih =>
      intro i hi
      have h1 := ih (i + 1) (by omega)
      have hmn : q_cnt S (i + 1) ≤ q_cnt S t := q_cnt_mono t (by omega)
      have hS1 := hS i
      refine t_X11_dateOf_4 ⟨fun q => absurd q (nI_ge (by omega) (by decide)), fun _ => ⟨fun q => absurd q (nI_pos (by omega)), fun _ => ⟨_, _, hsd i (by omega), fun q => ?_, fun q => ⟨fun _ => ?_, fun q2 => ?_⟩⟩⟩⟩
      · unfold wp_X11_dateOf_50
        cases hs : S i
        · rw [hs, if_neg (by decide)] at hS1
          rw [nI_add, show q_cnt S i = q_cnt S (i + 1) by omega]
          exact h1
        · rw [hs] at q; exact absurd q z_10
      · unfold wp_X11_dateOf_50
        cases hs : S i
        · rw [hs] at q; exact absurd nI_0 q
        · rw [hs, if_pos rfl] at hS1
          rw [nI_add, show m - q_cnt S i = m - q_cnt S (i + 1) + 1 by omega, pk_m1]
          exact h1
      · cases hs : S i
        · rw [hs] at q; exact absurd nI_0 q
        · rw [hs, if_pos rfl] at hS1
          rw [z_eq0 (by omega)] at q2
          omega
  have h0 := key t 0 (by omega)
  rw [show m - q_cnt S 0 = m from Nat.sub_zero m] at h0
  exact h0
theorem k_numberOf (ok : sj_ok G) (hY : zYr σ B y0 h f g) (hB2 : B < 39000) {t : Nat} (ht : t < 280) (st : zSd B h f g t = true) : sj_C G 10 me_X11_numberOf [.ref (sj_ad G 0), .int (nI (kDn (B + t)))] σ (.ok (nI (q_cnt (zSd B h f g) t)), σ) := by
  have hB := zYr_B hY
  have hb1 : σ 50 1 = nI (B + 7305) := hY.2.2.2.2.2.1
  have hsd := z_isSchoolDay ok hY ht
  rw [st] at hsd
  have hdb := z_daysBetween (a := 0) (b := t) ok hY (by omega) (by omega)
  have e : q_cnt (fun i => zSd B h f g (0 + i)) (t - 0) = q_cnt (zSd B h f g) t := q_cnt_congr _ (fun i _ => by rw [Nat.zero_add])
  rw [e] at hdb
  refine c_X11_numberOf ok (Or.inl ⟨_, _, k_reqDate ok (by omega) (by omega), ?_⟩)
  rw [hb1, pk_sub (by omega), show B + t + 7305 - (B + 7305) = t by omega]
  exact ⟨_, _, hsd, fun q => absurd q z_10, fun _ => ⟨_, _, hdb, rfl⟩⟩
theorem k_nextDay (ok : sj_ok G) (hY : zYr σ B y0 h f g) (hB2 : B < 39000) {a t : Nat} (hat : a < t) (ht : t < 280) (st : zSd B h f g t = true) (hno : ∀ i, a < i → i < t → zSd B h f g i = false) : sj_C G 10 me_X11_nextDay [.ref (sj_ad G 0), .int (nI (kDn (B + a)))] σ (.ok (nI (kDn (B + t))), σ) := by
  have hB := zYr_B hY
  have hb1 : σ 50 1 = nI (B + 7305) := hY.2.2.2.2.2.1
  have hsd : ∀ i, i < 280 → sj_C G 2 me_X10_isSchoolDay [.ref (sj_ad G 50), .int (nI i)] σ (.ok (if zSd B h f g i then nI 1 else nI 0), σ) := fun i hi => z_isSchoolDay ok hY hi
  generalize zSd B h f g = S at st hsd hno
  have key : ∀ j i, i + j = t → a + 1 ≤ i → sj_J G 10 me_X11_nextDay (.ok (nI (kDn (B + t))), σ) 22 [.ref (sj_ad G 0), .null, .null, .int (nI i)] σ [] := by
    intro j
    induction j with
    | zero =>
      intro i hi hs
      have : i = t := by omega
      subst this
      refine t_X11_nextDay_22 ⟨fun q => absurd q (nI_ge (by omega) (by decide)), fun _ => ⟨_, _, hsd i ht, fun q => ?_, fun _ => ?_⟩⟩
      · rw [st] at q; exact absurd q z_10
      · rw [hb1, nI_add, show B + 7305 + i = B + i + 7305 by omega]
        exact ⟨_, _, k_dateAt ok (by omega) (by omega), rfl⟩
    | succ j ih =>
      intro i hi hs
      refine t_X11_nextDay_22 ⟨fun q => absurd q (nI_ge (by omega) (by decide)), fun _ => ⟨_, _, hsd i (by omega), fun _ => ?_, fun q => ?_⟩⟩
      · rw [nI_add]
        exact ih (i + 1) (by omega) (by omega)
      · rw [hno i (by omega) (by omega)] at q; exact absurd nI_0 q
  refine c_X11_nextDay ok (Or.inl ⟨_, _, k_reqDate ok (by omega) (by omega), ?_⟩)
  rw [hb1, z_behind (N := B + a) (by omega) hB, show B + a + 1 - B = a + 1 by omega]
  exact key (t - (a + 1)) (a + 1) (by omega) (Nat.le_refl _)
theorem k_weekOf (ok : sj_ok G) (hY : zYr σ B y0 h f g) (hB2 : B < 39000) {t : Nat} (ht : t < 280) :
    sj_C G 11 me_X11_weekOf [.ref (sj_ad G 0), .int (nI (kDn (B + t))), .int (nI 0)] σ (.ok (nI (t / 7)), σ) ∧
    sj_C G 11 me_X11_weekOf [.ref (sj_ad G 0), .int (nI (kDn (B + t))), .int (nI 1)] σ (.ok (zLt B h f g (t / 7)), σ) ∧
    sj_C G 11 me_X11_weekOf [.ref (sj_ad G 0), .int (nI (kDn (B + t))), .int (nI 2)] σ (.ok (nI (zWk B h f g (t / 7))), σ) := by
  have hB := zYr_B hY
  have hb1 : σ 50 1 = nI (B + 7305) := hY.2.2.2.2.2.1
  have hw : t / 7 < 40 := by omega
  have e1 : nI (B + t + 7305) - nI (B + 7305) = nI t := by rw [pk_sub (by omega), show B + t + 7305 - (B + 7305) = t by omega]
  have e2 : nI t / nI 7 = nI (t / 7) := pk_div (by omega) (by decide) (by decide)
  have nneg : ¬ nI t < 0 := nI_pos (by omega)
  have hlt : nI t < nI 280 := nI_lt (by omega) (by decide)
  have hdb := z_daysBetween (a := t / 7 * 7) (b := t / 7 * 7 + 7) ok hY (by omega) (by omega)
  rw [show t / 7 * 7 + 7 - t / 7 * 7 = 7 by omega] at hdb
  refine ⟨c_X11_weekOf ok (Or.inl ⟨_, _, k_reqDate ok (by omega) (by omega), Or.inl ⟨_, z_range0 ok (j := 0) (by decide) (by decide), ?_⟩⟩), c_X11_weekOf ok (Or.inl ⟨_, _, k_reqDate ok (by omega) (by omega), Or.inl ⟨_, z_range0 ok (j := 1) (by decide) (by decide), ?_⟩⟩), c_X11_weekOf ok (Or.inl ⟨_, _, k_reqDate ok (by omega) (by omega), Or.inl ⟨_, z_range0 ok (j := 2) (by decide) (by decide), ?_⟩⟩)⟩
  · rw [hb1, e1, e2]
    exact ⟨fun q => absurd q nneg, fun _ => ⟨fun _ => ⟨fun q => absurd nI_0 q, fun _ => rfl⟩, fun q => absurd hlt q⟩⟩
  · rw [hb1, e1, e2]
    exact ⟨fun q => absurd q nneg, fun _ => ⟨fun _ => ⟨fun _ => ⟨fun q => absurd rfl q, fun _ => ⟨_, _, z_letterOf ok hY hw, rfl⟩⟩, fun q => absurd q z_10⟩, fun q => absurd hlt q⟩⟩
  · rw [hb1, e1, e2, pk_mul, nI_add]
    exact ⟨fun q => absurd q nneg, fun _ => ⟨fun _ => ⟨fun _ => ⟨fun _ => ⟨_, _, hdb, rfl⟩, fun q => absurd q (by decide)⟩, fun q => absurd q (by decide)⟩, fun q => absurd hlt q⟩⟩
theorem k_weekOfB (ok : sj_ok G) (hY : zYr σ B y0 h f g) (hB2 : B < 39000) : sj_C G 11 me_X11_weekOf [.ref (sj_ad G 0), .int (nI (kDn (B + 280))), .int (nI 0)] σ (.ok (-1), σ) := by
  have hB := zYr_B hY
  have hb1 : σ 50 1 = nI (B + 7305) := hY.2.2.2.2.2.1
  refine c_X11_weekOf ok (Or.inl ⟨_, _, k_reqDate ok (by omega) (by omega), Or.inl ⟨_, z_range0 ok (j := 0) (by decide) (by decide), ?_⟩⟩)
  rw [hb1, pk_sub (by omega), show B + 280 + 7305 - (B + 7305) = 280 by omega]
  exact ⟨fun _ => rfl, fun _ => ⟨fun q => absurd q (nI_nlt (by decide) (by decide)), fun _ => rfl⟩⟩
end K5
