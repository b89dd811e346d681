/-! YEAR, PAIRS: schoolDays, dateOf, numberOf, nextDay, weekOf, dayOfWeek, later -/
theorem q_cnt_find {S : Nat → Bool} {m : Nat} : ∀ n, m < q_cnt S n → ∃ i, i < n ∧ S i = true ∧ q_cnt S i = m := by
  intro n
  induction n with
  | zero => intro h; exact absurd h (Nat.not_lt_zero m)
  | succ n ih =>
    intro h
    have h : m < q_cnt S n + (if S n then 1 else 0) := h
    by_cases q : m < q_cnt S n
    · obtain ⟨i, h1, h2⟩ := ih q
      exact ⟨i, by omega, h2⟩
    · cases hs : S n
      · rw [hs, if_neg (by decide)] at h; omega
      · rw [hs, if_pos rfl] at h
        exact ⟨n, by omega, hs, by omega⟩
theorem q_cnt_mono {S : Nat → Bool} {i : Nat} : ∀ j, i ≤ j → q_cnt S i ≤ q_cnt S j := by
  intro j
  induction j with
  | zero => intro h; rw [show i = 0 by omega]; exact Nat.le_refl _
  | succ j ih =>
    intro h
    by_cases q : i = j + 1
    · rw [q]; exact Nat.le_refl _
    · have h1 := ih (by omega)
      show q_cnt S i ≤ q_cnt S j + (if S j then 1 else 0)
      omega
section ZYP
variable {G : sj_G} {σ : sj_S} {B y0 h : Nat} {f g : Nat → Nat}
theorem y_dayY (ok : sj_ok G) (hY : zYr σ B y0 h f g) : sj_C G 4 me_X12_dayOf [.int (σ 56 21)] σ (.ok (nI B), σ) := by
  have hdo := y_dayOf (σ := σ) ok hY.2.1 hY.1
  rw [hY.2.2.1, ← hY.2.2.2.2.2.2.2.1] at hdo
  exact hdo
theorem zDate2 (ok : sj_ok G) {N : Nat} (hN : N < 41600) : ∃ w, (∀ τ, sj_C G 2 me_X10_dateAt [.ref (sj_ad G 50), .int (nI (N + 7305))] τ (.ok w, τ)) ∧ ∀ τ, sj_C G 4 me_X12_dateOfDay [.int (nI N)] τ (.ok w, τ) := by
  obtain ⟨k, m, d, h1, h2, h3, e⟩ := q_date hN
  subst e
  exact ⟨_, fun τ => z_dateAt ok h1 h2 h3, fun τ => y_dateOfDay ok h1 h2 h3⟩
theorem p_schoolDays (ok : sj_ok G) (hA : zA σ) (hR : zYR σ) : zPair G (zI2 σ) 4 me_X11_schoolDays 8 me_X12_schoolDays [] (zcd 0 0 0) σ := by
  obtain ⟨B, y0, h, f, g, hY⟩ := hR
  have hY0 : zYr (sj_st σ 56 0 (nI 0)) B y0 h f g := zYr_th hY
  have hc := z_daysBetween (a := 0) (b := 280) ok hY (by omega) (by omega)
  have e : q_cnt (fun i => zSd B h f g (0 + i)) (280 - 0) = q_cnt (zSd B h f g) 280 := q_cnt_congr 280 (fun i _ => by rw [Nat.zero_add])
  rw [e] at hc
  have hm : sj_C G 8 me_X12_schoolDays [.ref (sj_ad G 56)] σ (.ok (nI (q_cnt (zSd B h f g) 280)), sj_st σ 56 0 (nI 0)) := by
    refine c_X12_schoolDays ok ?_
    unfold wp_X12_schoolDays_0
    have hd := y_dayY ok hY0
    rw [show (sj_st σ 56 0 (nI 0)) 56 21 = σ 56 21 from z_sti (by decide)] at hd
    refine ⟨_, _, hd, ?_⟩
    rw [nI_add]
    exact ⟨_, _, y_ahead ok hY0 (by omega), rfl⟩
  exact ⟨_, _, _, _, c_X11_schoolDays ok ⟨_, _, hc, rfl⟩, hm, zSame_ok z_ste rfl, zI2_th hA⟩
theorem p_dateOf (ok : sj_ok G) (hA : zA σ) (hR : zYR σ) (x : Int32) : zPair G (zI2 σ) 9 me_X11_dateOf 8 me_X12_dateOf [.int x] (zcd 3 0 0) σ := by
  obtain ⟨B, y0, h, f, g, hY⟩ := hR
  have hB := zYr_B hY
  have hY0 : zYr (sj_st σ 56 0 (nI 0)) B y0 h f g := zYr_th hY
  have hd := y_dayY ok hY0
  rw [show (sj_st σ 56 0 (nI 0)) 56 21 = σ 56 21 from z_sti (by decide)] at hd
  have hb1 : σ 50 1 = nI (B + 7305) := hY.2.2.2.2.2.1
  have hal := y_ahead (p := 280) ok hY0 (by omega)
  have hle : q_cnt (zSd B h f g) 280 ≤ 280 := q_cnt_le _ 280
  have hsd : ∀ i, i < 280 → sj_C G 2 me_X10_isSchoolDay [.ref (sj_ad G 50), .int (nI i)] σ (.ok (if zSd B h f g i then nI 1 else nI 0), σ) := fun i hi => z_isSchoolDay ok hY hi
  have hsm : ∀ i, i < 280 → sj_C G 6 me_X12_isSchoolDay [.ref (sj_ad G 56), .int (nI (B + i))] (sj_st σ 56 0 (nI 0)) (.ok (if zSd B h f g i then nI 1 else nI 0), (sj_st σ 56 0 (nI 0))) := fun i hi => y_isSchoolDay1 ok hY0 hi
  have ham : ∀ i, i < 280 → sj_C G 7 me_X12_ahead [.ref (sj_ad G 56), .int (nI (B + i))] (sj_st σ 56 0 (nI 0)) (.ok (nI (q_cnt (zSd B h f g) i)), (sj_st σ 56 0 (nI 0))) := fun i hi => y_ahead ok hY0 (by omega)
  generalize zSd B h f g = S at hal hle hsd hsm ham
  have hS : ∀ i, q_cnt S (i + 1) = q_cnt S i + (if S i then 1 else 0) := fun i => rfl
  have hbad : (∀ j, j < q_cnt S 280 → ¬ x = nI j) → sj_C G 9 me_X11_dateOf [.ref (sj_ad G 0), .int x] σ (.error 3, σ) → zPair G (zI2 σ) 9 me_X11_dateOf 8 me_X12_dateOf [.int x] (zcd 3 0 0) σ := fun hx hc => by
    have hm : sj_C G 8 me_X12_dateOf [.ref (sj_ad G 56), .int x] σ (.ok (nI 0), (sj_st (sj_st σ 56 0 (nI 0)) 56 0 (nI 1))) := by
      refine c_X12_dateOf ok ?_
      unfold wp_X12_dateOf_0
      refine ⟨_, _, hd, ?_⟩
      rw [nI_add]
      exact ⟨_, _, hal, _, _, y_inn0 ok hx (by omega), _, _, y_fails0 ok zT00 (by decide), fun q => absurd q z_10, fun _ => rfl⟩
    exact ⟨_, _, _, _, hc, hm, zSame_er (by decide) z_ste, zI2_th2 hA⟩
  by_cases hneg : x < 0
  · refine hbad (fun j hj e => ?_) ?_
    · rw [e] at hneg
      exact absurd hneg (nI_pos (by omega))
    · refine c_X11_dateOf ok (t_X11_dateOf_4 ⟨fun _ => rfl, fun _ => ⟨fun _ => rfl, fun q => absurd hneg q⟩⟩)
  · obtain ⟨m, hm, rfl⟩ := nI_of hneg
    by_cases hlt : m < q_cnt S 280
    · obtain ⟨t, ht, st, et⟩ := q_cnt_find 280 hlt
      obtain ⟨w, dc, dm⟩ := zDate2 ok (N := B + t) (by omega)
      have hc : sj_C G 9 me_X11_dateOf [.ref (sj_ad G 0), .int (nI m)] σ (.ok w, σ) := by
        refine c_X11_dateOf ok ?_
        unfold wp_X11_dateOf_0
        have key : ∀ j i, i + j = t → sj_J G 9 me_X11_dateOf (.ok w, σ) 4 [.ref (sj_ad G 0), .null, .int (nI (m - q_cnt S i)), .int (nI i)] σ [] := by
          intro j
          induction j with
          | zero =>
            intro i hi
            have : i = t := by omega
            subst this
            refine t_X11_dateOf_4 ⟨fun q => absurd q (nI_ge (by omega) (by decide)), fun _ => ⟨fun q => absurd q (nI_pos (by omega)), fun _ => ⟨_, _, hsd i (by omega), fun q => ?_, fun _ => ⟨fun q => ?_, fun _ => ?_⟩⟩⟩⟩
            · rw [st] at q; exact absurd q z_10
            · rw [et, Nat.sub_self] at q; exact absurd nI_0 q
            · rw [hb1, nI_add, show B + 7305 + i = B + i + 7305 by omega]
              exact ⟨_, _, dc σ, rfl⟩
          | succ j ih =>
            intro i hi
            have h1 := ih (i + 1) (by omega)
            have hmn : q_cnt S (i + 1) ≤ q_cnt S t := q_cnt_mono t (by omega)
            have hS1 := hS i
            refine t_X11_dateOf_4 ⟨fun q => absurd q (nI_ge (by omega) (by decide)), fun _ => ⟨fun q => absurd q (nI_pos (by omega)), fun _ => ⟨_, _, hsd i (by omega), fun q => ?_, fun q => ⟨fun _ => ?_, fun q2 => ?_⟩⟩⟩⟩
            · unfold wp_X11_dateOf_50
              cases hs : S i
              · rw [hs, if_neg (by decide)] at hS1
                rw [nI_add, show q_cnt S i = q_cnt S (i + 1) by omega]
                exact h1
              · rw [hs] at q; exact absurd q z_10
            · unfold wp_X11_dateOf_50
              cases hs : S i
              · rw [hs] at q; exact absurd nI_0 q
              · rw [hs, if_pos rfl] at hS1
                rw [nI_add, show m - q_cnt S i = m - q_cnt S (i + 1) + 1 by omega, pk_m1]
                exact h1
            · cases hs : S i
              · rw [hs] at q; exact absurd nI_0 q
              · rw [hs, if_pos rfl] at hS1
                rw [z_eq0 (by omega)] at q2
                omega
        exact key t 0 (by omega)
      have hmd : sj_C G 8 me_X12_dateOf [.ref (sj_ad G 56), .int (nI m)] σ (.ok w, sj_st σ 56 0 (nI 0)) := by
        refine c_X12_dateOf ok ?_
        unfold wp_X12_dateOf_0
        refine ⟨_, _, hd, ?_⟩
        rw [nI_add]
        refine ⟨_, _, hal, _, _, y_inn1 ok hlt (by omega), _, _, y_fails1 ok zT00, fun _ => ?_, fun q => absurd nI_0 q⟩
        rw [show (sj_st σ 56 0 (nI 0)) 56 21 = σ 56 21 from z_sti (by decide)]
        refine ⟨_, _, hd, ?_⟩
        have key : ∀ j i, i + j = t → sj_J G 8 me_X12_dateOf (.ok w, sj_st σ 56 0 (nI 0)) 45 [.ref (sj_ad G 56), .int (nI m), .int (nI (B + i))] (sj_st σ 56 0 (nI 0)) [] := by
          intro j
          induction j with
          | zero =>
            intro i hi
            have : i = t := by omega
            subst this
            refine t_X12_dateOf_45 ⟨_, _, hsm i (by omega), fun q => ?_, fun _ => ⟨_, _, ham i (by omega), fun _ => ⟨_, _, dm _, rfl⟩, fun q => ?_⟩⟩
            · rw [st] at q; exact absurd q z_10
            · rw [et] at q; exact absurd rfl q
          | succ j ih =>
            intro i hi
            have h1 := ih (i + 1) (by omega)
            have hmn : q_cnt S (i + 1) ≤ q_cnt S t := q_cnt_mono t (by omega)
            have hS1 := hS i
            refine t_X12_dateOf_45 ⟨_, _, hsm i (by omega), fun q => ?_, fun q => ⟨_, _, ham i (by omega), fun q2 => ?_, fun _ => ?_⟩⟩
            · unfold wp_X12_dateOf_62
              rw [nI_add]
              exact h1
            · cases hs : S i
              · rw [hs] at q; exact absurd nI_0 q
              · rw [hs, if_pos rfl] at hS1
                rw [nI_eq (by omega) (by omega)] at q2
                omega
            · unfold wp_X12_dateOf_62
              rw [nI_add]
              exact h1
        exact key t 0 (by omega)
      exact ⟨_, _, _, _, hc, hmd, zSame_ok z_ste rfl, zI2_th hA⟩
    · refine hbad (fun j hj e => ?_) ?_
      · rw [nI_eq (by omega) (by omega)] at e
        omega
      · refine c_X11_dateOf ok ?_
        unfold wp_X11_dateOf_0
        have key : ∀ j i, i + j = 280 → sj_J G 9 me_X11_dateOf (.error 3, σ) 4 [.ref (sj_ad G 0), .null, .int (nI (m - q_cnt S i)), .int (nI i)] σ [] := by
          intro j
          induction j with
          | zero =>
            intro i hi
            have : i = 280 := by omega
            subst this
            exact t_X11_dateOf_4 ⟨fun _ => rfl, fun q => absurd (nI_le (by omega) (by omega)) q⟩
          | succ j ih =>
            intro i hi
            have h1 := ih (i + 1) (by omega)
            have hmn : q_cnt S (i + 1) ≤ q_cnt S 280 := q_cnt_mono 280 (by omega)
            have hS1 := hS i
            refine t_X11_dateOf_4 ⟨fun q => absurd q (nI_ge (by omega) (by decide)), fun _ => ⟨fun q => absurd q (nI_pos (by omega)), fun _ => ⟨_, _, hsd i (by omega), fun q => ?_, fun q => ⟨fun _ => ?_, fun q2 => ?_⟩⟩⟩⟩
            · unfold wp_X11_dateOf_50
              cases hs : S i
              · rw [hs, if_neg (by decide)] at hS1
                rw [nI_add, show q_cnt S i = q_cnt S (i + 1) by omega]
                exact h1
              · rw [hs] at q; exact absurd q z_10
            · unfold wp_X11_dateOf_50
              cases hs : S i
              · rw [hs] at q; exact absurd nI_0 q
              · rw [hs, if_pos rfl] at hS1
                rw [nI_add, show m - q_cnt S i = m - q_cnt S (i + 1) + 1 by omega, pk_m1]
                exact h1
            · cases hs : S i
              · rw [hs] at q; exact absurd nI_0 q
              · rw [hs, if_pos rfl] at hS1
                rw [z_eq0 (by omega)] at q2
                omega
        exact key 280 0 (by omega)
theorem p_numberOf (ok : sj_ok G) (hA : zA σ) (hR : zYR σ) (x : Int32) : zPair G (zI2 σ) 10 me_X11_numberOf 8 me_X12_numberOf [.int x] (zcd 1 0 0) σ := by
  obtain ⟨B, y0, h, f, g, hY⟩ := hR
  have hB := zYr_B hY
  have hY0 : zYr (sj_st σ 56 0 (nI 0)) B y0 h f g := zYr_th hY
  rcases z_dt x with ⟨n, hn, rfl, hq⟩ | hx
  · have hN := qDay_bd hq
    have hb1 : σ 50 1 = nI (B + 7305) := hY.2.2.2.2.2.1
    rcases z_place (N := qDay n) (B := B) (by omega) hB with ⟨h1, h2, h3⟩ | ⟨h1, h2⟩
    · have hp : qDay n - B < 280 := by omega
      have hsd := z_isSchoolDay ok hY hp
      have hsm := y_isSchoolDay1 ok hY0 hp
      rw [show B + (qDay n - B) = qDay n by omega] at hsm
      cases hs : zSd B h f g (qDay n - B)
      · rw [hs] at hsd hsm
        refine ⟨.ok (-1), σ, -1, _, c_X11_numberOf ok (Or.inl ⟨_, _, z_requireDate0 ok hn hq, ?_⟩), c_X12_numberOf ok ⟨_, _, y_noDate0 ok zT00 hn hq, fun _ => ⟨_, _, y_dayOf ok hn hq, _, _, hsm, fun _ => rfl, fun q => absurd nI_0 q⟩, fun q => absurd nI_0 q⟩, zSame_ok z_ste rfl, zI2_th hA⟩
        rw [hb1, h3]
        exact ⟨_, _, hsd, fun _ => rfl, fun q => absurd nI_0 q⟩
      · rw [hs] at hsd hsm
        have hdb := z_daysBetween (a := 0) (b := qDay n - B) ok hY (by omega) (by omega)
        have hah := y_ahead (p := qDay n - B) ok hY0 (by omega)
        rw [show B + (qDay n - B) = qDay n by omega] at hah
        have e : q_cnt (fun i => zSd B h f g (0 + i)) (qDay n - B - 0) = q_cnt (zSd B h f g) (qDay n - B) := q_cnt_congr _ (fun i _ => by rw [Nat.zero_add])
        rw [e] at hdb
        refine ⟨.ok (nI (q_cnt (zSd B h f g) (qDay n - B))), σ, _, _, c_X11_numberOf ok (Or.inl ⟨_, _, z_requireDate0 ok hn hq, ?_⟩), c_X12_numberOf ok ⟨_, _, y_noDate0 ok zT00 hn hq, fun _ => ⟨_, _, y_dayOf ok hn hq, _, _, hsm, fun q => absurd q z_10, fun _ => ⟨_, _, hah, rfl⟩⟩, fun q => absurd nI_0 q⟩, zSame_ok z_ste rfl, zI2_th hA⟩
        rw [hb1, h3]
        exact ⟨_, _, hsd, fun q => absurd q z_10, fun _ => ⟨_, _, hdb, rfl⟩⟩
    · have hsm := y_isSchoolDay0 ok hY0 (n := qDay n) (by omega) h1
      refine ⟨.ok (-1), σ, -1, _, c_X11_numberOf ok (Or.inl ⟨_, _, z_requireDate0 ok hn hq, ?_⟩), c_X12_numberOf ok ⟨_, _, y_noDate0 ok zT00 hn hq, fun _ => ⟨_, _, y_dayOf ok hn hq, _, _, hsm, fun _ => rfl, fun q => absurd nI_0 q⟩, fun q => absurd nI_0 q⟩, zSame_ok z_ste rfl, zI2_th hA⟩
      rw [hb1]
      exact ⟨_, _, z_isSchoolDay0 ok (by rcases h2 with h2 | h2; exact Or.inl h2.1; exact Or.inr h2.1), fun _ => rfl, fun q => absurd nI_0 q⟩
  · exact ⟨_, _, _, _, c_X11_numberOf ok (Or.inr ⟨_, _, z_requireDate1 ok hx, rfl⟩), c_X12_numberOf ok (R := (.ok (nI 0), sj_st (sj_st σ 56 0 (nI 0)) 56 0 (nI 1))) ⟨_, _, y_noDate1 ok zT00 hx, fun q => absurd q z_10, fun _ => rfl⟩, zSame_er (by decide) z_ste, zI2_th2 hA⟩
theorem p_dayOfWeek (ok : sj_ok G) (hA : zA σ) (x : Int32) : zPair G (zI2 σ) 10 me_X11_dayOfWeek 6 me_X12_dayOfWeek [.int x] (zcd 1 0 0) σ := by
  rcases z_dt x with ⟨n, hn, rfl, hq⟩ | hx
  · have hN := qDay_bd hq
    refine ⟨.ok (nI (qDay n % 7)), _, nI (qDay n % 7), _, c_X11_dayOfWeek ok (Or.inl ⟨_, _, z_requireDate0 ok hn hq, _, _, z_weekday ok (by omega), rfl⟩), c_X12_dayOfWeek ok ⟨_, _, y_noDate0 ok zT00 hn hq, fun _ => ⟨_, _, y_dayOf ok hn hq, ?_⟩, fun q => absurd nI_0 q⟩, zSame_ok z_ste rfl, zI2_th hA⟩
    unfold wp_X12_dayOfWeek_24
    rw [z_rem (by omega) (by decide) (by decide)]
  · exact ⟨_, _, _, _, c_X11_dayOfWeek ok (Or.inr ⟨_, _, z_requireDate1 ok hx, rfl⟩), c_X12_dayOfWeek ok (R := (.ok (nI 0), sj_st (sj_st σ 56 0 (nI 0)) 56 0 (nI 1))) ⟨_, _, y_noDate1 ok zT00 hx, fun q => absurd q z_10, fun _ => rfl⟩, zSame_er (by decide) z_ste, zI2_th2 hA⟩
theorem z_pm (y : Int32) : (∃ j, j ≤ 2000 ∧ y = nI j - nI 1000) ∨ (y < -1000 ∨ nI 1000 < y) := by
  by_cases q : y < -1000 ∨ nI 1000 < y
  · exact Or.inr q
  · left
    rw [Int32.lt_iff_toInt_lt, Int32.lt_iff_toInt_lt, show (-1000 : Int32).toInt = -1000 by decide, nI_toInt (by decide)] at q
    refine ⟨(y.toInt + 1000).toNat, by omega, ?_⟩
    apply Int32.toInt_inj.mp
    rw [pk_sub_toInt (by omega) (by decide)]
    omega
theorem z_addpm {a j : Nat} (h : 1000 ≤ a) : nI a + (nI j - nI 1000) = nI (a + j - 1000) := by
  rw [← pk_sub (show 1000 ≤ a + j by omega), ← nI_add, Int32.sub_eq_add_neg, Int32.sub_eq_add_neg, Int32.add_assoc]
theorem p_later (ok : sj_ok G) (hA : zA σ) (x y : Int32) : zPair G (zI2 σ) 10 me_X11_later 6 me_X12_later [.int x, .int y] (zcd 1 0 0) σ := by
  rcases z_dt x with ⟨n, hn, rfl, hq⟩ | hx
  · have hN := qDay_bd hq
    rcases z_pm y with ⟨j, hj, rfl⟩ | hy
    · obtain ⟨w, dc, dm⟩ := zDate2 ok (N := qDay n + j - 1000) (by omega)
      have b1 : ¬ (nI j - nI 1000) < -1000 := by
        rw [Int32.lt_iff_toInt_lt, pk_sub_toInt (by omega) (by decide), show (-1000 : Int32).toInt = -1000 by decide]
        omega
      have b2 : (nI j - nI 1000) ≤ nI 1000 := by
        rw [Int32.le_iff_toInt_le, pk_sub_toInt (by omega) (by decide), nI_toInt (by decide)]
        omega
      have b3 : ¬ nI 1000 < (nI j - nI 1000) := by
        rw [Int32.lt_iff_toInt_lt, pk_sub_toInt (by omega) (by decide), nI_toInt (by decide)]
        omega
      refine ⟨.ok w, σ, w, _, c_X11_later ok (Or.inl ⟨_, _, z_requireDate0 ok hn hq, Or.inl ⟨_, z_between0 ok b1 b2, ?_⟩⟩), c_X12_later ok ⟨_, _, y_noDate0 ok zT00 hn hq, fun q => absurd nI_0 q, fun _ => ⟨_, _, y_in1 ok b1 b3, _, _, y_fails1 ok zT00, fun _ => ⟨_, _, y_dayOf ok hn hq, ?_⟩, fun q => absurd nI_0 q⟩⟩, zSame_ok z_ste rfl, zI2_th hA⟩
      · rw [z_addpm (by omega), show qDay n + 7305 + j - 1000 = qDay n + j - 1000 + 7305 by omega]
        exact ⟨_, _, dc _, rfl⟩
      · rw [z_addpm (by omega)]
        exact ⟨_, _, dm _, rfl⟩
    · have b1 : y < -1000 ∨ ¬ y ≤ nI 1000 := by
        rcases hy with hy | hy
        · exact Or.inl hy
        · right
          rw [Int32.lt_iff_toInt_lt] at hy
          rw [Int32.le_iff_toInt_le]
          omega
      exact ⟨_, _, _, _, c_X11_later ok (Or.inl ⟨_, _, z_requireDate0 ok hn hq, Or.inr ⟨_, _, z_between1 ok b1, rfl⟩⟩), c_X12_later ok (R := (.ok (nI 0), sj_st (sj_st σ 56 0 (nI 0)) 56 0 (nI 1))) ⟨_, _, y_noDate0 ok zT00 hn hq, fun q => absurd nI_0 q, fun _ => ⟨_, _, y_in0 ok hy, _, _, y_fails0 ok zT00 (by decide), fun q => absurd q z_10, fun _ => rfl⟩⟩, zSame_er (by decide) z_ste, zI2_th2 hA⟩
  · exact ⟨_, _, _, _, c_X11_later ok (Or.inr ⟨_, _, z_requireDate1 ok hx, rfl⟩), c_X12_later ok (R := (.ok (nI 0), sj_st (sj_st σ 56 0 (nI 0)) 56 0 (nI 1))) ⟨_, _, y_noDate1 ok zT00 hx, fun _ => rfl, fun q => absurd q z_10⟩, zSame_er (by decide) z_ste, zI2_th2 hA⟩
theorem z_behind {N : Nat} (hN : N < 41000) (hB : 3652 ≤ B ∧ B < 40180) : (if ((nI (N + 7305) - nI (B + 7305)) + nI 1) < nI 0 then nI 0 else ((nI (N + 7305) - nI (B + 7305)) + nI 1)) = nI (N + 1 - B) := by
  by_cases q : B ≤ N
  · rw [pk_sub (by omega), nI_add, if_neg (by rw [nI_0]; exact nI_pos (by omega)), show N + 7305 - (B + 7305) + 1 = N + 1 - B by omega]
  · have ht : ((nI (N + 7305) - nI (B + 7305)) + nI 1) = nI (N + 7306) - nI (B + 7305) := by
      rw [show N + 7306 = N + 7305 + 1 by omega, ← nI_add (N + 7305) 1, Int32.sub_eq_add_neg, Int32.sub_eq_add_neg, Int32.add_assoc, Int32.add_assoc, Int32.add_comm (nI 1)]
    rw [ht]
    by_cases q2 : N + 1 = B
    · rw [pk_sub (by omega), show N + 7306 - (B + 7305) = 0 by omega, show N + 1 - B = 0 by omega]
      simp
    · rw [if_pos (by rw [nI_0]; exact pk_sneg (by omega) (by omega)), show N + 1 - B = 0 by omega]
theorem zNx (ok : sj_ok G) {S : Nat → Bool} {N n : Nat} {τ : sj_S} (hN : N < 41000) (hB : 3652 ≤ B ∧ B < 40180) (hb1 : σ 50 1 = nI (B + 7305))
    (hsd : ∀ i, i < 280 → sj_C G 2 me_X10_isSchoolDay [.ref (sj_ad G 50), .int (nI i)] σ (.ok (if S i then nI 1 else nI 0), σ))
    (hsm : ∀ i, i < 280 → sj_C G 6 me_X12_isSchoolDay [.ref (sj_ad G 56), .int (nI (B + i))] τ (.ok (if S i then nI 1 else nI 0), τ))
    (hdx : sj_C G 4 me_X12_dayOf [.int (nI n)] τ (.ok (nI N), τ)) :
    ∃ w : Int32, sj_J G 10 me_X11_nextDay (.ok w, σ) 22 [.ref (sj_ad G 0), .null, .null, .int (nI (N + 1 - B))] σ [] ∧ sj_J G 7 me_X12_nextDay (.ok w, τ) 25 [.ref (sj_ad G 56), .int (nI n), .int (nI B), .int (nI B)] τ [] := by
  by_cases hex : ∃ i, i < 280 ∧ N < B + i ∧ S i = true
  · obtain ⟨t, ⟨t1, t2, t3⟩, tm⟩ := pk_least (fun i => i < 280 ∧ N < B + i ∧ S i = true) hex
    obtain ⟨w, dc, dm⟩ := zDate2 ok (N := B + t) (by omega)
    have hno : ∀ i, i < t → N < B + i → S i = false := fun i hi h1 => by
      cases hs : S i
      · rfl
      · exact absurd ⟨by omega, h1, hs⟩ (tm i hi)
    refine ⟨w, ?_, ?_⟩
    · have key : ∀ j i, i + j = t → N + 1 - B ≤ i → sj_J G 10 me_X11_nextDay (.ok w, σ) 22 [.ref (sj_ad G 0), .null, .null, .int (nI i)] σ [] := by
        intro j
        induction j with
        | zero =>
          intro i hi hs
          have : i = t := by omega
          subst this
          refine t_X11_nextDay_22 ⟨fun q => absurd q (nI_ge (by omega) (by decide)), fun _ => ⟨_, _, hsd i t1, fun q => ?_, fun _ => ?_⟩⟩
          · rw [t3] at q; exact absurd q z_10
          · rw [hb1, nI_add, show B + 7305 + i = B + i + 7305 by omega]
            exact ⟨_, _, dc σ, rfl⟩
        | succ j ih =>
          intro i hi hs
          refine t_X11_nextDay_22 ⟨fun q => absurd q (nI_ge (by omega) (by decide)), fun _ => ⟨_, _, hsd i (by omega), fun _ => ?_, fun q => ?_⟩⟩
          · rw [nI_add]
            exact ih (i + 1) (by omega) (by omega)
          · rw [hno i (by omega) (by omega)] at q; exact absurd nI_0 q
      exact key (t - (N + 1 - B)) (N + 1 - B) (by omega) (Nat.le_refl _)
    · have key : ∀ j i, i + j = t → sj_J G 7 me_X12_nextDay (.ok w, τ) 25 [.ref (sj_ad G 56), .int (nI n), .int (nI B), .int (nI (B + i))] τ [] := by
        intro j
        induction j with
        | zero =>
          intro i hi
          have : i = t := by omega
          subst this
          refine t_X12_nextDay_25 ⟨fun q => ?_, fun _ => ⟨_, _, hdx, fun q => ?_, fun _ => ⟨_, _, hsm i t1, fun q => ?_, fun _ => ⟨_, _, dm τ, rfl⟩⟩⟩⟩
          · rw [nI_add] at q
            exact absurd q (nI_ge (by omega) (by omega))
          · exact absurd q (nI_ge (by omega) (by omega))
          · rw [t3] at q; exact absurd q z_10
        | succ j ih =>
          intro i hi
          have hnx : wp_X12_nextDay_55 G (.ok w, τ) (nI n) (nI B) (nI (B + i)) τ := by
            unfold wp_X12_nextDay_55
            rw [nI_add]
            exact ih (i + 1) (by omega)
          refine t_X12_nextDay_25 ⟨fun q => ?_, fun _ => ⟨_, _, hdx, fun _ => hnx, fun q => ⟨_, _, hsm i (by omega), fun _ => hnx, fun q2 => ?_⟩⟩⟩
          · rw [nI_add] at q
            exact absurd q (nI_ge (by omega) (by omega))
          · rw [nI_leI (by omega) (by omega)] at q
            rw [hno i (by omega) (by omega)] at q2
            exact absurd nI_0 q2
      exact key t 0 (by omega)
  · have hno : ∀ i, i < 280 → N < B + i → S i = false := fun i hi h1 => by
      cases hs : S i
      · rfl
      · exact absurd ⟨i, hi, h1, hs⟩ hex
    refine ⟨-1, ?_, ?_⟩
    · have key : ∀ j i, 280 ≤ i + j → N + 1 - B ≤ i → i < 50000 → sj_J G 10 me_X11_nextDay (.ok (-1), σ) 22 [.ref (sj_ad G 0), .null, .null, .int (nI i)] σ [] := by
        intro j
        induction j with
        | zero =>
          intro i hi hs hl
          exact t_X11_nextDay_22 ⟨fun _ => rfl, fun q => absurd (nI_le (by omega) (by omega)) q⟩
        | succ j ih =>
          intro i hi hs hl
          refine t_X11_nextDay_22 ⟨fun _ => rfl, fun q => ?_⟩
          rw [nI_leI (by decide) (by omega)] at q
          refine ⟨_, _, hsd i (by omega), fun _ => ?_, fun q2 => ?_⟩
          · rw [nI_add]
            exact ih (i + 1) (by omega) (by omega) (by omega)
          · rw [hno i (by omega) (by omega)] at q2; exact absurd nI_0 q2
      exact key 280 (N + 1 - B) (by omega) (Nat.le_refl _) (by omega)
    · have key : ∀ j i, i + j = 280 → sj_J G 7 me_X12_nextDay (.ok (-1), τ) 25 [.ref (sj_ad G 56), .int (nI n), .int (nI B), .int (nI (B + i))] τ [] := by
        intro j
        induction j with
        | zero =>
          intro i hi
          refine t_X12_nextDay_25 ⟨fun _ => rfl, fun q => ?_⟩
          rw [nI_add] at q
          exact absurd (nI_le (by omega) (by omega)) q
        | succ j ih =>
          intro i hi
          have hnx : wp_X12_nextDay_55 G (.ok (-1), τ) (nI n) (nI B) (nI (B + i)) τ := by
            unfold wp_X12_nextDay_55
            rw [nI_add]
            exact ih (i + 1) (by omega)
          refine t_X12_nextDay_25 ⟨fun _ => rfl, fun _ => ⟨_, _, hdx, fun _ => hnx, fun q => ⟨_, _, hsm i (by omega), fun _ => hnx, fun q2 => ?_⟩⟩⟩
          rw [nI_leI (by omega) (by omega)] at q
          rw [hno i (by omega) (by omega)] at q2
          exact absurd nI_0 q2
      exact key 280 0 (by omega)
theorem p_nextDay (ok : sj_ok G) (hA : zA σ) (hR : zYR σ) (x : Int32) : zPair G (zI2 σ) 10 me_X11_nextDay 7 me_X12_nextDay [.int x] (zcd 1 0 0) σ := by
  obtain ⟨B, y0, h, f, g, hY⟩ := hR
  have hB := zYr_B hY
  have hY0 : zYr (sj_st σ 56 0 (nI 0)) B y0 h f g := zYr_th hY
  rcases z_dt x with ⟨n, hn, rfl, hq⟩ | hx
  · have hN := qDay_bd hq
    have hd := y_dayY ok hY0
    rw [show (sj_st σ 56 0 (nI 0)) 56 21 = σ 56 21 from z_sti (by decide)] at hd
    have hb1 : σ 50 1 = nI (B + 7305) := hY.2.2.2.2.2.1
    obtain ⟨w, hc, hm⟩ := zNx (σ := σ) (τ := sj_st σ 56 0 (nI 0)) (S := zSd B h f g) (N := qDay n) (n := n) ok (by omega) hB hb1 (fun i hi => z_isSchoolDay ok hY hi) (fun i hi => y_isSchoolDay1 ok hY0 hi) (y_dayOf ok hn hq)
    refine ⟨.ok w, σ, w, _, c_X11_nextDay ok (Or.inl ⟨_, _, z_requireDate0 ok hn hq, ?_⟩), c_X12_nextDay ok ⟨_, _, y_noDate0 ok zT00 hn hq, fun _ => ⟨_, _, ?_, hm⟩, fun q => absurd nI_0 q⟩, zSame_ok z_ste rfl, zI2_th hA⟩
    · rw [hb1, z_behind (by omega) hB]
      exact hc
    · rw [show (sj_st σ 56 0 (nI 0)) 56 21 = σ 56 21 from z_sti (by decide)]
      exact hd
  · exact ⟨_, _, _, _, c_X11_nextDay ok (Or.inr ⟨_, _, z_requireDate1 ok hx, rfl⟩), c_X12_nextDay ok (R := (.ok (nI 0), sj_st (sj_st σ 56 0 (nI 0)) 56 0 (nI 1))) ⟨_, _, y_noDate1 ok zT00 hx, fun q => absurd q z_10, fun _ => rfl⟩, zSame_er (by decide) z_ste, zI2_th2 hA⟩
end ZYP
