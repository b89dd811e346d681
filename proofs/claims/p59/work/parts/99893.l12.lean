/-! P59, THE LAW 12: the year -/
/-- what a look at the year leaves alone -/
def kZ (σ σ' : sj_S) : Prop := (∀ b, b ≠ 50 → b ≠ 51 → b ≠ 56 → σ' b = σ b) ∧ ∀ k, k ≠ 0 → σ' 56 k = σ 56 k
theorem kZ_r (σ : sj_S) : kZ σ σ := ⟨fun _ _ _ _ => rfl, fun _ _ => rfl⟩
theorem kZ_t {σ σ1 σ2 : sj_S} (h : kZ σ σ1) (g : kZ σ1 σ2) : kZ σ σ2 := ⟨fun b h1 h2 h3 => (g.1 b h1 h2 h3).trans (h.1 b h1 h2 h3), fun k hk => (g.2 k hk).trans (h.2 k hk)⟩
theorem kZ_x (σ : sj_S) (x : Int32) : kZ σ (sj_st σ 56 0 x) := ⟨fun b _ _ h3 => z_stn h3, fun k hk => z_sti hk⟩
theorem kZ_y {σ τ : sj_S} (h : ∀ b, b ≠ 50 → b ≠ 51 → τ b = σ b) : kZ σ τ := ⟨fun b h1 h2 _ => h b h1 h2, fun k _ => by rw [h 56 (by decide) (by decide)]⟩
theorem zYr_x {σ : sj_S} {B y0 h : Nat} {f g : Nat → Nat} (hY : zYr σ B y0 h f g) (x : Int32) : zYr (sj_st σ 56 0 x) B y0 h f g := zYr_of hY (z_stn (by decide)) (z_stn (by decide))
theorem z_off5 {a : Nat} (h : a < 300) : nI a - nI 5 = nI (a + 995) - nI 1000 := by
  apply Int32.toInt_inj.mp
  rw [pk_sub_toInt (by omega) (by decide), pk_sub_toInt (by omega) (by decide)]
  omega
theorem z_negoff {q : Nat} (h : q ≤ 1000) : -(nI q) = nI (1000 - q) - nI 1000 := by
  apply Int32.toInt_inj.mp
  rw [Int32.toInt_neg, pk_sub_toInt (by omega) (by decide), nI_toInt (by omega), Int.bmod_eq_of_le (by omega) (by omega)]
  omega
section L12
variable {G : sj_G} {σ : sj_S} {y0 h : Nat} {f g : Nat → Nat}
theorem l_yearC (ok : sj_ok G) (hO : sj_ad G 70 = sj_ad G 0) (hY : zYr σ 10962 (kDn 10962) h f g) : ∀ j w (ρ : sj_S), w + j = 40 → kZ σ ρ → zYr ρ 10962 (kDn 10962) h f g →
    ∃ σ', kZ σ σ' ∧ sj_J G 12 me_L_isYear (.ok (nI 1), σ') 246 [.ref (sj_ad G 56), .int (nI (kDn 10962)), .int (nI (q_cnt (zSd 10962 h f g) 280)), .int (nI (q_cnt (zSd 10962 h f g) (7 * w))), .int (nI w), .null] ρ [] := by
  intro j
  induction j with
  | zero =>
    intro w ρ hw q hρ
    obtain rfl : w = 40 := by omega
    obtain ⟨p, x, hp, hn⟩ := l_next (σ := ρ) ok (n := 2001) (by decide) (by decide)
    generalize e1 : sj_st ρ 56 0 x = ρ1 at hn
    have q1 : kZ σ ρ1 := by rw [← e1]; exact kZ_t q (kZ_x ρ x)
    have Y1 : zYr ρ1 10962 (kDn 10962) h f g := by rw [← e1]; exact zYr_x hρ x
    have c1 := k_laterP (σ := ρ1) (N := 10962) (p := 280) ok (by decide) (by decide) (by decide)
    have c2 := k_weekOfB ok Y1 (by decide)
    refine ⟨ρ1, q1, t_L_isYear_246 hO ⟨fun _ => ⟨_, _, hn, fun r => absurd rfl r, fun _ => ⟨_, _, c1, _, _, c2, fun r => absurd rfl r, fun _ => ⟨fun _ => ⟨rfl, Or.inr rfl⟩, fun r => ?_⟩⟩⟩, fun r => absurd (nI_le (Nat.le_refl 40) (by decide)) r⟩⟩
    by_cases hp2 : p < 1000
    · exact absurd (pk_sneg (by omega) (by omega)) r
    · have c3 := k_laterP (σ := ρ1) (N := 10962) (p := p - 1000) ok (by decide) (by omega) (by omega)
      have c4 := k_later (σ := ρ1) (N := 10962 + (p - 1000)) (j := 1000 - (p - 1000)) ok (by omega) (by omega) (by omega) (by omega) (by omega)
      rw [pk_sub (by omega)]
      rw [← z_negoff (by omega), show 10962 + (p - 1000) + (1000 - (p - 1000)) - 1000 = 10962 by omega] at c4
      refine ⟨_, _, c3, _, _, c4, ?_⟩
      unfold wp_L_isYear_403
      rw [if_pos rfl]
      exact ⟨rfl, Or.inr rfl⟩
  | succ j ih =>
    intro w ρ hw q hρ
    have hw40 : w < 40 := by omega
    have c1 := k_laterP (σ := ρ) (N := 10962) (p := 7 * w) ok (by decide) (by omega) (by omega)
    obtain ⟨c2, -, c5⟩ := k_weekOf (t := 7 * w) ok hρ (by decide) (by omega)
    have c3 := k_laterP (σ := ρ) (N := 10962 + 7 * w) (p := 6) ok (by omega) (by decide) (by omega)
    obtain ⟨c4, -, -⟩ := k_weekOf (t := 7 * w + 6) ok hρ (by decide) (by omega)
    rw [show 7 * w / 7 = w by omega] at c2 c5
    rw [show (7 * w + 6) / 7 = w by omega, ← Nat.add_assoc] at c4
    obtain ⟨σ', g1, g2⟩ := ih (w + 1) ρ (by omega) q hρ
    have e7 : q_cnt (zSd 10962 h f g) (7 * (w + 1)) = q_cnt (zSd 10962 h f g) (7 * w) + zWk 10962 h f g w := by
      rw [show 7 * (w + 1) = 7 * w + 7 by omega, q_cnt_add]
      unfold zWk
      rw [Nat.mul_comm w 7]
    rw [e7] at g2
    refine ⟨σ', g1, t_L_isYear_246 hO ⟨fun r => absurd r (nI_ge hw40 (by decide)), fun _ => ?_⟩⟩
    rw [pk_mul]
    refine ⟨_, _, c1, _, _, c2, fun r => absurd rfl r, fun _ => ⟨_, _, c3, _, _, c4, fun _ => ⟨_, _, c5, ?_⟩, fun r => absurd rfl r⟩⟩
    rw [nI_add, nI_add]
    exact g2
theorem l_yearB (ok : sj_ok G) (hO : sj_ad G 70 = sj_ad G 0) (hY : zYr σ 10962 (kDn 10962) h f g) : ∀ j k (ρ : sj_S), k + j = 6 → kZ σ ρ → zYr ρ 10962 (kDn 10962) h f g →
    ∃ σ', kZ σ σ' ∧ sj_J G 12 me_L_isYear (.ok (nI 1), σ') 105 [.ref (sj_ad G 56), .int (nI (kDn 10962)), .int (nI (q_cnt (zSd 10962 h f g) 280)), .int (nI k), .null, .null] ρ [] := by
  have hle : q_cnt (zSd 10962 h f g) 280 ≤ 280 := q_cnt_le _ 280
  have hend : ∀ ρ : sj_S, kZ σ ρ → zYr ρ 10962 (kDn 10962) h f g → ∃ σ', kZ σ σ' ∧ wp_L_isYear_241 G (.ok (nI 1), σ') (nI (kDn 10962)) (nI (q_cnt (zSd 10962 h f g) 280)) ρ := fun ρ q hρ => by
    obtain ⟨σ', h1, h2⟩ := l_yearC ok hO hY 40 0 ρ (by decide) q hρ
    exact ⟨σ', h1, h2⟩
  intro j
  induction j with
  | zero =>
    intro k ρ hk q hρ
    obtain rfl : k = 6 := by omega
    obtain ⟨σ', h1, h2⟩ := hend ρ q hρ
    exact ⟨σ', h1, t_L_isYear_105 hO ⟨fun _ => h2, fun r => absurd (nI_le (Nat.le_refl 6) (by decide)) r⟩⟩
  | succ j ih =>
    intro k ρ hk q hρ
    have hk6 : k < 6 := by omega
    by_cases h0 : q_cnt (zSd 10962 h f g) 280 = 0
    · obtain ⟨σ', h1, h2⟩ := hend ρ q hρ
      refine ⟨σ', h1, t_L_isYear_105 hO ⟨fun r => absurd r (nI_ge hk6 (by decide)), fun _ => ⟨fun _ => h2, fun r => ?_⟩⟩⟩
      rw [h0] at r
      exact absurd (by decide) r
    · obtain ⟨m, x, hm, hn⟩ := l_next (σ := ρ) (n := q_cnt (zSd 10962 h f g) 280) ok (by omega) (by omega)
      generalize e1 : sj_st ρ 56 0 x = ρ1 at hn
      have q1 : kZ σ ρ1 := by rw [← e1]; exact kZ_t q (kZ_x ρ x)
      have Y1 : zYr ρ1 10962 (kDn 10962) h f g := by rw [← e1]; exact zYr_x hρ x
      obtain ⟨t, ht, st, et⟩ := q_cnt_find 280 hm
      have hsd : t % 7 < 5 := by
        unfold zSd at st
        rw [Bool.and_eq_true, decide_eq_true_eq] at st
        exact st.1
      have c1 := k_dateOf ok Y1 (by decide) ht st
      have c2 := k_numberOf ok Y1 (by decide) ht st
      rw [et] at c1 c2
      have c3 := k_dayOfWeek (σ := ρ1) (N := 10962 + t) ok (by omega) (by omega)
      obtain ⟨-, c4, c5⟩ := k_weekOf ok Y1 (by decide) ht
      have hwk : 0 < zWk 10962 h f g (t / 7) := by
        unfold zWk
        apply Classical.byContradiction
        intro r
        have hz : ∀ n i, i < n → q_cnt (fun i => zSd 10962 h f g (t / 7 * 7 + i)) n = 0 → zSd 10962 h f g (t / 7 * 7 + i) = false := by
          intro n
          induction n with
          | zero => intro i hi _; exact absurd hi (Nat.not_lt_zero i)
          | succ n ihn =>
            intro i hi hq
            have hq : q_cnt (fun i => zSd 10962 h f g (t / 7 * 7 + i)) n + (if zSd 10962 h f g (t / 7 * 7 + n) then 1 else 0) = 0 := hq
            by_cases e : i = n
            · rw [e]
              cases hs : zSd 10962 h f g (t / 7 * 7 + n)
              · rfl
              · rw [hs, if_pos rfl] at hq; omega
            · exact ihn i (by omega) (by omega)
        have hz2 := hz 7 (t % 7) (by omega) (by omega)
        rw [show t / 7 * 7 + t % 7 = t by omega, st] at hz2
        cases hz2
      have hzb : zWk 10962 h f g (t / 7) ≤ 7 := q_cnt_le _ 7
      have hlt : 0 ≤ zLt 10962 h f g (t / 7) := by
        unfold zLt
        rw [if_pos hwk, ← nI_0]
        exact nI_le (Nat.zero_le _) (by omega)
      obtain ⟨σ', g1, g2⟩ := ih (k + 1) ρ1 (by omega) q1 Y1
      have on : wp_L_isYear_235 G (.ok (nI 1), σ') (nI (kDn 10962)) (nI (q_cnt (zSd 10962 h f g) 280)) (nI k) ρ1 := by
        unfold wp_L_isYear_235
        rw [nI_add]
        exact g2
      refine ⟨σ', g1, t_L_isYear_105 hO ⟨fun r => absurd r (nI_ge hk6 (by decide)), fun _ => ⟨fun r => absurd r (by rw [← nI_0]; exact nI_ge (by omega) (by omega)), fun _ => ⟨_, _, hn, _, _, c1, _, _, c2, fun r => absurd rfl r, fun _ => ⟨_, _, c3, fun r => ?_, fun _ => ⟨_, _, c5, fun r => ?_, fun _ => ⟨_, _, c4, fun _ => ⟨fun _ => on, fun r => ?_⟩, fun r => absurd hlt r⟩⟩⟩⟩⟩⟩⟩
      · rw [nI_ltI (by decide) (by omega)] at r
        omega
      · rw [nI_ltI (by omega) (by decide)] at r
        omega
      · have m0 : 0 < m := by
          apply Classical.byContradiction
          intro r2
          rw [show m = 0 by omega] at r
          exact absurd (by decide) r
        obtain ⟨t', ht', st', et'⟩ := q_cnt_find (S := zSd 10962 h f g) (m := m - 1) 280 (by omega)
        have htt : t' < t := by
          apply Classical.byContradiction
          intro r2
          have := q_cnt_mono (S := zSd 10962 h f g) (i := t) t' (by omega)
          omega
        have hno : ∀ i, t' < i → i < t → zSd 10962 h f g i = false := fun i h1 h2 => by
          cases hs : zSd 10962 h f g i
          · rfl
          · exfalso
            have a1 := q_cnt_mono (S := zSd 10962 h f g) (i := t' + 1) i (by omega)
            have a2 := q_cnt_mono (S := zSd 10962 h f g) (i := i + 1) t (by omega)
            have a3 : q_cnt (zSd 10962 h f g) (t' + 1) = q_cnt (zSd 10962 h f g) t' + (if zSd 10962 h f g t' then 1 else 0) := rfl
            have a4 : q_cnt (zSd 10962 h f g) (i + 1) = q_cnt (zSd 10962 h f g) i + (if zSd 10962 h f g i then 1 else 0) := rfl
            rw [st', if_pos rfl] at a3
            rw [hs, if_pos rfl] at a4
            omega
        have c6 := k_dateOf ok Y1 (by decide) ht' st'
        rw [et'] at c6
        have c7 := k_nextDay ok Y1 (by decide) htt ht st hno
        have hdl : kDn (10962 + t') < kDn (10962 + t) := kDn_lt (by omega) (by omega) (by omega)
        have hd31 : kDn (10962 + t) < 2 ^ 31 := by
          obtain ⟨-, -, -, -, -, -, -, -, q0, -, -⟩ := k_dn (N := 10962 + t) (by omega) (by omega)
          exact q0
        rw [pk_sub (by omega)]
        exact ⟨_, _, c6, fun r2 => absurd r2 (nI_ge hdl hd31), fun _ => ⟨_, _, c6, _, _, c7, fun _ => on, fun r2 => absurd rfl r2⟩⟩
theorem l_yearA (ok : sj_ok G) (hO : sj_ad G 70 = sj_ad G 0) : ∀ k (ρ : sj_S) h f g, h + k ≤ 3 → kZ σ ρ → zYr ρ 10962 (kDn 10962) h f g →
    ∃ σ', kZ σ σ' ∧ sj_J G 12 me_L_isYear (.ok (nI 1), σ') 35 [.ref (sj_ad G 56), .int (nI (kDn 10962)), .int (nI k), .null, .null, .null] ρ [] := by
  intro k
  induction k with
  | zero =>
    intro ρ h f g hk q hρ
    obtain ⟨σ', h1, h2⟩ := l_yearB ok hO hρ 6 0 ρ (by decide) (kZ_r ρ) hρ
    exact ⟨σ', kZ_t q h1, t_L_isYear_35 hO ⟨fun _ => ⟨_, _, k_schoolDays ok hρ, h2⟩, fun r => absurd (by decide) r⟩⟩
  | succ k ih =>
    intro ρ h f g hk q hρ
    obtain ⟨a, x, ha, hna⟩ := l_next (σ := ρ) ok (n := 300) (by decide) (by decide)
    generalize e1 : sj_st ρ 56 0 x = ρ1 at hna
    have q1 : kZ σ ρ1 := by rw [← e1]; exact kZ_t q (kZ_x ρ x)
    have Y1 : zYr ρ1 10962 (kDn 10962) h f g := by rw [← e1]; exact zYr_x hρ x
    obtain ⟨b, y, hb, hnb⟩ := l_next (σ := ρ1) ok (n := 20) (by decide) (by decide)
    generalize e2 : sj_st ρ1 56 0 y = ρ2 at hnb
    have q2 : kZ σ ρ2 := by rw [← e2]; exact kZ_t q1 (kZ_x ρ1 y)
    have Y2 : zYr ρ2 10962 (kDn 10962) h f g := by rw [← e2]; exact zYr_x Y1 y
    have c1 := k_later (σ := ρ1) (N := 10962) (j := a + 995) ok (by decide) (by decide) (by omega) (by omega) (by omega)
    rw [← z_off5 ha] at c1
    have c2 := k_laterP (σ := ρ2) (N := 10962 + (a + 995) - 1000) (p := b) ok (by omega) (by omega) (by omega)
    obtain ⟨τ, f', g', c3, Y3, n3⟩ := k_holiday ok Y2 (by omega) (a := 10962 + (a + 995) - 1000) (b := 10962 + (a + 995) - 1000 + b) (by omega) (by omega) (by omega)
    obtain ⟨σ', g1, g2⟩ := ih τ (h + 1) f' g' (by omega) (kZ_t q2 (kZ_y n3)) Y3
    refine ⟨σ', g1, t_L_isYear_35 hO ⟨fun r => absurd r (by rw [← nI_0]; exact nI_ge (by omega) (by omega)), fun _ => ⟨_, _, hna, _, _, c1, _, _, hnb, _, _, c2, _, _, c3, fun _ => ?_, fun r => absurd (nI_le (by omega) (by omega)) r⟩⟩⟩
    rw [pk_m1]
    exact g2
theorem l_isYear (ok : sj_ok G) (hO : sj_ad G 70 = sj_ad G 0) {B : Nat} (hY : zYr σ B 20260907 h f g) : ∃ σ', sj_C G 12 me_L_isYear [.ref (sj_ad G 56)] σ (.ok (nI 1), σ') ∧ kZ σ σ' := by
  have eB : kDn 10962 = 20200106 := by decide +kernel
  have c1 := k_dayOfWeek (σ := σ) (N := 10962) ok (by decide) (by decide)
  obtain ⟨τ, c2, Y2, n2⟩ := k_setYear ok hY (N := 10962) (by decide) (by decide) (by decide)
  obtain ⟨k, x, hk, hn⟩ := l_next (σ := τ) ok (n := 4) (by decide) (by decide)
  generalize e1 : sj_st τ 56 0 x = ρ at hn
  have q1 : kZ σ ρ := by rw [← e1]; exact kZ_t (kZ_y n2) (kZ_x τ x)
  have Y1 : zYr ρ 10962 (kDn 10962) 0 f g := by rw [← e1]; exact zYr_x Y2 x
  obtain ⟨σ', g1, g2⟩ := l_yearA (σ := σ) ok hO k ρ 0 f g (by omega) q1 Y1
  rw [eB] at c1 c2 g2
  exact ⟨σ', c_L_isYear ok hO ⟨_, _, c1, fun r => absurd (by decide) r, fun _ => ⟨_, _, c2, fun _ => ⟨_, _, hn, g2⟩, fun r => absurd rfl r⟩⟩, g1⟩
end L12
