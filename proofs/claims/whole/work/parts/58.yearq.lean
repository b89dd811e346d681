/-! YEAR, PAIRS 2: weekOf, setYear, holiday -/
theorem zHo_congr {f g f' g' : Nat → Nat} {n : Nat} : ∀ h, (∀ k, k < h → f' k = f k ∧ g' k = g k) → zHo f' g' n h = zHo f g n h := by
  intro h
  induction h with
  | zero => intro _; rfl
  | succ h ih =>
    intro q
    obtain ⟨q1, q2⟩ := q h (by omega)
    show (zHo f' g' n h || (decide (f' h ≤ n) && decide (n ≤ g' h))) = (zHo f g n h || (decide (f h ≤ n) && decide (n ≤ g h)))
    rw [ih (fun k hk => q k (by omega)), q1, q2]
section ZYQ
variable {G : sj_G} {σ : sj_S} {B y0 h : Nat} {f g : Nat → Nat}
theorem p_weekOf (ok : sj_ok G) (hA : zA σ) (hR : zYR σ) (x y : Int32) : zPair G (zI2 σ) 11 me_X11_weekOf 8 me_X12_weekOf [.int x, .int y] (zcd 1 0 0) σ := by
  obtain ⟨B, y0, h, f, g, hY⟩ := hR
  have hB := zYr_B hY
  have hY0 : zYr (sj_st σ 56 0 (nI 0)) B y0 h f g := zYr_th hY
  rcases z_dt x with ⟨n, hn, rfl, hq⟩ | hx
  · have hN := qDay_bd hq
    have hb1 : σ 50 1 = nI (B + 7305) := hY.2.2.2.2.2.1
    have hd := y_dayY ok hY0
    have hdx := y_dayOf (σ := sj_st σ 56 0 (nI 0)) ok hn hq
    have hiy := y_isInYear (n := qDay n) ok hY0 (by omega)
    rcases z_rg y 3 with ⟨j, hj, rfl⟩ | hy
    · have mk : ∀ w : Int32, ((nI (qDay n + 7305) - σ 50 1 < 0 → wp_X11_weekOf_31 G (.ok w, σ) σ) ∧ (¬ (nI (qDay n + 7305) - σ 50 1 < 0) → (nI (qDay n + 7305) - σ 50 1 < nI 280 → (¬ nI j = 0 → (¬ nI j = nI 1 → ∃ v8 σ8, sj_C G 3 me_X10_daysBetween [.ref (sj_ad G 50), .int (((nI (qDay n + 7305) - σ 50 1) / nI 7) * nI 7), .int ((((nI (qDay n + 7305) - σ 50 1) / nI 7) * nI 7) + nI 7)] σ (.ok v8, σ8) ∧ (wp_X11_weekOf_83 G (.ok w, σ) v8 σ8)) ∧ (nI j = nI 1 → ∃ v9 σ9, sj_C G 5 me_X10_letterOf [.ref (sj_ad G 50), .int ((nI (qDay n + 7305) - σ 50 1) / nI 7)] σ (.ok v9, σ9) ∧ (wp_X11_weekOf_83 G (.ok w, σ) v9 σ9))) ∧ (nI j = 0 → (.ok w, σ) = ((.ok ((nI (qDay n + 7305) - σ 50 1) / nI 7), σ) : sj_R))) ∧ (¬ (nI (qDay n + 7305) - σ 50 1 < nI 280) → wp_X11_weekOf_31 G (.ok w, σ) σ))) →
          ((¬ (if decide (B ≤ qDay n ∧ qDay n < B + 280) then nI 1 else nI 0) = 0 → (nI j = nI 1 → ∃ v12 σ12, sj_C G 7 me_X12_daysOfWeek [.ref (sj_ad G 56), .int ((nI (qDay n) - nI B) / nI 7)] (sj_st σ 56 0 (nI 0)) (.ok v12, σ12) ∧ (¬ v12 = 0 → sj_J G 8 me_X12_weekOf (.ok w, sj_st σ 56 0 (nI 0)) 93 [.ref (sj_ad G 56), .null, .null, .int ((nI (qDay n) - nI B) / nI 7), .int (nI 0), .int (nI 0)] σ12 []) ∧ (v12 = 0 → (.ok w, sj_st σ 56 0 (nI 0)) = ((.ok (-1), σ12) : sj_R))) ∧ (¬ (nI j = nI 1) → (¬ nI j = 0 → ∃ v16 σ16, sj_C G 7 me_X12_daysOfWeek [.ref (sj_ad G 56), .int ((nI (qDay n) - nI B) / nI 7)] (sj_st σ 56 0 (nI 0)) (.ok v16, σ16) ∧ (wp_X12_weekOf_76 G (.ok w, sj_st σ 56 0 (nI 0)) v16 σ16)) ∧ (nI j = 0 → (wp_X12_weekOf_76 G (.ok w, sj_st σ 56 0 (nI 0)) ((nI (qDay n) - nI B) / nI 7) (sj_st σ 56 0 (nI 0)))))) ∧ ((if decide (B ≤ qDay n ∧ qDay n < B + 280) then nI 1 else nI 0) = 0 → (.ok w, sj_st σ 56 0 (nI 0)) = ((.ok (-1), sj_st σ 56 0 (nI 0)) : sj_R))) →
          zPair G (zI2 σ) 11 me_X11_weekOf 8 me_X12_weekOf [.int (nI n), .int (nI j)] (zcd 1 0 0) σ := fun w hc hm =>
        ⟨.ok w, σ, w, _, c_X11_weekOf ok (Or.inl ⟨_, _, z_requireDate0 ok hn hq, Or.inl ⟨_, z_range0 ok hj (by decide), hc⟩⟩), c_X12_weekOf ok ⟨_, _, y_noDate0 ok zT00 hn hq, fun q => absurd nI_0 q, fun _ => ⟨_, _, y_inr1 ok (B := 2) hj (by decide), _, _, y_fails1 ok zT00, fun _ => ⟨_, _, hdx, _, _, hiy, fun q => ⟨_, _, hdx, _, _, hd, hm.1 q⟩, hm.2⟩, fun q => absurd nI_0 q⟩⟩, zSame_ok z_ste rfl, zI2_th hA⟩
      rw [hb1] at mk
      rcases z_place (N := qDay n) (B := B) (by omega) hB with ⟨h1, h2, h3⟩ | ⟨h1, h2⟩
      · have hw : (qDay n - B) / 7 < 40 := by omega
        rw [h3, decide_eq_true (show B ≤ qDay n ∧ qDay n < B + 280 from ⟨h1, h2⟩), pk_sub h1, pk_div (by omega) (by decide) (by decide), pk_mul, nI_add] at mk
        generalize (qDay n - B) / 7 = w at mk hw
        have nneg : ¬ nI (qDay n - B) < 0 := nI_pos (by omega)
        have hlt : nI (qDay n - B) < nI 280 := nI_lt (by omega) (by decide)
        have hdb := z_daysBetween (a := w * 7) (b := w * 7 + 7) ok hY (by omega) (by omega)
        rw [show w * 7 + 7 - w * 7 = 7 by omega] at hdb
        have hzb : zWk B h f g w ≤ 7 := q_cnt_le _ 7
        rcases (by omega : j = 0 ∨ j = 1 ∨ j = 2) with e | e | e <;> subst e
        · refine mk (nI w) ⟨fun q => absurd q nneg, fun _ => ⟨fun _ => ⟨fun q => absurd nI_0 q, fun _ => rfl⟩, fun q => absurd hlt q⟩⟩ ⟨fun _ => ⟨fun q => absurd q (by decide), fun _ => ⟨fun q => absurd nI_0 q, fun _ => rfl⟩⟩, fun q => absurd q z_10⟩
        · refine mk (zLt B h f g w) ⟨fun q => absurd q nneg, fun _ => ⟨fun _ => ⟨fun _ => ⟨fun q => absurd rfl q, fun _ => ⟨_, _, z_letterOf ok hY hw, rfl⟩⟩, fun q => absurd q z_10⟩, fun q => absurd hlt q⟩⟩ ⟨fun _ => ⟨fun _ => ⟨_, _, y_daysOfWeek ok hY0 hw, fun q => ?_, fun q => ?_⟩, fun q => absurd rfl q⟩, fun q => absurd q z_10⟩
          · rw [z_eq0 (by omega)] at q
            have el : zLt B h f g w = nI (q_cnt (fun i => decide (0 < zWk B h f g i)) w % 2) := by unfold zLt; rw [if_pos (by omega)]
            rw [el]
            have key : ∀ j i, i + j = w → sj_J G 8 me_X12_weekOf (.ok (nI (q_cnt (fun i => decide (0 < zWk B h f g i)) w % 2)), sj_st σ 56 0 (nI 0)) 93 [.ref (sj_ad G 56), .null, .null, .int (nI w), .int (nI (q_cnt (fun i => decide (0 < zWk B h f g i)) i)), .int (nI i)] (sj_st σ 56 0 (nI 0)) [] := by
              intro j
              induction j with
              | zero =>
                intro i hi
                have : i = w := by omega
                subst this
                have hcl : q_cnt (fun i => decide (0 < zWk B h f g i)) i ≤ i := q_cnt_le _ i
                refine t_X12_weekOf_93 ⟨fun _ => ?_, fun r => absurd (nI_le (by omega) (by omega)) r⟩
                rw [z_rem (by omega) (by decide) (by decide)]
              | succ j ih =>
                intro i hi
                have h1 := ih (i + 1) (by omega)
                have hzb : zWk B h f g i ≤ 7 := q_cnt_le _ 7
                have e : q_cnt (fun i => decide (0 < zWk B h f g i)) (i + 1) = q_cnt (fun i => decide (0 < zWk B h f g i)) i + (if decide (0 < zWk B h f g i) then 1 else 0) := rfl
                refine t_X12_weekOf_93 ⟨fun r => absurd r (nI_ge (by omega) (by omega)), fun _ => ⟨_, _, y_daysOfWeek ok hY0 (by omega), ?_⟩⟩
                unfold wp_X12_weekOf_115
                have e2 : (if nI (zWk B h f g i) ≤ 0 then nI 0 else nI 1) = nI (if decide (0 < zWk B h f g i) then 1 else 0) := by
                  by_cases r : 0 < zWk B h f g i
                  · rw [if_neg (nI_nle r (by omega)), decide_eq_true r]; rfl
                  · rw [show zWk B h f g i = 0 by omega, nI_0]; rfl
                rw [e2, nI_add, nI_add, ← e]
                exact h1
            exact key w 0 (by omega)
          · rw [z_eq0 (by omega)] at q
            have el : zLt B h f g w = -1 := by unfold zLt; rw [if_neg (by omega)]
            rw [el]
        · refine mk (nI (zWk B h f g w)) ⟨fun q => absurd q nneg, fun _ => ⟨fun _ => ⟨fun _ => ⟨fun _ => ⟨_, _, hdb, rfl⟩, fun q => absurd q (by decide)⟩, fun q => absurd q (by decide)⟩, fun q => absurd hlt q⟩⟩ ⟨fun _ => ⟨fun q => absurd q (by decide), fun _ => ⟨fun _ => ⟨_, _, y_daysOfWeek ok hY0 hw, rfl⟩, fun q => absurd q (by decide)⟩⟩, fun q => absurd q z_10⟩
      · rw [decide_eq_false h1] at mk
        refine mk (-1) ?_ ⟨fun q => absurd nI_0 q, fun _ => rfl⟩
        rcases h2 with ⟨h2, -⟩ | ⟨h2, -, h3⟩
        · exact ⟨fun _ => rfl, fun q => absurd h2 q⟩
        · refine ⟨fun _ => rfl, fun _ => ⟨fun q => ?_, fun _ => rfl⟩⟩
          rw [Int32.lt_iff_toInt_lt] at q
          rw [Int32.le_iff_toInt_le] at h2
          omega
    · exact ⟨_, _, _, _, c_X11_weekOf ok (Or.inl ⟨_, _, z_requireDate0 ok hn hq, Or.inr ⟨_, _, z_range1 ok hy (by decide) (by decide), rfl⟩⟩), c_X12_weekOf ok (R := (.ok (nI 0), sj_st (sj_st σ 56 0 (nI 0)) 56 0 (nI 1))) ⟨_, _, y_noDate0 ok zT00 hn hq, fun q => absurd nI_0 q, fun _ => ⟨_, _, y_inr0 ok (B := 2) hy (by decide), _, _, y_fails0 ok zT00 (by decide), fun q => absurd q z_10, fun _ => rfl⟩⟩, zSame_er (by decide) z_ste, zI2_th2 hA⟩
  · exact ⟨_, _, _, _, c_X11_weekOf ok (Or.inr ⟨_, _, z_requireDate1 ok hx, rfl⟩), c_X12_weekOf ok (R := (.ok (nI 0), sj_st (sj_st σ 56 0 (nI 0)) 56 0 (nI 1))) ⟨_, _, y_noDate1 ok zT00 hx, fun _ => rfl, fun q => absurd q z_10⟩, zSame_er (by decide) z_ste, zI2_th2 hA⟩
/-! ### setYear, holiday -/
theorem zIY_th2 {c e : Int32} (hA : zA σ) (hR : zYR σ) : zIY σ (sj_st (sj_st σ 56 0 c) 56 0 e) := by
  obtain ⟨B, y0, h, f, g, hY⟩ := hR
  exact ⟨(zI2_th2 hA).1, ⟨B, y0, h, f, g, zYr_th (zYr_th hY)⟩, fun b hb => by rw [z_stn (zne (by decide) hb), z_stn (zne (by decide) hb)], fun k hk => by rw [z_sti (zne (by decide) hk), z_sti (zne (by decide) hk)], by rw [z_stn (by decide), z_stn (by decide)]⟩
theorem z_beginAt (ok : sj_ok G) (hY : zYr σ B y0 h f g) {x : Int32} : sj_C G 3 me_X10_beginAt [.ref (sj_ad G 50), .int x] σ (.ok (nI y0), sj_up (sj_st (sj_st σ 50 1 x) 50 2 (nI 0)) 51 (fun i => if i < 280 then nI 0 else σ 51 i)) := by
  obtain ⟨k, m, d, h1, h2, h3, h4, -, -, -, ea, e⟩ := qDt_eq hY.1
  rw [hY.2.2.1] at e
  have hda := z_dateAt (σ := σ) ok (show k < 114 by omega) h3 h4
  rw [← ea, ← e, ← hY.2.2.2.2.2.1] at hda
  refine c_X10_beginAt ok ⟨_, _, hda, ?_⟩
  have key : ∀ j i, i + j = 280 → sj_J G 3 me_X10_beginAt (.ok (nI y0), sj_up (sj_st (sj_st σ 50 1 x) 50 2 (nI 0)) 51 (fun i => if i < 280 then nI 0 else σ 51 i)) 21 [.ref (sj_ad G 50), .null, .int (nI y0), .int (nI i)] (sj_up (sj_st (sj_st σ 50 1 x) 50 2 (nI 0)) 51 (fun q => if q < i then nI 0 else σ 51 q)) [] := by
    intro j
    induction j with
    | zero =>
      intro i hi
      have : i = 280 := by omega
      subst this
      exact t_X10_beginAt_21 ⟨fun _ => rfl, fun q => absurd (nI_le (by omega) (by omega)) q⟩
    | succ j ih =>
      intro i hi
      have h9 := ih (i + 1) (by omega)
      refine t_X10_beginAt_21 ⟨fun q => absurd q (nI_ge (by omega) (by decide)), fun _ => ⟨z_in (by omega) (by decide), ?_⟩⟩
      rw [nI_clamp (by omega), nI_add, z_st_up]
      have ef : upd (fun q => if q < i then nI 0 else σ 51 q) i (nI 0) = fun q => if q < i + 1 then nI 0 else σ 51 q := by
        funext q
        unfold upd
        by_cases r : q = i
        · rw [if_pos r, if_pos (by omega)]
        · rw [if_neg r]
          show (if q < i then nI 0 else σ 51 q) = _
          by_cases r2 : q < i
          · rw [if_pos r2, if_pos (by omega)]
          · rw [if_neg r2, if_neg (by omega)]
      rw [ef]
      exact h9
  have h0 := key 280 0 (by omega)
  have e0 : sj_up (sj_st (sj_st σ 50 1 x) 50 2 (nI 0)) 51 (fun q => if q < 0 then nI 0 else σ 51 q) = sj_st (sj_st σ 50 1 x) 50 2 (nI 0) := by
    have : (fun q => if q < 0 then nI 0 else σ 51 q) = (sj_st (sj_st σ 50 1 x) 50 2 (nI 0)) 51 := by
      funext q
      rw [if_neg (by omega), z_stn (by decide), z_stn (by decide)]
    rw [this, z_up_self]
  rw [e0] at h0
  exact h0
theorem p_setYear (ok : sj_ok G) (hA : zA σ) (hR : zYR σ) (x : Int32) : zPair G (zIY σ) 10 me_X11_setYear 6 me_X12_setYear [.int x] (zcd 1 0 0) σ := by
  have hR' := hR
  obtain ⟨B, y0, h, f, g, hY⟩ := hR
  rcases z_dt x with ⟨n, hn, rfl, hq⟩ | hx
  · have hN := qDay_bd hq
    by_cases h7 : qDay n % 7 = 0
    · have hb := z_beginAt (x := nI (qDay n + 7305)) ok hY
      generalize eτ : sj_up (sj_st (sj_st σ 50 1 (nI (qDay n + 7305))) 50 2 (nI 0)) 51 (fun i => if i < 280 then nI 0 else σ 51 i) = τ at hb
      have hw := z_weekday (σ := σ) (N := qDay n) ok (by omega)
      rw [h7] at hw
      have hτ : ∀ b, b ≠ 50 → b ≠ 51 → τ b = σ b := fun b h1 h2 => by rw [← eτ, z_upn h2, z_stn h1, z_stn h1]
      have t1 : τ 50 1 = nI (qDay n + 7305) := by rw [← eτ, z_upn (by decide), z_sti (by decide), z_ste]
      have t2 : τ 50 2 = nI 0 := by rw [← eτ, z_upn (by decide), z_ste]
      have t51 : ∀ p, p < 280 → τ 51 p = nI 0 := fun p hp => by
        rw [← eτ, sj_up_s]
        exact if_pos hp
      have hm : sj_C G 6 me_X12_setYear [.ref (sj_ad G 56), .int (nI n)] τ (.ok (nI y0), sj_st (sj_st (sj_st τ 56 0 (nI 0)) 56 21 (nI n)) 56 22 (nI 0)) := by
        refine c_X12_setYear ok ⟨_, _, y_noDate0 ok zT00 hn hq, fun q => absurd nI_0 q, fun _ => ⟨_, _, y_dayOf ok hn hq, ?_⟩⟩
        unfold wp_X12_setYear_29
        rw [z_rem (by omega) (by decide) (by decide), h7, if_pos nI_0]
        refine ⟨_, _, y_fails1 ok zT00, fun _ => ?_, fun q => absurd nI_0 q⟩
        rw [z_sti (by decide), hτ 56 (by decide) (by decide), hY.2.2.2.2.2.2.2.1]
      refine ⟨.ok (nI y0), τ, nI y0, _, c_X11_setYear ok (Or.inl ⟨_, _, z_requireDate0 ok hn hq, _, _, hw, fun _ => ⟨_, _, hb, rfl⟩, fun q => absurd nI_0 q⟩), hm, zSame_ok (by rw [z_sti (by decide), z_sti (by decide), z_ste]) rfl, ?_⟩
      have hn56 : ∀ b, b ≠ 50 → b ≠ 51 → b ≠ 56 → sj_st (sj_st (sj_st τ 56 0 (nI 0)) 56 21 (nI n)) 56 22 (nI 0) b = σ b := fun b h1 h2 h3 => by
        rw [z_stn h3, z_stn h3, z_stn h3, hτ b h1 h2]
      have h56 : ∀ k, k ≠ 0 → k ≠ 21 → k ≠ 22 → sj_st (sj_st (sj_st τ 56 0 (nI 0)) 56 21 (nI n)) 56 22 (nI 0) 56 k = σ 56 k := fun k h1 h2 h3 => by
        rw [z_sti h3, z_sti h2, z_sti h1, hτ 56 (by decide) (by decide)]
      refine ⟨zA_of hA (fun b hb => hn56 b (zne (by decide) hb) (zne (by decide) hb) (zne (by decide) hb)) (h56 3 (by decide) (by decide) (by decide)) (h56 7 (by decide) (by decide) (by decide)) (by rw [hn56 30 (by decide) (by decide) (by decide)]), ⟨qDay n, n, 0, f, g, hq, hn, rfl, h7, by decide, ?_, ?_, ?_, ?_, fun k hk => absurd hk (Nat.not_lt_zero k), fun p hp => ?_⟩, fun b hb => hn56 b (zne (by decide) hb) (zne (by decide) hb) (zne (by decide) hb), fun k hk => h56 k (zne (by decide) hk) (zne (by decide) hk) (zne (by decide) hk), by rw [hn56 30 (by decide) (by decide) (by decide)]⟩
      · rw [z_stn (by decide), z_stn (by decide), z_stn (by decide)]; exact t1
      · rw [z_stn (by decide), z_stn (by decide), z_stn (by decide)]; exact t2
      · rw [z_sti (by decide), z_ste]
      · rw [z_ste]
      · rw [z_stn (by decide), z_stn (by decide), z_stn (by decide)]
        exact t51 p hp
    · have hw := z_weekday (σ := σ) (N := qDay n) ok (by omega)
      have hne : ¬ nI (qDay n % 7) = 0 := by rw [z_eq0 (by omega)]; exact h7
      refine ⟨.error 1, σ, nI 0, sj_st (sj_st σ 56 0 (nI 0)) 56 0 (nI 1), c_X11_setYear ok (Or.inl ⟨_, _, z_requireDate0 ok hn hq, _, _, hw, fun q => absurd q hne, fun _ => rfl⟩), c_X12_setYear ok ⟨_, _, y_noDate0 ok zT00 hn hq, fun q => absurd nI_0 q, fun _ => ⟨_, _, y_dayOf ok hn hq, ?_⟩⟩, zSame_er (by decide) z_ste, zIY_th2 hA hR'⟩
      unfold wp_X12_setYear_29
      rw [z_rem (by omega) (by decide) (by decide), if_neg hne]
      exact ⟨_, _, y_fails0 ok zT00 (by decide), fun q => absurd q z_10, fun _ => rfl⟩
  · exact ⟨_, _, _, _, c_X11_setYear ok (Or.inr ⟨_, _, z_requireDate1 ok hx, rfl⟩), c_X12_setYear ok (R := (.ok (nI 0), sj_st (sj_st σ 56 0 (nI 0)) 56 0 (nI 1))) ⟨_, _, y_noDate1 ok zT00 hx, fun _ => rfl, fun q => absurd q z_10⟩, zSame_er (by decide) z_ste, zIY_th2 hA hR'⟩
theorem z_sublt {a b p : Nat} (ha : a < 2 ^ 30) (hb : b < 2 ^ 30) (hp : p < 2 ^ 30) : (nI a - nI b < nI p) = (a < b + p) := by
  rw [Int32.lt_iff_toInt_lt, pk_sub_toInt ha hb, nI_toInt (by omega)]
  exact propext ⟨fun h => by omega, fun h => by omega⟩
theorem z_addHoliday (ok : sj_ok G) (hY : zYr σ B y0 h f g) {F L : Nat} (hF : F < 41000) (hL : L < 41000) : sj_C G 2 me_X10_addHoliday [.ref (sj_ad G 50), .int (nI (F + 7305)), .int (nI (L + 7305))] σ (.ok (nI (h + 1)), sj_st (sj_up σ 51 (fun i => if F ≤ B + i ∧ i < 280 ∧ B + i ≤ L then nI 1 else σ 51 i)) 50 2 (nI (h + 1))) := by
  have hB := zYr_B hY
  have hb1 : σ 50 1 = nI (B + 7305) := hY.2.2.2.2.2.1
  have hb2 : σ 50 2 = nI h := hY.2.2.2.2.2.2.1
  refine c_X10_addHoliday ok ?_
  unfold wp_X10_addHoliday_0
  have es : (if (nI (F + 7305) - (σ 50 1)) < nI 0 then nI 0 else (nI (F + 7305) - (σ 50 1))) = nI (F - B) := by
    rw [hb1]
    by_cases q : F < B
    · rw [if_pos (by rw [nI_0]; exact pk_sneg (by omega) (by omega)), show F - B = 0 by omega]
    · rw [pk_sub (by omega), if_neg (by rw [nI_0]; exact nI_pos (by omega)), show F + 7305 - (B + 7305) = F - B by omega]
  rw [es]
  have hend : ∀ i, (280 ≤ i ∨ L < B + i) → F ≤ B + i → wp_X10_addHoliday_41 G (.ok (nI (h + 1)), sj_st (sj_up σ 51 (fun i => if F ≤ B + i ∧ i < 280 ∧ B + i ≤ L then nI 1 else σ 51 i)) 50 2 (nI (h + 1))) (sj_up σ 51 (fun q => if F ≤ B + q ∧ q < i ∧ q < 280 ∧ B + q ≤ L then nI 1 else σ 51 q)) := by
    intro i hi hFi
    unfold wp_X10_addHoliday_41
    have ef : (fun q => if F ≤ B + q ∧ q < i ∧ q < 280 ∧ B + q ≤ L then nI 1 else σ 51 q) = (fun i => if F ≤ B + i ∧ i < 280 ∧ B + i ≤ L then nI 1 else σ 51 i) := by
      funext q
      by_cases r : F ≤ B + q ∧ q < 280 ∧ B + q ≤ L
      · rw [if_pos r, if_pos (by omega)]
      · rw [if_neg r, if_neg (by omega)]
    rw [ef, show sj_up σ 51 (fun i => if F ≤ B + i ∧ i < 280 ∧ B + i ≤ L then nI 1 else σ 51 i) 50 2 = σ 50 2 by rw [z_upn (by decide)], hb2, nI_add]
  have key : ∀ j i, 280 ≤ i + j → i < 50000 → F ≤ B + i → sj_J G 2 me_X10_addHoliday (.ok (nI (h + 1)), sj_st (sj_up σ 51 (fun i => if F ≤ B + i ∧ i < 280 ∧ B + i ≤ L then nI 1 else σ 51 i)) 50 2 (nI (h + 1))) 11 [.ref (sj_ad G 50), .null, .int (nI (L + 7305)), .int (nI i)] (sj_up σ 51 (fun q => if F ≤ B + q ∧ q < i ∧ q < 280 ∧ B + q ≤ L then nI 1 else σ 51 q)) [] := by
    intro j
    induction j with
    | zero =>
      intro i hi hl hFi
      exact t_X10_addHoliday_11 ⟨fun _ => hend i (Or.inl (by omega)) hFi, fun q => absurd (nI_le (by omega) (by omega)) q⟩
    | succ j ih =>
      intro i hi hl hFi
      refine t_X10_addHoliday_11 ⟨fun q => ?_, fun q => ?_⟩
      · rw [nI_leI (by decide) (by omega)] at q
        exact hend i (Or.inl q) hFi
      · rw [nI_leI (by decide) (by omega)] at q
        rw [show sj_up σ 51 (fun q => if F ≤ B + q ∧ q < i ∧ q < 280 ∧ B + q ≤ L then nI 1 else σ 51 q) 50 1 = σ 50 1 by rw [z_upn (by decide)], hb1, z_sublt (by omega) (by omega) (by omega)]
        refine ⟨fun r => hend i (Or.inr (by omega)) hFi, fun r => ⟨z_in (by omega) (by decide), ?_⟩⟩
        have h9 := ih (i + 1) (by omega) (by omega) (by omega)
        rw [nI_clamp (by omega), nI_add, z_st_up]
        have ef : upd (fun q => if F ≤ B + q ∧ q < i ∧ q < 280 ∧ B + q ≤ L then nI 1 else σ 51 q) i (nI 1) = fun q => if F ≤ B + q ∧ q < i + 1 ∧ q < 280 ∧ B + q ≤ L then nI 1 else σ 51 q := by
          funext q
          unfold upd
          by_cases r : q = i
          · rw [if_pos r, if_pos (by omega)]
          · rw [if_neg r]
            show (if F ≤ B + q ∧ q < i ∧ q < 280 ∧ B + q ≤ L then nI 1 else σ 51 q) = _
            by_cases r2 : F ≤ B + q ∧ q < i ∧ q < 280 ∧ B + q ≤ L
            · rw [if_pos r2, if_pos (by omega)]
            · rw [if_neg r2, if_neg (by omega)]
        rw [ef]
        exact h9
  have h0 := key 280 (F - B) (by omega) (by omega) (by omega)
  have e0 : sj_up σ 51 (fun q => if F ≤ B + q ∧ q < F - B ∧ q < 280 ∧ B + q ≤ L then nI 1 else σ 51 q) = σ := by
    have : (fun q => if F ≤ B + q ∧ q < F - B ∧ q < 280 ∧ B + q ≤ L then nI 1 else σ 51 q) = σ 51 := by
      funext q
      rw [if_neg (by omega)]
    rw [this, z_up_self]
  rw [e0] at h0
  exact h0
theorem p_holiday (ok : sj_ok G) (hA : zA σ) (hR : zYR σ) (x y : Int32) : zPair G (zIY σ) 10 me_X11_holiday 6 me_X12_holiday [.int x, .int y] (zcd 1 2 0) σ := by
  have hR' := hR
  obtain ⟨B, y0, h, f, g, hY⟩ := hR
  have hh : h ≤ 10 := hY.2.2.2.2.1
  have hb2 : σ 50 2 = nI h := hY.2.2.2.2.2.2.1
  have hm2 : σ 56 22 = nI h := hY.2.2.2.2.2.2.2.2.1
  rcases z_dt x with ⟨a, ha, rfl, hqa⟩ | hx
  · have hNa := qDay_bd hqa
    rcases z_dt y with ⟨b, hb, rfl, hqb⟩ | hy
    · have hNb := qDay_bd hqb
      by_cases hab : a ≤ b
      · have hdd : qDay a ≤ qDay b := (qDay_lt hqa hqb).mpr hab
        by_cases h10 : h < 10
        · have hc := z_addHoliday (F := qDay a) (L := qDay b) ok hY (by omega) (by omega)
          generalize eτ : sj_st (sj_up σ 51 (fun i => if qDay a ≤ B + i ∧ i < 280 ∧ B + i ≤ qDay b then nI 1 else σ 51 i)) 50 2 (nI (h + 1)) = τ at hc
          have hτ : ∀ b, b ≠ 50 → b ≠ 51 → τ b = σ b := fun b h1 h2 => by rw [← eτ, z_stn h1, z_upn h2]
          have t1 : τ 50 1 = σ 50 1 := by rw [← eτ, z_sti (by decide), z_upn (by decide)]
          have t2 : τ 50 2 = nI (h + 1) := by rw [← eτ, z_ste]
          have t51 : ∀ p, p < 280 → τ 51 p = if qDay a ≤ B + p ∧ p < 280 ∧ B + p ≤ qDay b then nI 1 else σ 51 p := fun p hp => by
            rw [← eτ, z_stn (by decide), sj_up_s]
          have k22 : (sj_st τ 56 0 (nI 0)) 56 22 = nI h := by rw [z_sti (by decide), hτ 56 (by decide) (by decide)]; exact hm2
          have hm : sj_C G 6 me_X12_holiday [.ref (sj_ad G 56), .int (nI a), .int (nI b)] τ (.ok (nI (h + 1)), sj_st (sj_st (sj_st (sj_st τ 56 0 (nI 0)) 73 h (nI (qDay a))) 74 h (nI (qDay b))) 56 22 (nI (h + 1))) := by
            refine c_X12_holiday ok ⟨_, _, y_noDate0 ok zT00 ha hqa, fun q => absurd nI_0 q, fun _ => ⟨_, _, y_noDate0 ok zT00 hb hqb, fun q => absurd nI_0 q, fun _ => ?_⟩⟩
            unfold wp_X12_holiday_32
            rw [if_neg (nI_nlt hab (by omega))]
            refine ⟨_, _, y_fails1 ok zT00, fun q => absurd nI_0 q, fun _ => ?_⟩
            unfold wp_X12_holiday_54
            rw [k22, if_neg (nI_ge h10 (by decide))]
            refine ⟨_, _, y_fails1 ok zT00, fun _ => ⟨_, _, y_dayOf ok ha hqa, by rw [k22]; exact z_in h10 (by decide), _, _, y_dayOf ok hb hqb, ?_, ?_⟩, fun q => absurd nI_0 q⟩
            · rw [k22]
              exact z_in h10 (by decide)
            · have e1 : (sj_st (sj_st τ 56 0 (nI 0)) 73 (nI h).toNatClampNeg (nI (qDay a))) 56 22 = nI h := by rw [z_stn (by decide), k22]
              rw [k22, e1, nI_clamp (by omega), nI_add]
          refine ⟨.ok (nI (h + 1)), τ, nI (h + 1), _, c_X11_holiday ok (Or.inl ⟨_, _, z_requireDate0 ok ha hqa, Or.inl ⟨_, _, z_requireDate0 ok hb hqb, fun _ => ⟨fun _ => ⟨_, _, hc, rfl⟩, fun q => ?_⟩, fun q => absurd (nI_le (by omega) (by omega)) q⟩⟩), hm, zSame_ok (by rw [z_sti (by decide), z_stn (by decide), z_stn (by decide), z_ste]) rfl, ?_⟩
          · rw [hb2] at q
            exact absurd (nI_lt h10 (by decide)) q
          · have hn56 : ∀ b', b' ≠ 50 → b' ≠ 51 → b' ≠ 56 → b' ≠ 73 → b' ≠ 74 → sj_st (sj_st (sj_st (sj_st τ 56 0 (nI 0)) 73 h (nI (qDay a))) 74 h (nI (qDay b))) 56 22 (nI (h + 1)) b' = σ b' := fun b' h1 h2 h3 h4 h5 => by
              rw [z_stn h3, z_stn h5, z_stn h4, z_stn h3, hτ b' h1 h2]
            have h56 : ∀ k, k ≠ 0 → k ≠ 22 → sj_st (sj_st (sj_st (sj_st τ 56 0 (nI 0)) 73 h (nI (qDay a))) 74 h (nI (qDay b))) 56 22 (nI (h + 1)) 56 k = σ 56 k := fun k h1 h2 => by
              rw [z_sti h2, z_stn (by decide), z_stn (by decide), z_sti h1, hτ 56 (by decide) (by decide)]
            refine ⟨zA_of hA (fun b hb => hn56 b (zne (by decide) hb) (zne (by decide) hb) (zne (by decide) hb) (zne (by decide) hb) (zne (by decide) hb)) (h56 3 (by decide) (by decide)) (h56 7 (by decide) (by decide)) (by rw [hn56 30 (by decide) (by decide) (by decide) (by decide) (by decide)]), ⟨B, y0, h + 1, fun k => if k = h then qDay a else f k, fun k => if k = h then qDay b else g k, hY.1, hY.2.1, hY.2.2.1, hY.2.2.2.1, by omega, ?_, ?_, ?_, ?_, fun k hk => ?_, fun p hp => ?_⟩, fun b hb => hn56 b (zne (by decide) hb) (zne (by decide) hb) (zne (by decide) hb) (zne (by decide) hb) (zne (by decide) hb), fun k hk => h56 k (zne (by decide) hk) (zne (by decide) hk), by rw [hn56 30 (by decide) (by decide) (by decide) (by decide) (by decide)]⟩
            · rw [z_stn (by decide), z_stn (by decide), z_stn (by decide), z_stn (by decide), t1]; exact hY.2.2.2.2.2.1
            · rw [z_stn (by decide), z_stn (by decide), z_stn (by decide), z_stn (by decide)]; exact t2
            · rw [h56 21 (by decide) (by decide)]; exact hY.2.2.2.2.2.2.2.1
            · rw [z_ste]
            · have e73 : sj_st (sj_st (sj_st (sj_st τ 56 0 (nI 0)) 73 h (nI (qDay a))) 74 h (nI (qDay b))) 56 22 (nI (h + 1)) 73 k = if k = h then nI (qDay a) else σ 73 k := by
                rw [z_stn (by decide), z_stn (by decide)]
                by_cases r : k = h
                · rw [r, if_pos rfl, z_ste]
                · rw [if_neg r, z_sti r, z_stn (by decide), hτ 73 (by decide) (by decide)]
              have e74 : sj_st (sj_st (sj_st (sj_st τ 56 0 (nI 0)) 73 h (nI (qDay a))) 74 h (nI (qDay b))) 56 22 (nI (h + 1)) 74 k = if k = h then nI (qDay b) else σ 74 k := by
                rw [z_stn (by decide)]
                by_cases r : k = h
                · rw [r, if_pos rfl, z_ste]
                · rw [if_neg r, z_sti r, z_stn (by decide), z_stn (by decide), hτ 74 (by decide) (by decide)]
              rw [e73, e74]
              by_cases r : k = h
              · simp only [r, if_true]
                exact ⟨by trivial, by trivial, by omega, by omega⟩
              · simp only [r, if_false]
                exact hY.2.2.2.2.2.2.2.2.2.1 k (by omega)
            · rw [z_stn (by decide), z_stn (by decide), z_stn (by decide), z_stn (by decide), t51 p hp, hY.2.2.2.2.2.2.2.2.2.2 p hp]
              have e9 : zHo (fun k => if k = h then qDay a else f k) (fun k => if k = h then qDay b else g k) (B + p) (h + 1) = (zHo f g (B + p) h || (decide (qDay a ≤ B + p) && decide (B + p ≤ qDay b))) := by
                show (zHo (fun k => if k = h then qDay a else f k) (fun k => if k = h then qDay b else g k) (B + p) h || (decide ((if h = h then qDay a else f h) ≤ B + p) && decide (B + p ≤ (if h = h then qDay b else g h)))) = _
                rw [if_pos rfl, if_pos rfl, zHo_congr h (fun k hk => ⟨if_neg (by omega), if_neg (by omega)⟩)]
              rw [e9]
              by_cases r : qDay a ≤ B + p ∧ B + p ≤ qDay b
              · rw [if_pos ⟨r.1, hp, r.2⟩, decide_eq_true r.1, decide_eq_true r.2]
                simp
              · rw [if_neg (by omega), show (decide (qDay a ≤ B + p) && decide (B + p ≤ qDay b)) = false by rw [Bool.and_eq_false_iff, decide_eq_false_iff_not, decide_eq_false_iff_not]; omega, Bool.or_false]
        · have h10 : h = 10 := by omega
          subst h10
          have k22 : (sj_st σ 56 0 (nI 0)) 56 22 = nI 10 := by rw [z_sti (by decide)]; exact hm2
          refine ⟨.error 2, σ, nI 0, sj_st (sj_st σ 56 0 (nI 0)) 56 0 (nI 2), c_X11_holiday ok (Or.inl ⟨_, _, z_requireDate0 ok ha hqa, Or.inl ⟨_, _, z_requireDate0 ok hb hqb, fun _ => ⟨fun q => ?_, fun _ => rfl⟩, fun q => absurd (nI_le (by omega) (by omega)) q⟩⟩), c_X12_holiday ok ⟨_, _, y_noDate0 ok zT00 ha hqa, fun q => absurd nI_0 q, fun _ => ⟨_, _, y_noDate0 ok zT00 hb hqb, fun q => absurd nI_0 q, fun _ => ?_⟩⟩, zSame_er (by decide) z_ste, zIY_th2 hA hR'⟩
          · rw [hb2] at q
            exact absurd q (nI_nlt (by decide) (by decide))
          · unfold wp_X12_holiday_32
            rw [if_neg (nI_nlt hab (by omega))]
            refine ⟨_, _, y_fails1 ok zT00, fun q => absurd nI_0 q, fun _ => ?_⟩
            unfold wp_X12_holiday_54
            rw [k22, if_pos (nI_le (by decide) (by decide))]
            exact ⟨_, _, y_fails0 ok zT00 (by decide), fun q => absurd q z_10, fun _ => rfl⟩
      · have hdd : ¬ qDay a ≤ qDay b := fun q => hab ((qDay_lt hqa hqb).mp q)
        refine ⟨.error 1, σ, nI 0, sj_st (sj_st σ 56 0 (nI 0)) 56 0 (nI 1), c_X11_holiday ok (Or.inl ⟨_, _, z_requireDate0 ok ha hqa, Or.inl ⟨_, _, z_requireDate0 ok hb hqb, fun q => absurd q (nI_ge (by omega) (by omega)), fun _ => rfl⟩⟩), c_X12_holiday ok ⟨_, _, y_noDate0 ok zT00 ha hqa, fun q => absurd nI_0 q, fun _ => ⟨_, _, y_noDate0 ok zT00 hb hqb, fun q => absurd nI_0 q, fun _ => ?_⟩⟩, zSame_er (by decide) z_ste, zIY_th2 hA hR'⟩
        unfold wp_X12_holiday_32
        rw [if_pos (nI_lt (by omega) (by omega))]
        exact ⟨_, _, y_fails0 ok zT00 (by decide), fun _ => rfl, fun q => absurd q z_10⟩
    · exact ⟨_, _, _, _, c_X11_holiday ok (Or.inl ⟨_, _, z_requireDate0 ok ha hqa, Or.inr ⟨_, _, z_requireDate1 ok hy, rfl⟩⟩), c_X12_holiday ok (R := (.ok (nI 0), sj_st (sj_st σ 56 0 (nI 0)) 56 0 (nI 1))) ⟨_, _, y_noDate0 ok zT00 ha hqa, fun q => absurd nI_0 q, fun _ => ⟨_, _, y_noDate1 ok zT00 hy, fun _ => rfl, fun q => absurd q z_10⟩⟩, zSame_er (by decide) z_ste, zIY_th2 hA hR'⟩
  · exact ⟨_, _, _, _, c_X11_holiday ok (Or.inr ⟨_, _, z_requireDate1 ok hx, rfl⟩), c_X12_holiday ok (R := (.ok (nI 0), sj_st (sj_st σ 56 0 (nI 0)) 56 0 (nI 1))) ⟨_, _, y_noDate1 ok zT00 hx, fun _ => rfl, fun q => absurd q z_10⟩, zSame_er (by decide) z_ste, zIY_th2 hA hR'⟩
end ZYQ
