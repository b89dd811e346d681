/-! YEAR, PAIRS 2: weekOf, setYear, holiday -/
theorem zHo_congr {f g f' g' : Nat → Nat} {n : Nat} : ∀ h, (∀ k, k < h → f' k = f k ∧ g' k = g k) → zHo f' g' n h = zHo f g n h := by
  intro h
  induction h with
  | zero => intro _; rfl
  | succ h ih =>
    intro q
    obtain ⟨q1, q2⟩ := q h (by omega)
    show (zHo f' g' n h || (decide (f' h ≤ n) && decide (n ≤ g' h))) = (zHo f g n h || (decide (f h ≤ n) && decide (n ≤ g h)))
    rw [ih (fun k hk => q k (by omega)), q1, q2]
section ZYQ
variable {G : sj_G} {σ : sj_S} {B y0 h : Nat} {f g : Nat → Nat}
/-! ### setYear, holiday -/
theorem z_beginAt (ok : sj_ok G) (hY : zYr σ B y0 h f g) {x : Int32} : sj_C G 3 me_X10_beginAt [.ref (sj_ad G 50), .int x] σ (.ok (nI y0), sj_up (sj_st (sj_st σ 50 1 x) 50 2 (nI 0)) 51 (fun i => if i < 280 then nI 0 else σ 51 i)) := by
  obtain ⟨k, m, d, h1, h2, h3, h4, -, -, -, ea, e⟩ := qDt_eq hY.1
  rw [hY.2.2.1] at e
  have hda := z_dateAt (σ := σ) ok (show k < 114 by omega) h3 h4
  rw [← ea, ← e, ← hY.2.2.2.2.2.1] at hda
  refine c_X10_beginAt ok ⟨_, _, hda, ?_⟩
  have key : ∀ j i, i + j = 280 → sj_J G 3 me_X10_beginAt (.ok (nI y0), sj_up (sj_st (sj_st σ 50 1 x) 50 2 (nI 0)) 51 (fun i => if i < 280 then nI 0 else σ 51 i)) 21 [.ref (sj_ad G 50), .null, .int (nI y0), .int (nI i)] (sj_up (sj_st (sj_st σ 50 1 x) 50 2 (nI 0)) 51 (fun q => if q < i then nI 0 else σ 51 q)) [] := by
    intro j
    induction j with
    | zero =>
      intro i hi
      have : i = 280 := by omega
      subst this
      exact t_X10_beginAt_21 ⟨fun _ => rfl, fun q => absurd (nI_le (by omega) (by omega)) q⟩
    | succ j ih =>
      intro i hi
      have h9 := ih (i + 1) (by omega)
      refine t_X10_beginAt_21 ⟨fun q => absurd q (nI_ge (by omega) (by decide)), fun _ => ⟨z_in (by omega) (by decide), ?_⟩⟩
      rw [nI_clamp (by omega), nI_add, z_st_up]
      have ef : upd (fun q => if q < i then nI 0 else σ 51 q) i (nI 0) = fun q => if q < i + 1 then nI 0 else σ 51 q := by
        funext q
        unfold upd
        by_cases r : q = i
        · rw [if_pos r, if_pos (by omega)]
        · rw [if_neg r]
          show (if q < i then nI 0 else σ 51 q) = _
          by_cases r2 : q < i
          · rw [if_pos r2, if_pos (by omega)]
          · rw [if_neg r2, if_neg (by omega)]
      rw [ef]
      exact h9
  have h0 := key 280 0 (by omega)
  have e0 : sj_up (sj_st (sj_st σ 50 1 x) 50 2 (nI 0)) 51 (fun q => if q < 0 then nI 0 else σ 51 q) = sj_st (sj_st σ 50 1 x) 50 2 (nI 0) := by
    have : (fun q => if q < 0 then nI 0 else σ 51 q) = (sj_st (sj_st σ 50 1 x) 50 2 (nI 0)) 51 := by
      funext q
      rw [if_neg (by omega), z_stn (by decide), z_stn (by decide)]
    rw [this, z_up_self]
  rw [e0] at h0
  exact h0
theorem z_sublt {a b p : Nat} (ha : a < 2 ^ 30) (hb : b < 2 ^ 30) (hp : p < 2 ^ 30) : (nI a - nI b < nI p) = (a < b + p) := by
  rw [Int32.lt_iff_toInt_lt, pk_sub_toInt ha hb, nI_toInt (by omega)]
  exact propext ⟨fun h => by omega, fun h => by omega⟩
theorem z_addHoliday (ok : sj_ok G) (hY : zYr σ B y0 h f g) {F L : Nat} (hF : F < 41000) (hL : L < 41000) : sj_C G 2 me_X10_addHoliday [.ref (sj_ad G 50), .int (nI (F + 7305)), .int (nI (L + 7305))] σ (.ok (nI (h + 1)), sj_st (sj_up σ 51 (fun i => if F ≤ B + i ∧ i < 280 ∧ B + i ≤ L then nI 1 else σ 51 i)) 50 2 (nI (h + 1))) := by
  have hB := zYr_B hY
  have hb1 : σ 50 1 = nI (B + 7305) := hY.2.2.2.2.2.1
  have hb2 : σ 50 2 = nI h := hY.2.2.2.2.2.2.1
  refine c_X10_addHoliday ok ?_
  unfold wp_X10_addHoliday_0
  have es : (if (nI (F + 7305) - (σ 50 1)) < nI 0 then nI 0 else (nI (F + 7305) - (σ 50 1))) = nI (F - B) := by
    rw [hb1]
    by_cases q : F < B
    · rw [if_pos (by rw [nI_0]; exact pk_sneg (by omega) (by omega)), show F - B = 0 by omega]
    · rw [pk_sub (by omega), if_neg (by rw [nI_0]; exact nI_pos (by omega)), show F + 7305 - (B + 7305) = F - B by omega]
  rw [es]
  have hend : ∀ i, (280 ≤ i ∨ L < B + i) → F ≤ B + i → wp_X10_addHoliday_41 G (.ok (nI (h + 1)), sj_st (sj_up σ 51 (fun i => if F ≤ B + i ∧ i < 280 ∧ B + i ≤ L then nI 1 else σ 51 i)) 50 2 (nI (h + 1))) (sj_up σ 51 (fun q => if F ≤ B + q ∧ q < i ∧ q < 280 ∧ B + q ≤ L then nI 1 else σ 51 q)) := by
    intro i hi hFi
    unfold wp_X10_addHoliday_41
    have ef : (fun q => if F ≤ B + q ∧ q < i ∧ q < 280 ∧ B + q ≤ L then nI 1 else σ 51 q) = (fun i => if F ≤ B + i ∧ i < 280 ∧ B + i ≤ L then nI 1 else σ 51 i) := by
      funext q
      by_cases r : F ≤ B + q ∧ q < 280 ∧ B + q ≤ L
      · rw [if_pos r, if_pos (by omega)]
      · rw [if_neg r, if_neg (by omega)]
    rw [ef, show sj_up σ 51 (fun i => if F ≤ B + i ∧ i < 280 ∧ B + i ≤ L then nI 1 else σ 51 i) 50 2 = σ 50 2 by rw [z_upn (by decide)], hb2, nI_add]
  have key : ∀ j i, 280 ≤ i + j → i < 50000 → F ≤ B + i → sj_J G 2 me_X10_addHoliday (.ok (nI (h + 1)), sj_st (sj_up σ 51 (fun i => if F ≤ B + i ∧ i < 280 ∧ B + i ≤ L then nI 1 else σ 51 i)) 50 2 (nI (h + 1))) 11 [.ref (sj_ad G 50), .null, .int (nI (L + 7305)), .int (nI i)] (sj_up σ 51 (fun q => if F ≤ B + q ∧ q < i ∧ q < 280 ∧ B + q ≤ L then nI 1 else σ 51 q)) [] := by
    intro j
    induction j with
    | zero =>
      intro i hi hl hFi
      exact t_X10_addHoliday_11 ⟨fun _ => hend i (Or.inl (by omega)) hFi, fun q => absurd (nI_le (by omega) (by omega)) q⟩
    | succ j ih =>
      intro i hi hl hFi
      refine t_X10_addHoliday_11 ⟨fun q => ?_, fun q => ?_⟩
      · rw [nI_leI (by decide) (by omega)] at q
        exact hend i (Or.inl q) hFi
      · rw [nI_leI (by decide) (by omega)] at q
        rw [show sj_up σ 51 (fun q => if F ≤ B + q ∧ q < i ∧ q < 280 ∧ B + q ≤ L then nI 1 else σ 51 q) 50 1 = σ 50 1 by rw [z_upn (by decide)], hb1, z_sublt (by omega) (by omega) (by omega)]
        refine ⟨fun r => hend i (Or.inr (by omega)) hFi, fun r => ⟨z_in (by omega) (by decide), ?_⟩⟩
        have h9 := ih (i + 1) (by omega) (by omega) (by omega)
        rw [nI_clamp (by omega), nI_add, z_st_up]
        have ef : upd (fun q => if F ≤ B + q ∧ q < i ∧ q < 280 ∧ B + q ≤ L then nI 1 else σ 51 q) i (nI 1) = fun q => if F ≤ B + q ∧ q < i + 1 ∧ q < 280 ∧ B + q ≤ L then nI 1 else σ 51 q := by
          funext q
          unfold upd
          by_cases r : q = i
          · rw [if_pos r, if_pos (by omega)]
          · rw [if_neg r]
            show (if F ≤ B + q ∧ q < i ∧ q < 280 ∧ B + q ≤ L then nI 1 else σ 51 q) = _
            by_cases r2 : F ≤ B + q ∧ q < i ∧ q < 280 ∧ B + q ≤ L
            · rw [if_pos r2, if_pos (by omega)]
            · rw [if_neg r2, if_neg (by omega)]
        rw [ef]
        exact h9
  have h0 := key 280 (F - B) (by omega) (by omega) (by omega)
  have e0 : sj_up σ 51 (fun q => if F ≤ B + q ∧ q < F - B ∧ q < 280 ∧ B + q ≤ L then nI 1 else σ 51 q) = σ := by
    have : (fun q => if F ≤ B + q ∧ q < F - B ∧ q < 280 ∧ B + q ≤ L then nI 1 else σ 51 q) = σ 51 := by
      funext q
      rw [if_neg (by omega)]
    rw [this, z_up_self]
  rw [e0] at h0
  exact h0
end ZYQ
