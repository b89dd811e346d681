/-! exams: the reference's search; the pairs -/
def zKP : List Nat := [2, 3, 4, 5, 30, 32, 56, 57, 58, 62, 33, 46, 47, 48, 49, 50, 51, 52, 54, 55, 70, 71, 72, 73, 74, 75, 76]
section ZEM
variable {G : sj_G} {σ : sj_S} {D : zD}
theorem zI2_fr {σ' : sj_S} {c : Int32} (h : zA σ) (hf : ∀ b, b ∈ zKP → σ' b = sj_st σ 56 0 c b) : zI2 σ σ' := by
  obtain ⟨h1, h2, h3, h4⟩ := zI2_th (c := c) h
  have e1 : ∀ b, b ∈ [2, 3, 4, 5, 32, 57, 58, 62] → b ∈ zKP := by decide
  have e2 : ∀ b, b ∈ [33, 46, 47, 48, 49, 50, 51, 52, 54, 55, 70, 71, 72, 73, 74, 75, 76] → b ∈ zKP := by decide
  refine ⟨zA_of h1 (fun b hb => hf b (e1 b hb)) (by rw [hf 56 (by decide)]) (by rw [hf 56 (by decide)]) (by rw [hf 30 (by decide)]), fun b hb => ?_, fun k hk => ?_, ?_⟩
  · rw [hf b (e2 b hb)]; exact h2 b hb
  · rw [hf 56 (by decide)]; exact h3 k hk
  · rw [hf 30 (by decide)]; exact h4
theorem y_isDayGood (ok : sj_ok G) {f : Nat → Nat} {e c : Nat} (hA : σ 57 (108 + e) = nI (dAp D e)) (he : e < 8) (hc : σ 69 e = nI c ∧ c < 9) (hf : ∀ o, o < e → σ 69 o = nI (f o) ∧ f o < 9) :
    sj_C G 3 me_X12_isDayGood [.ref (sj_ad G 56), .int (nI e)] σ (.ok (if zEo D f e c then nI 1 else nI 0), σ) := by
  refine c_X12_isDayGood ok ?_
  have key : ∀ k i, i + k = e → q_any (fun o => (dAp D e).testBit o && decide (f o = c)) i = false → sj_J G 3 me_X12_isDayGood (.ok (if zEo D f e c then nI 1 else nI 0), σ) 2 [.ref (sj_ad G 56), .int (nI e), .int (nI i)] σ [] := by
    intro k
    induction k with
    | zero =>
      intro i hi hq
      obtain rfl : i = e := by omega
      refine t_X12_isDayGood_2 ⟨fun _ => ?_, fun q => absurd (nI_le (by omega) (by omega)) q⟩
      unfold zEo
      rw [hq]; rfl
    | succ k ih =>
      intro i hi hq
      obtain ⟨f1, f2⟩ := hf i (by omega)
      have hgo : ((dAp D e).testBit i && decide (f i = c)) = false → wp_X12_isDayGood_33 G (.ok (if zEo D f e c then nI 1 else nI 0), σ) (nI e) (nI i) σ := fun h => by
        unfold wp_X12_isDayGood_33
        rw [nI_add]
        refine ih (i + 1) (by omega) ?_
        show (q_any _ i || ((dAp D e).testBit i && decide (f i = c))) = false
        rw [hq, h]; rfl
      have ha := y_areApart (σ := σ) ok he (by omega : i < 32)
      rw [hA, z_bn _ _ (by omega)] at ha
      refine t_X12_isDayGood_2 ⟨fun q => absurd q (nI_ge (by omega) (by omega)), fun _ => ⟨_, _, ha, fun q => hgo ?_, fun q => ⟨z_in (by omega) (by decide), z_in (by omega) (by decide), ?_⟩⟩⟩
      · cases hb : (dAp D e).testBit i with
        | false => rfl
        | true => rw [hb] at q; exact absurd q z_10
      · have hb : (dAp D e).testBit i = true := by
          cases hb : (dAp D e).testBit i with
          | false => rw [hb] at q; exact absurd nI_0 q
          | true => rfl
        rw [nI_clamp (by omega), nI_clamp (by omega), f1, hc.1, nI_eq (by omega) (by omega)]
        refine ⟨fun q => hgo (by rw [decide_eq_false q, Bool.and_false]), fun q => ?_⟩
        have : zEo D f e c = false := by
          unfold zEo
          rw [Bool.not_eq_false', q_any_iff]
          exact ⟨i, by omega, by rw [hb, decide_eq_true q]; rfl⟩
        rw [this]; rfl
  exact key e 0 (by omega) rfl
theorem nI_m1a (c : Nat) : nI (c + 1) + (-1) = nI c := by
  have := pk_sub (by omega : 1 ≤ c + 1)
  rw [Nat.add_sub_cancel] at this
  rw [← this]
  rw [Int32.sub_eq_add_neg]; rfl
theorem y_plansJ (ok : sj_ok G) {days : Nat} (hd8 : days ≤ 8) (h1 : 1 ≤ days) : ∀ n e (f : Nat → Nat), e + (n + 1) = 8 → ∀ k c (σ : sj_S), c + k = days → (∀ e, e < 8 → σ 57 (108 + e) = nI (dAp D e)) → (∀ o, o < e → σ 69 o = nI (f o) ∧ f o < 9) → σ 69 e = nI c →
    ∃ v σ', zER σ 69 e (zEc (fun c => if zEo D f e c then zEf D days n (e + 1) (zEu f e c) else none) k c) v σ' ∧
      ∀ R, ((zEc (fun c => if zEo D f e c then zEf D days n (e + 1) (zEu f e c) else none) k c).isSome → R = (.ok v, σ')) →
        (zEc (fun c => if zEo D f e c then zEf D days n (e + 1) (zEu f e c) else none) k c = none → (e = 0 → R = (.ok (nI 0), σ')) ∧ ∀ m, e = m + 1 → sj_J G 4 me_X12_plansDays R 9 [.ref (sj_ad G 56), .int (nI days), .int (nI m)] σ' []) →
        sj_J G 4 me_X12_plansDays R 25 [.ref (sj_ad G 56), .int (nI days), .int (nI e)] σ [] := by
  intro n
  induction n with
  | zero =>
    intro e f he k
    induction k with
    | zero =>
      intro c σ hc hA hf hv
      refine ⟨nI 0, σ, ⟨fun _ _ => rfl, fun _ _ => rfl, fun _ => rfl, fun g hg => by cases hg⟩, fun R _ hR => ?_⟩
      obtain ⟨r1, r2⟩ := hR rfl
      obtain rfl : e = 7 := by omega
      refine t_X12_plansDays_25 ⟨z_in (by omega) (by decide), fun _ => ?_, fun q => ?_⟩
      · unfold wp_X12_plansDays_56
        refine ⟨z_in (by omega) (by decide), fun _ => ⟨fun _ => ?_, fun q => absurd q (by decide)⟩, fun q => ?_⟩
        · exact r2 6 rfl
        · rw [nI_clamp (by omega), hv] at q
          exact absurd (nI_le (by omega) (by omega)) q
      · rw [nI_clamp (by omega), hv] at q
        exact absurd (nI_le (by omega) (by omega)) q
    | succ k ihk =>
      intro c σ hc hA hf hv
      obtain rfl : e = 7 := by omega
      have hg := y_isDayGood (σ := σ) (D := D) (f := f) (c := c) ok (hA 7 (by omega)) (by omega) ⟨hv, by omega⟩ hf
      have hlt : ¬ nI days ≤ σ 69 (nI 7).toNatClampNeg := by
        rw [nI_clamp (by omega), hv]; exact nI_ge (by omega) (by omega)
      have hc7 : (nI 7).toNatClampNeg = 7 := nI_clamp (by omega)
      by_cases ho : zEo D f 7 c = true
      · rw [ho, if_pos rfl] at hg
        have hz : zEc (fun c => if zEo D f 7 c then zEf D days 0 (7 + 1) (zEu f 7 c) else none) (k + 1) c = some (zEu f 7 c) := by
          unfold zEc
          simp only [ho, if_true]
          rfl
        rw [hz]
        refine ⟨nI 1, σ, ⟨fun _ _ => rfl, fun _ _ => rfl, fun q => (by cases q), fun g hg => ⟨rfl, fun i hi => ?_⟩⟩, fun R hR _ => ?_⟩
        · rw [← Option.some.inj hg]
          show _ = nI (if i = 7 then c else f i)
          by_cases q : i = 7
          · rw [if_pos q, q]; exact hv
          · rw [if_neg q]; exact (hf i (by omega)).1
        · have hR := hR rfl
          refine t_X12_plansDays_25 ⟨z_in (by omega) (by decide), fun q => absurd q hlt, fun _ => ⟨_, _, hg, fun _ => ?_, fun q => absurd q z_10⟩⟩
          unfold wp_X12_plansDays_56
          refine ⟨z_in (by omega) (by decide), fun q => absurd q hlt, fun _ => ⟨fun _ => ?_, fun q => absurd (by decide) q⟩⟩
          exact t_X12_plansDays_9 ⟨fun _ => hR, fun q => absurd (by decide) q⟩
      · rw [Bool.not_eq_true] at ho
        rw [ho] at hg
        have hz : zEc (fun c => if zEo D f 7 c then zEf D days 0 (7 + 1) (zEu f 7 c) else none) (k + 1) c = zEc (fun c => if zEo D f 7 c then zEf D days 0 (7 + 1) (zEu f 7 c) else none) k (c + 1) := by
          show (if ((if zEo D f 7 c then zEf D days 0 (7 + 1) (zEu f 7 c) else none) : Option (Nat → Nat)).isSome then _ else _) = _
          rw [ho]; rfl
        rw [hz]
        obtain ⟨v, σ', hr, hj⟩ := ihk (c + 1) (sj_st σ 69 7 (nI (c + 1))) (by omega) (fun e he => by rw [z_stn (by decide)]; exact hA e he) (fun o ho => by rw [z_sti (by omega)]; exact hf o ho) z_ste
        refine ⟨v, σ', zER_tr (fun b hb => z_stn hb) (fun i hi => z_sti (by omega)) (Nat.le_refl _) hr, fun R r1 r2 => ?_⟩
        refine t_X12_plansDays_25 ⟨z_in (by omega) (by decide), fun q => absurd q hlt, fun _ => ⟨_, _, hg, fun q => absurd nI_0 q, fun _ => ⟨z_in (by omega) (by decide), z_in (by omega) (by decide), ?_⟩⟩⟩
        rw [hc7, hv, nI_add]
        exact hj R r1 r2
  | succ n ih =>
    intro e f he k
    have hce : (nI e).toNatClampNeg = e := nI_clamp (by omega)
    induction k with
    | zero =>
      intro c σ hc hA hf hv
      refine ⟨nI 0, σ, ⟨fun _ _ => rfl, fun _ _ => rfl, fun _ => rfl, fun g hg => by cases hg⟩, fun R _ hR => ?_⟩
      obtain ⟨r1, r2⟩ := hR rfl
      refine t_X12_plansDays_25 ⟨z_in (by omega) (by decide), fun _ => ?_, fun q => ?_⟩
      · unfold wp_X12_plansDays_56
        refine ⟨z_in (by omega) (by decide), fun _ => ⟨fun q => ?_, fun q => ?_⟩, fun q => ?_⟩
        · cases e with
          | zero => exact absurd nI_0 q
          | succ m =>
            rw [nI_m1a]
            exact r2 m rfl
        · rw [← nI_0, nI_eq (by omega) (by omega)] at q
          exact r1 q
        · rw [hce, hv] at q
          exact absurd (nI_le (by omega) (by omega)) q
      · rw [hce, hv] at q
        exact absurd (nI_le (by omega) (by omega)) q
    | succ k ihk =>
      intro c σ hc hA hf hv
      have hg := y_isDayGood (σ := σ) (D := D) (f := f) (c := c) ok (hA e (by omega)) (by omega) ⟨hv, by omega⟩ hf
      have hlt : ¬ nI days ≤ σ 69 (nI e).toNatClampNeg := by
        rw [hce, hv]; exact nI_ge (by omega) (by omega)
      by_cases ho : zEo D f e c = true
      · rw [ho, if_pos rfl] at hg
        obtain ⟨v, σ1, hr, hj⟩ := ih (e + 1) (zEu f e c) (by omega) days 0 (sj_st (sj_st σ 69 (e + 1) (-1)) 69 (e + 1) (nI 0)) (by omega) (fun e he => by rw [z_stn (by decide), z_stn (by decide)]; exact hA e he) (fun o ho => by
            show _ = nI (if o = e then c else f o) ∧ (if o = e then c else f o) < 9
            rw [z_sti (by omega), z_sti (by omega)]
            by_cases q : o = e
            · rw [if_pos q, q]
              exact ⟨hv, by omega⟩
            · rw [if_neg q]
              exact hf o (by omega)) z_ste
        have go : ∀ R, sj_J G 4 me_X12_plansDays R 25 [.ref (sj_ad G 56), .int (nI days), .int (nI (e + 1))] (sj_st (sj_st σ 69 (e + 1) (-1)) 69 (e + 1) (nI 0)) [] → sj_J G 4 me_X12_plansDays R 25 [.ref (sj_ad G 56), .int (nI days), .int (nI e)] σ [] := fun R h => by
          refine t_X12_plansDays_25 ⟨z_in (by omega) (by decide), fun q => absurd q hlt, fun _ => ⟨_, _, hg, fun _ => ?_, fun q => absurd q z_10⟩⟩
          unfold wp_X12_plansDays_56
          rw [nI_add, nI_clamp (by omega : e + 1 < 2 ^ 31)]
          refine ⟨z_in (by omega) (by decide), fun q => absurd q hlt, fun _ => ⟨fun q => absurd q (nI_ge (by omega) (by omega)), fun _ => ⟨z_in (by omega) (by decide), ?_⟩⟩⟩
          refine t_X12_plansDays_9 ⟨fun q => absurd q (nI_ge (by omega) (by omega)), fun _ => ⟨z_in (by omega) (by decide), z_in (by omega) (by decide), ?_⟩⟩
          rw [nI_clamp (by omega), z_ste, show (-1 : Int32) + nI 1 = nI 0 by decide]
          exact h
        have hs1 : ∀ b, b ≠ 69 → (sj_st (sj_st σ 69 (e + 1) (-1)) 69 (e + 1) (nI 0)) b = σ b := fun b hb => by rw [z_stn hb, z_stn hb]
        have hs2 : ∀ i, i < e + 1 → (sj_st (sj_st σ 69 (e + 1) (-1)) 69 (e + 1) (nI 0)) 69 i = σ 69 i := fun i hi => by rw [z_sti (by omega), z_sti (by omega)]
        have hr := zER_tr hs1 hs2 (Nat.le_refl _) hr
        cases hz : zEf D days (n + 1) (e + 1) (zEu f e c) with
        | some g =>
          have hz0 : zEc (fun c_1 => if zEo D (zEu f e c) (e + 1) c_1 then zEf D days n (e + 1 + 1) (zEu (zEu f e c) (e + 1) c_1) else none) days 0 = some g := hz
          rw [hz0] at hj hr
          have hzz : zEc (fun c => if zEo D f e c then zEf D days (n + 1) (e + 1) (zEu f e c) else none) (k + 1) c = some g := by
            show (if ((if zEo D f e c then zEf D days (n + 1) (e + 1) (zEu f e c) else none) : Option (Nat → Nat)).isSome then (if zEo D f e c then zEf D days (n + 1) (e + 1) (zEu f e c) else none) else _) = _
            rw [if_pos ho, hz]; rfl
          rw [hzz]
          exact ⟨v, σ1, zER_tr (fun _ _ => rfl) (fun _ _ => rfl) (Nat.le_succ _) hr, fun R r1 _ => go R (hj R r1 (fun q => by cases q))⟩
        | none =>
          have hz0 : zEc (fun c_1 => if zEo D (zEu f e c) (e + 1) c_1 then zEf D days n (e + 1 + 1) (zEu (zEu f e c) (e + 1) c_1) else none) days 0 = none := hz
          rw [hz0] at hj hr
          have hzz : zEc (fun c => if zEo D f e c then zEf D days (n + 1) (e + 1) (zEu f e c) else none) (k + 1) c = zEc (fun c => if zEo D f e c then zEf D days (n + 1) (e + 1) (zEu f e c) else none) k (c + 1) := by
            show (if ((if zEo D f e c then zEf D days (n + 1) (e + 1) (zEu f e c) else none) : Option (Nat → Nat)).isSome then (if zEo D f e c then zEf D days (n + 1) (e + 1) (zEu f e c) else none) else _) = _
            rw [if_pos ho, hz]; rfl
          rw [hzz]
          have hv1 : σ1 69 e = nI c := (hr.2.1 e (by omega)).trans hv
          obtain ⟨v', σ', hr', hj'⟩ := ihk (c + 1) (sj_st σ1 69 e (nI (c + 1))) (by omega) (fun e he => by rw [z_stn (by decide), hr.1 57 (by decide)]; exact hA e he) (fun o ho => by rw [z_sti (by omega), hr.2.1 o (by omega)]; exact hf o ho) z_ste
          refine ⟨v', σ', zER_tr (fun b hb => (z_stn hb).trans (hr.1 b hb)) (fun i hi => (z_sti (by omega)).trans (hr.2.1 i (by omega))) (Nat.le_refl _) hr', fun R r1 r2 => go R (hj R (fun q => by cases q) (fun _ => ⟨fun q => by omega, fun m hm => ?_⟩))⟩
          obtain rfl : m = e := by omega
          refine t_X12_plansDays_9 ⟨fun q => absurd q (nI_ge (by omega) (by omega)), fun _ => ⟨z_in (by omega) (by decide), z_in (by omega) (by decide), ?_⟩⟩
          rw [hce, hv1, nI_add]
          exact hj' R r1 r2
      · rw [Bool.not_eq_true] at ho
        rw [ho] at hg
        have hz : zEc (fun c => if zEo D f e c then zEf D days (n + 1) (e + 1) (zEu f e c) else none) (k + 1) c = zEc (fun c => if zEo D f e c then zEf D days (n + 1) (e + 1) (zEu f e c) else none) k (c + 1) := by
          show (if ((if zEo D f e c then zEf D days (n + 1) (e + 1) (zEu f e c) else none) : Option (Nat → Nat)).isSome then (if zEo D f e c then zEf D days (n + 1) (e + 1) (zEu f e c) else none) else _) = _
          rw [ho]; rfl
        rw [hz]
        obtain ⟨v, σ', hr, hj⟩ := ihk (c + 1) (sj_st σ 69 e (nI (c + 1))) (by omega) (fun e he => by rw [z_stn (by decide)]; exact hA e he) (fun o ho => by rw [z_sti (by omega)]; exact hf o ho) z_ste
        refine ⟨v, σ', zER_tr (fun b hb => z_stn hb) (fun i hi => z_sti (by omega)) (Nat.le_refl _) hr, fun R r1 r2 => ?_⟩
        refine t_X12_plansDays_25 ⟨z_in (by omega) (by decide), fun q => absurd q hlt, fun _ => ⟨_, _, hg, fun q => absurd nI_0 q, fun _ => ⟨z_in (by omega) (by decide), z_in (by omega) (by decide), ?_⟩⟩⟩
        rw [hce, hv, nI_add]
        exact hj R r1 r2
theorem y_plansDays (ok : sj_ok G) {days : Nat} (hd8 : days ≤ 8) (h1 : 1 ≤ days) (hA : ∀ e, e < 8 → σ 57 (108 + e) = nI (dAp D e)) :
    ∃ v σ', sj_C G 4 me_X12_plansDays [.ref (sj_ad G 56), .int (nI days)] σ (.ok v, σ') ∧ zER σ 69 0 (zEf D days 8 0 (fun _ => 0)) v σ' := by
  obtain ⟨v, σ', hr, hj⟩ := y_plansJ (G := G) (D := D) ok hd8 h1 7 0 (fun _ => 0) (by omega) days 0 (sj_st (sj_st σ 69 0 (-1)) 69 0 (nI 0)) (by omega) (fun e he => by rw [z_stn (by decide), z_stn (by decide)]; exact hA e he) (fun o ho => absurd ho (by omega)) z_ste
  have hr := zER_tr (σ := σ) (fun b hb => by rw [z_stn hb, z_stn hb]) (fun i hi => absurd hi (by omega)) (Nat.le_refl _) hr
  refine ⟨v, σ', c_X12_plansDays ok ?_, hr⟩
  unfold wp_X12_plansDays_0
  refine t_X12_plansDays_9 ⟨fun q => absurd q (nI_ge (by omega) (by omega)), fun _ => ⟨z_in (by omega) (by decide), z_in (by omega) (by decide), ?_⟩⟩
  rw [nI_clamp (by omega), z_ste, show (-1 : Int32) + nI 1 = nI 0 by decide]
  refine hj _ (fun _ => rfl) (fun q => ⟨fun _ => ?_, fun m hm => by omega⟩)
  rw [hr.2.2.1 q]
theorem z_plan (ok : sj_ok G) {d : Nat} {g : Nat → Nat} (hA : ∀ e, e < 8 → σ 2 (111 + e) = nI (dAp D e)) (h1 : 1 ≤ d) (h8 : d ≤ 8) (hg : zEf D d 8 0 (fun _ => 0) = some g) (hn : ∀ c, 1 ≤ c → c < d → zEf D c 8 0 (fun _ => 0) = none) :
    ∃ σ', sj_C G 41 me_X3_plan [.ref (sj_ad G 44), .ref (sj_ad G 1)] σ (.ok (nI d), σ') ∧ (∀ b, b ≠ 45 → σ' b = σ b) ∧ ∀ i, i < 8 → σ' 45 i = nI (g i) := by
  have key : ∀ k c σ, c + k = d → 1 ≤ c → (∀ e, e < 8 → σ 2 (111 + e) = nI (dAp D e)) → ∃ σ', sj_J G 41 me_X3_plan (.ok (nI d), σ') 2 [.ref (sj_ad G 44), .ref (sj_ad G 1), .int (nI c)] σ [] ∧ (∀ b, b ≠ 45 → σ' b = σ b) ∧ ∀ i, i < 8 → σ' 45 i = nI (g i) := by
    intro k
    induction k with
    | zero =>
      intro c σ hc c1 hA
      obtain rfl : c = d := by omega
      obtain ⟨v, σ', hcl, hr⟩ := z_canHold (G := G) (D := D) ok h8 8 0 (fun _ => 0) 0 40 σ (by omega) (by omega) (by omega) hA (fun o ho => absurd ho (by omega))
      rw [zEq_eq 8 0 _ 0 (fun o ho => absurd ho (by omega))] at hr
      obtain ⟨e1, e2⟩ := hr.2.2.2 g hg
      subst e1
      exact ⟨σ', t_X3_plan_2 ⟨_, _, hcl, fun _ => rfl, fun q => absurd q z_10⟩, hr.1, e2⟩
    | succ k ih =>
      intro c σ hc c1 hA
      obtain ⟨v, σ1, hcl, hr⟩ := z_canHold (G := G) (D := D) ok (by omega : c ≤ 8) 8 0 (fun _ => 0) 0 40 σ (by omega) (by omega) (by omega) hA (fun o ho => absurd ho (by omega))
      rw [zEq_eq 8 0 _ 0 (fun o ho => absurd ho (by omega))] at hr
      have e1 := hr.2.2.1 (hn c c1 (by omega))
      subst e1
      obtain ⟨σ', hj, h2, h3⟩ := ih (c + 1) σ1 (by omega) (by omega) (fun e he => by rw [hr.1 2 (by decide)]; exact hA e he)
      refine ⟨σ', t_X3_plan_2 ⟨_, _, hcl, fun q => absurd nI_0 q, fun _ => ⟨fun q => absurd q (nI_ge (by omega) (by omega)), fun _ => ?_⟩⟩, fun b hb => (h2 b hb).trans (hr.1 b hb), h3⟩
      rw [nI_add]; exact hj
  obtain ⟨σ', hj, h2, h3⟩ := key (d - 1) 1 σ (by omega) (by omega) hA
  exact ⟨σ', c_X3_plan ok hj, h2, h3⟩
theorem y_fewest (ok : sj_ok G) {d : Nat} {g : Nat → Nat} (hA : ∀ e, e < 8 → σ 57 (108 + e) = nI (dAp D e)) (h1 : 1 ≤ d) (h8 : d ≤ 8) (hg : zEf D d 8 0 (fun _ => 0) = some g) (hn : ∀ c, 1 ≤ c → c < d → zEf D c 8 0 (fun _ => 0) = none) :
    ∃ σ', sj_C G 5 me_X12_fewest [.ref (sj_ad G 56)] σ (.ok (nI d), σ') ∧ (∀ b, b ≠ 69 → σ' b = σ b) ∧ ∀ i, i < 8 → σ' 69 i = nI (g i) := by
  have key : ∀ k c σ, c + k = d → 1 ≤ c → (∀ e, e < 8 → σ 57 (108 + e) = nI (dAp D e)) → ∃ σ', sj_J G 5 me_X12_fewest (.ok (nI d), σ') 2 [.ref (sj_ad G 56), .int (nI c)] σ [] ∧ (∀ b, b ≠ 69 → σ' b = σ b) ∧ ∀ i, i < 8 → σ' 69 i = nI (g i) := by
    intro k
    induction k with
    | zero =>
      intro c σ hc c1 hA
      obtain rfl : c = d := by omega
      obtain ⟨v, σ', hcl, hr⟩ := y_plansDays (σ := σ) (D := D) ok h8 h1 hA
      obtain ⟨e1, e2⟩ := hr.2.2.2 g hg
      subst e1
      exact ⟨σ', t_X12_fewest_2 ⟨_, _, hcl, fun _ => rfl, fun q => absurd q z_10⟩, hr.1, e2⟩
    | succ k ih =>
      intro c σ hc c1 hA
      obtain ⟨v, σ1, hcl, hr⟩ := y_plansDays (σ := σ) (D := D) ok (by omega : c ≤ 8) c1 hA
      have e1 := hr.2.2.1 (hn c c1 (by omega))
      subst e1
      obtain ⟨σ', hj, h2, h3⟩ := ih (c + 1) σ1 (by omega) (by omega) (fun e he => by rw [hr.1 57 (by decide)]; exact hA e he)
      refine ⟨σ', t_X12_fewest_2 ⟨_, _, hcl, fun q => absurd nI_0 q, fun _ => ?_⟩, fun b hb => (h2 b hb).trans (hr.1 b hb), h3⟩
      rw [nI_add]; exact hj
  obtain ⟨σ', hj, h2, h3⟩ := key (d - 1) 1 σ (by omega) (by omega) hA
  exact ⟨σ', c_X12_fewest ok hj, h2, h3⟩
theorem p_daysNeeded (ok : sj_ok G) (h : zA σ) : zPair G (zI2 σ) 42 me_X11_daysNeeded 6 me_X12_daysNeeded [] (zcd 0 0 0) σ := by
  obtain ⟨D, T, v, hC, hM, hT⟩ := h.1
  obtain ⟨d, g, h1, h8, hg, hn⟩ := zE_few D
  obtain ⟨τ, hc, t1, t2⟩ := z_plan (σ := σ) (D := D) ok hC.2.2.2.2.2.2.2 h1 h8 hg hn
  obtain ⟨ρ, hm, r1, r2⟩ := y_fewest (σ := sj_st τ 56 0 (nI 0)) (D := D) ok (fun e he => by rw [z_stn (by decide), t1 57 (by decide)]; exact hM.2.2.2.2.2.2.2 e he) h1 h8 hg hn
  refine ⟨_, _, _, _, c_X11_daysNeeded ok ⟨_, _, hc, rfl⟩, c_X12_daysNeeded ok ⟨_, _, hm, rfl⟩, zSame_ok ?_ rfl, zI2_fr (c := nI 0) h (fun b hb => ?_)⟩
  · rw [r1 56 (by decide), z_ste]
  · have hb : b ≠ 45 ∧ b ≠ 69 := by revert b; decide
    rw [r1 b hb.2]
    unfold sj_st sj_up
    split
    · rename_i e; rw [t1 56 (by decide)]
    · exact t1 b hb.1
theorem p_examDay (ok : sj_ok G) (h : zA σ) (x : Int32) : zPair G (zI2 σ) 42 me_X11_examDay 6 me_X12_examDay [.int x] (zcd 1 0 0) σ := by
  obtain ⟨D, T, v, hC, hM, hT⟩ := h.1
  rcases z_rg x 8 with ⟨e, he, rfl⟩ | hx
  · obtain ⟨d, g, h1, h8, hg, hn⟩ := zE_few D
    obtain ⟨τ, hc, t1, t2⟩ := z_plan (σ := σ) (D := D) ok hC.2.2.2.2.2.2.2 h1 h8 hg hn
    obtain ⟨ρ, hm, r1, r2⟩ := y_fewest (σ := sj_st τ 56 0 (nI 0)) (D := D) ok (fun e he => by rw [z_stn (by decide), t1 57 (by decide)]; exact hM.2.2.2.2.2.2.2 e he) h1 h8 hg hn
    refine ⟨_, _, _, _, c_X11_examDay ok (Or.inl ⟨_, z_range0 ok he (by decide), _, _, hc, z_in (by omega) (by decide), rfl⟩), c_X12_examDay ok ⟨_, _, y_inr1 ok (B := 7) he (by decide), _, _, y_fails1 ok zT00, fun _ => ⟨_, _, hm, z_in (by omega) (by decide), rfl⟩, fun q => absurd nI_0 q⟩, zSame_ok ?_ ?_, zI2_fr (c := nI 0) h (fun b hb => ?_)⟩
    · rw [r1 56 (by decide), z_ste]
    · rw [nI_clamp (by omega), t2 e he, r2 e he]
    · have hb : b ≠ 45 ∧ b ≠ 69 := by revert b; decide
      rw [r1 b hb.2]
      unfold sj_st sj_up
      split
      · rename_i e; rw [t1 56 (by decide)]
      · exact t1 b hb.1
  · exact ⟨_, _, _, _, c_X11_examDay ok (Or.inr ⟨_, _, z_range1 ok hx (by decide) (by decide), rfl⟩), c_X12_examDay ok ⟨_, _, y_inr0 ok (B := 7) hx (by decide), _, _, y_fails0 ok zT00 (by decide), fun q => absurd q (by decide), fun _ => rfl⟩, zSame_er (by decide) z_ste, zI2_th2 h⟩
end ZEM
