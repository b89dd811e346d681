/-! P59, THE LAW 18: what is shown can't hold together; without any one it can -/
def wv : Nat → Int32
  | 0 => -1
  | j + 1 => nI j
theorem wv_s (i : Nat) : wv i + 1 = wv (i + 1) := by
  cases i with
  | zero => decide
  | succ j =>
    show nI j + 1 = nI (j + 1)
    rw [show (1 : Int32) = nI 1 by decide, nI_add]
theorem wv_le {n i : Nat} (hn : n < 2 ^ 31) (hi : i < 2 ^ 31) : (nI n ≤ wv i) ↔ n + 1 ≤ i := by
  cases i with
  | zero =>
    refine ⟨fun h => ?_, fun h => absurd h (Nat.not_succ_le_zero n)⟩
    have h : nI n ≤ (-1 : Int32) := h
    rw [Int32.le_iff_toInt_le, nI_toInt hn, show (-1 : Int32).toInt = -1 by decide] at h
    omega
  | succ j =>
    show nI n ≤ nI j ↔ _
    rw [nI_leI hn (by omega)]
    omega
theorem wv_eq {k i : Nat} (hk : k < 2 ^ 31) (hi : i < 2 ^ 31) : (nI k = wv i) ↔ k + 1 = i := by
  cases i with
  | zero =>
    refine ⟨fun h => ?_, fun h => absurd h (Nat.succ_ne_zero k)⟩
    have h : nI k = (-1 : Int32) := h
    have h2 := congrArg Int32.toInt h
    rw [nI_toInt hk, show (-1 : Int32).toInt = -1 by decide] at h2
    omega
  | succ j =>
    show nI k = nI j ↔ _
    rw [nI_eq hk (by omega)]
    omega
theorem q_cnt_uni {P : Nat → Bool} {a b : Nat} (ha : P a = true) (hb : P b = true) (h : q_cnt P a = q_cnt P b) : a = b := by
  have key : ∀ a b, P a = true → a < b → q_cnt P a < q_cnt P b := fun a b ha hab => by
    have h1 := q_cnt_mono (S := P) (i := a + 1) b hab
    have h2 : q_cnt P (a + 1) = q_cnt P a + (if P a then 1 else 0) := rfl
    rw [ha, if_pos rfl] at h2
    omega
  rcases Nat.lt_trichotomy a b with x | x | x
  · have := key a b ha x
    omega
  · exact x
  · have := key b a hb x
    omega
/-- the second school: lessons and rooms of D, the shown wishes ranked below k but for the one ranked i - 1 -/
def kS2 (D : zD) (P : Nat → Bool) (i k : Nat) (D2 : zD) : Prop := okD D2 ∧ dN D2 = dN D ∧ kLs D D2 (dN D) ∧ (∀ c, c < 3 → dRo D2 c = dRo D c) ∧ dW D2 ≤ k ∧
  (∀ j, j < dW D2 → ∃ w, w < dW D ∧ P w = true ∧ q_cnt P w < k ∧ q_cnt P w + 1 ≠ i ∧ kWm D D2 w j ∧ dWe D2 j = 0) ∧
  ∀ w, w < dW D → P w = true → q_cnt P w < k → q_cnt P w + 1 ≠ i → ∃ j, j < dW D2 ∧ kWm D D2 w j ∧ dWe D2 j = 0
theorem kS2_skip {D D2 : zD} {P : Nat → Bool} {i k : Nat} (h : kS2 D P i k D2) (e : k + 1 = i) : kS2 D P i (k + 1) D2 := by
  obtain ⟨h1, h2, h3, h4, h5, h6, h7⟩ := h
  refine ⟨h1, h2, h3, h4, by omega, fun j hj => ?_, fun w hw hP hr hn => h7 w hw hP (by omega) hn⟩
  obtain ⟨w, a1, a2, a3, a4, a5⟩ := h6 j hj
  exact ⟨w, a1, a2, by omega, a4, a5⟩
theorem kS2_add {D D2 : zD} {P : Nat → Bool} {i k w : Nat} (h : kS2 D P i k D2) (v' : okD (zAW (zNoT D2) (dSo D w) (dA D w) (dB D w) 0)) (hw : w < dW D) (hP : P w = true) (hk : q_cnt P w = k) (e : k + 1 ≠ i) : kS2 D P i (k + 1) (zAW (zNoT D2) (dSo D w) (dA D w) (dB D w) 0) := by
  obtain ⟨h1, h2, h3, h4, h5, h6, h7⟩ := h
  have eW : dW (zAW (zNoT D2) (dSo D w) (dA D w) (dB D w) 0) = dW D2 + 1 := rfl
  have ee : ∀ f, 8 ≤ f → f ≤ 11 → zAW (zNoT D2) (dSo D w) (dA D w) (dB D w) 0 f (dW D2) = (if f = 8 then dSo D w else if f = 9 then dA D w else if f = 10 then dB D w else 0) := fun f g1 g2 => kAw_e g1 g2
  have en : ∀ f j, 8 ≤ f → j ≠ dW D2 → zAW (zNoT D2) (dSo D w) (dA D w) (dB D w) 0 f j = D2 f j := fun f j g1 g2 => kAw_n (by omega) (by omega) g2
  have mt : kWm D (zAW (zNoT D2) (dSo D w) (dA D w) (dB D w) 0) w (dW D2) ∧ dWe (zAW (zNoT D2) (dSo D w) (dA D w) (dB D w) 0) (dW D2) = 0 := ⟨⟨ee 8 (by decide) (by decide), ee 9 (by decide) (by decide), ee 10 (by decide) (by decide)⟩, ee 11 (by decide) (by decide)⟩
  have mo : ∀ w' j, j ≠ dW D2 → kWm D D2 w' j ∧ dWe D2 j = 0 → kWm D (zAW (zNoT D2) (dSo D w) (dA D w) (dB D w) 0) w' j ∧ dWe (zAW (zNoT D2) (dSo D w) (dA D w) (dB D w) 0) j = 0 := fun w' j hj q => ⟨⟨(en 8 j (by decide) hj).trans q.1.1, (en 9 j (by decide) hj).trans q.1.2.1, (en 10 j (by decide) hj).trans q.1.2.2⟩, (en 11 j (by decide) hj).trans q.2⟩
  refine ⟨v', (kAw_o (by decide) (by decide) (by decide)).trans h2, fun l hl => ?_, fun c hc => (kAw_o (by decide) (by decide) (by decide)).trans (h4 c hc), by rw [eW]; omega, fun j hj => ?_, fun w' hw' hP' hr hn => ?_⟩
  · obtain ⟨a1, a2, a3, a4, a5⟩ := h3 l hl
    exact ⟨(kAw_o (by decide) (by decide) (by decide)).trans a1, (kAw_o (by decide) (by decide) (by decide)).trans a2, (kAw_o (by decide) (by decide) (by decide)).trans a3, (kAw_o (by decide) (by decide) (by decide)).trans a4, (kAw_o (by decide) (by decide) (by decide)).trans a5⟩
  · rw [eW] at hj
    by_cases q : j = dW D2
    · subst q
      exact ⟨w, hw, hP, by omega, by omega, mt.1, mt.2⟩
    · obtain ⟨w', a1, a2, a3, a4, a5⟩ := h6 j (by omega)
      have := mo w' j q a5
      exact ⟨w', a1, a2, by omega, a4, this.1, this.2⟩
  · by_cases q : q_cnt P w' = k
    · have : w' = w := q_cnt_uni hP' hP (by omega)
      subst this
      exact ⟨dW D2, by rw [eW]; omega, mt.1, mt.2⟩
    · obtain ⟨j, a1, a2⟩ := h7 w' hw' hP' (by omega) hn
      have := mo w' j (by omega) a2
      exact ⟨j, by rw [eW]; omega, this.1, this.2⟩
/-- whether the second school has a right table -/
theorem kS2_end {D D2 : zD} {U : Nat → Bool} {i : Nat} (v : okD D) (hnone : ∀ T, ¬ zRi D (zHd D) T) (hU : zPf D U (dW D)) (h : kS2 D (zHu D U) i (q_cnt (zHu D U) (dW D)) D2) (hi : i ≤ q_cnt (zHu D U) (dW D)) : (i = 0 → ∀ T, ¬ zRi D2 (zHd D2) T) ∧ (1 ≤ i → ∃ T, zRi D2 (zHd D2) T) := by
  obtain ⟨h1, h2, h3, h4, h5, h6, h7⟩ := h
  have rk : ∀ w, w < dW D → zHu D U w = true → q_cnt (zHu D U) w < q_cnt (zHu D U) (dW D) := fun w hw hP => by
    have a1 := q_cnt_mono (S := zHu D U) (i := w + 1) (dW D) hw
    have a2 : q_cnt (zHu D U) (w + 1) = q_cnt (zHu D U) w + (if zHu D U w then 1 else 0) := rfl
    rw [hP, if_pos rfl] at a2
    omega
  have key : ∀ T, zRi D2 (zHd D2) T ↔ zRi D (fun w => zHu D U w && !decide (q_cnt (zHu D U) w + 1 = i)) T := fun T => by
    rw [← zRi_iff h1, ← zRi_iff v]
    refine zRtH_ls v h2 h3 h4 (fun j hj _ => ?_) (fun w hw hH => ?_)
    · obtain ⟨w, a1, a2, a3, a4, a5, a6⟩ := h6 j hj
      refine ⟨w, a1, ?_, a5⟩
      show (zHu D U w && !decide (q_cnt (zHu D U) w + 1 = i)) = true
      rw [a2, decide_eq_false a4]
      rfl
    · have hH : (zHu D U w && !decide (q_cnt (zHu D U) w + 1 = i)) = true := hH
      rw [Bool.and_eq_true, Bool.not_eq_true', decide_eq_false_iff_not] at hH
      obtain ⟨j, a1, a2, a3⟩ := h7 w hw hH.1 (rk w hw hH.1) hH.2
      refine ⟨j, a1, ?_, a2⟩
      show decide (dWe D2 j = 0) = true
      exact decide_eq_true a3
  refine ⟨fun e T hT => ?_, fun e => ?_⟩
  · refine kPr_none hnone hU T ((zRi_Hc (fun w _ => ?_)).mp ((key T).mp hT))
    show (zHu D U w && !decide (q_cnt (zHu D U) w + 1 = i)) = zHu D U w
    rw [decide_eq_false (by omega)]
    cases zHu D U w <;> rfl
  · obtain ⟨w, w1, w2, w3⟩ := zPl_at (P := zHu D U) (n := dW D) (i - 1) (by omega)
    obtain ⟨T, hT⟩ := kPr_some v hU w1 w2
    refine ⟨T, (key T).mpr ((zRi_Hc (fun o _ => ?_)).mp hT)⟩
    show (zHu D U o && !decide (o = w)) = (zHu D U o && !decide (q_cnt (zHu D U) o + 1 = i))
    cases hP : zHu D U o
    · rfl
    · by_cases q : o = w
      · rw [decide_eq_true q, decide_eq_true (by rw [q, w3]; omega)]
      · rw [decide_eq_false q, decide_eq_false (fun x => q (q_cnt_uni hP w2 (by omega)))]
theorem okW_D {D : zD} (v : okD D) {w : Nat} (hw : w < dW D) : okW (dN D) (dSo D w) (dA D w) (dB D w) 0 := by
  obtain ⟨w1, w2, w3, w4, w5, w6, w7⟩ := v.2.2.2.2.1 w hw
  exact ⟨w1, Nat.zero_le _, w3, w4, w5, w6, w7⟩
section PRV
variable {G : sj_G} {σ : sj_S} {D : zD} {U : Nat → Bool}
variable {p : Program} {e : Env} {s : State} {m : MethodId} {args : Array Value} {below : List Frame} {meth : Method} {c : Code}
abbrev pJ (G : sj_G) (p : Program) (e : Env) (s : State) (m : MethodId) (args : Array Value) (below : List Frame) (meth : Method) (c : Code) (σ : sj_S) (cells slots : Nat) (ws : va_W) (pc : Nat) (L st : List Value) : Prop :=
  kj_J (sj_l G) (sj_D G) (sj_cs G) (sj_A G) me_L_isProved p e s m args below meth c (kj_rm 124 728 78598) (pZ G (nI 1) (fun τ => τ = σ) below args s 728 78598) cells slots ws pc L st
set_option maxRecDepth 20000 in
/-- one round's wishes -/
theorem l_provedI (ok : sj_ok G) (K0 : sj_K G s s.heap) (hO : sj_ad G 70 = sj_ad G 0) (v : okD D) (hL : lR D σ) (hnone : ∀ T, ¬ zRi D (zHd D) T) (hU : zPf D U (dW D)) (h30 : σ 30 3 = nI (q_cnt (zHu D U) (dW D))) (h32 : zPl (zHu D U) (σ 32) (dW D)) {n i cells slots : Nat} {ad2 : Nat → Nat} (en : n = q_cnt (zHu D U) (dW D)) (hi : i ≤ n) (hcl : cells ≤ 728 ∧ slots ≤ 78598)
    (kk : ∀ τ : sj_S, pJ G p e s m args below meth c σ cells slots (wsT G ad2 σ τ) 140 [.ref (sj_ad G 56), .int (nI n), .int (wv i), .null, .null, .null, .null] []) :
    ∀ j k (D2 : zD) (τ : sj_S) (lv : Int32), k + j = n → kS2 D (zHu D U) i k D2 → repC D2 (τ 2) → kH τ → zRd τ 0 → (∀ a, 56 ≤ a → τ a = σ a) → ((k = 0 ∧ lv = -1) ∨ ∃ w, w < dW D ∧ zHu D U w = true ∧ q_cnt (zHu D U) w + 1 = k ∧ lv = nI w) →
    pJ G p e s m args below meth c σ cells slots (wsT G ad2 σ τ) 39 [.ref (sj_ad G 56), .int (nI n), .int (wv i), .ref (ad2 0), .int lv, .int (nI k), .null] [] := by
  have h12 := v.2.1
  have hn12 : n ≤ 12 := by
    have := q_cnt_le (zHu D U) (dW D)
    omega
  intro j
  induction j with
  | zero =>
    intro k D2 τ lv hk h2 hC hH hr hτ hlv
    obtain rfl : k = n := by omega
    have eτ : vS σ τ = τ := by
      funext a
      unfold vS
      by_cases h : a < 56
      · rw [if_pos h]
      · rw [if_neg h, hτ a (by omega)]
    refine kj_iload dL_isProved_39 rfl ?_
    refine kj_iload_n dL_isProved_41 (i := 1) rfl rfl ?_
    refine kj_icmp_ge (tgt := 122) dL_isProved_42 (by decide) (fun _ => ?_) (fun q => absurd (nI_le (Nat.le_refl _) (by omega)) q)
    refine kj_aload_n dL_isProved_122 (i := 3) rfl rfl ?_
    refine vj_call2 (M' := me_X11_find) (d' := 123) (b := 0) (As := []) (rest := []) ok K0 dL_isProved_123 gL_isProved_X11_find rfl hd_X11_find (by decide +kernel) (by decide +kernel) rfl (Nat.le_of_ble_eq_true rfl) ⟨Nat.le_of_ble_eq_true rfl, Nat.le_of_ble_eq_true rfl⟩ rfl hcl (fun N okV => ?_)
    rw [eτ]
    obtain ⟨b, τ', f1, f2, -, -, f5, f6⟩ := k_find (G := gV G (vAd G ad2) N) (σ := τ) (D := D2) (r := 0) okV h2.1 hC hH (by decide) hr
    have hb := kS2_end v hnone hU (by rw [← en]; exact h2) (by rw [← en]; exact hi)
    refine ⟨_, τ', f1, fun a ha => by rw [f2 a (by omega)]; exact hτ a ha, ?_⟩
    refine kj_iload_n dL_isProved_126 (i := 2) rfl rfl ?_
    have k140 : pJ G p e s m args below meth c σ cells slots (wsT G ad2 σ τ') 140 [.ref (sj_ad G 56), .int (nI k), .int (wv i), .ref (ad2 0), .int lv, .int (nI k), .null] [] := kj_fg [3, 4, 5] (kk τ')
    cases i with
    | zero =>
      have hbf : b = false := by
        cases hb9 : b
        · rfl
        · obtain ⟨T, t1, -⟩ := f5 hb9
          exact absurd t1.1 (hb.1 rfl T)
      rw [hbf]
      refine kj_if_lt (tgt := 134) dL_isProved_127 (by decide) (fun _ => ?_) (fun q => absurd (show (-1 : Int32) < 0 by decide) q)
      refine kj_iconst (v := nI 0) dL_isProved_134 (by decide +kernel) ?_
      refine kj_icmp_eq (tgt := 140) dL_isProved_135 (by decide) (fun _ => k140) (fun q => absurd rfl q)
    | succ i =>
      have hbt : b = true := by
        cases hb9 : b
        · obtain ⟨T, hT⟩ := hb.2 (by omega)
          exact absurd hT ((f6 hb9).1 T)
        · rfl
      rw [hbt]
      refine kj_if_lt (tgt := 134) dL_isProved_127 (by decide) (fun q => absurd q (nI_pos (by omega))) (fun _ => ?_)
      refine kj_iconst (v := nI 1) dL_isProved_130 (by decide +kernel) ?_
      refine kj_goto (tgt := 135) dL_isProved_131 (by decide) ?_
      refine kj_icmp_eq (tgt := 140) dL_isProved_135 (by decide) (fun _ => k140) (fun q => absurd rfl q)
  | succ j ih =>
    intro k D2 τ lv hk h2 hC hH hr hτ hlv
    have hkn : k < n := by omega
    obtain ⟨w, w1, w2, w3⟩ := zPl_at (P := zHu D U) (n := dW D) k (by omega)
    have ew : σ 32 k = nI w := by
      have := h32 w w1 w2
      rw [w3] at this
      exact this
    have hwe : dWe D w = 0 := by
      have h : (decide (dWe D w = 0) && !U w) = true := w2
      rw [Bool.and_eq_true, decide_eq_true_eq] at h
      exact h.1
    obtain ⟨r1, r2, r3, r4⟩ := hL.2.2.2.1 w w1
    have hinw : vp_in (nI w) 12 := z_in (by omega) (by decide)
    have hcw : (nI w).toNatClampNeg = w := nI_clamp (by omega)
    have eτ : vS σ τ = τ := by
      funext a
      unfold vS
      by_cases h : a < 56
      · rw [if_pos h]
      · rw [if_neg h, hτ a (by omega)]
    refine kj_iload dL_isProved_39 rfl ?_
    refine kj_iload_n dL_isProved_41 (i := 1) rfl rfl ?_
    refine kj_icmp_ge (tgt := 122) dL_isProved_42 (by decide) (fun q => absurd q (nI_ge hkn (by omega))) (fun _ => ?_)
    refine kj_aload_n dL_isProved_45 (i := 0) rfl rfl ?_
    refine kj_getA (q0 := 56) (k9 := 1) (v := .ref (sj_ad G 0)) dL_isProved_46 (wsT_obj (by decide) (by decide +kernel)) rfl (by decide +kernel) (by decide +kernel) (lw_o hO) ?_
    refine kj_iload dL_isProved_49 rfl ?_
    refine vj_call1 (M' := me_X11_proofAt) (d' := 9) (b := 0) (As := [.int (nI k)]) (rest := []) ok K0 dL_isProved_51 gL_isProved_X11_proofAt rfl hd_X11_proofAt (by decide +kernel) (by decide +kernel) rfl (Nat.le_of_ble_eq_true rfl) ⟨Nat.le_of_ble_eq_true rfl, Nat.le_of_ble_eq_true rfl⟩ rfl hcl (fun N okV => ?_)
    have c1 := k_proofAt (G := gV G (sj_ad G) N) (σ := σ) (q := n) (j := k) okV (by rw [en]; exact h30) hkn hn12
    rw [ew] at c1
    refine ⟨_, σ, c1, ?_⟩
    refine kj_istore dL_isProved_54 (by decide) ?_
    refine kj_iload dL_isProved_56 rfl ?_
    refine kj_iload dL_isProved_58 rfl ?_
    refine kj_icmp_le (tgt := 73) dL_isProved_60 (by decide) (fun q => ?_) (fun _ => ?_)
    · exfalso
      rcases hlv with ⟨-, e9⟩ | ⟨w', a1, a2, a3, e9⟩
      · rw [e9] at q
        have := (wv_le (n := w) (i := 0) (by omega) (by decide)).mp q
        omega
      · rw [e9, nI_leI (by omega) (by omega)] at q
        have := q_cnt_mono (S := zHu D U) (i := w) w' q
        omega
    refine kj_aload_n dL_isProved_63 (i := 0) rfl rfl ?_
    refine kj_getA (q0 := 56) (k9 := 11) (v := .ref (sj_ad G 66)) dL_isProved_64 (wsT_obj (by decide) (by decide +kernel)) rfl (by decide +kernel) (by decide +kernel) lw_66 ?_
    refine kj_iload dL_isProved_67 rfl ?_
    refine kj_iald (q0 := 66) (n := 12) (j := w) (x := nI 0) (f := σ 66) dL_isProved_69 (wsT_arr (a := 66) (by decide) (by decide +kernel)) hinw hcw (by rw [r4, hwe]) ?_
    refine kj_if_eq (tgt := 75) dL_isProved_70 (by decide) (fun _ => ?_) (fun q => absurd nI_0 q)
    refine kj_iload dL_isProved_75 rfl ?_
    refine kj_istore dL_isProved_77 (by decide) ?_
    have k116 : ∀ (D3 : zD) (τ' : sj_S), kS2 D (zHu D U) i (k + 1) D3 → repC D3 (τ' 2) → kH τ' → zRd τ' 0 → (∀ a, 56 ≤ a → τ' a = σ a) → pJ G p e s m args below meth c σ cells slots (wsT G ad2 σ τ') 116 [.ref (sj_ad G 56), .int (nI n), .int (wv i), .ref (ad2 0), .int (nI w), .int (nI k), .int (nI w)] [] := fun D3 τ' g1 g2 g3 g4 g5 => by
      refine kj_iinc (v := nI (k + 1)) dL_isProved_116 (by decide) rfl (by rw [show Int32.ofInt 1 = nI 1 by decide, nI_add]) ?_
      refine kj_goto (tgt := 39) dL_isProved_119 (by decide) ?_
      exact kj_fg [6] (ih (k + 1) D3 τ' (nI w) (by omega) g1 g2 g3 g4 g5 (Or.inr ⟨w, w1, w2, by omega, rfl⟩))
    refine kj_iload dL_isProved_79 rfl ?_
    refine kj_iload_n dL_isProved_81 (i := 2) rfl rfl ?_
    refine kj_icmp_eq (tgt := 116) dL_isProved_82 (by decide) (fun q => k116 D2 τ (kS2_skip h2 ((wv_eq (by omega) (by omega)).mp q)) hC hH hr hτ) (fun q => ?_)
    have hne : k + 1 ≠ i := fun x => q ((wv_eq (by omega) (by omega)).mpr x)
    refine kj_aload_n dL_isProved_85 (i := 3) rfl rfl ?_
    refine kj_aload_n dL_isProved_86 (i := 0) rfl rfl ?_
    refine kj_getA (q0 := 56) (k9 := 8) (v := .ref (sj_ad G 63)) dL_isProved_87 (wsT_obj (by decide) (by decide +kernel)) rfl (by decide +kernel) (by decide +kernel) lw_63 ?_
    refine kj_iload dL_isProved_90 rfl ?_
    refine kj_iald (q0 := 63) (n := 12) (j := w) (x := nI (dSo D w)) (f := σ 63) dL_isProved_92 (wsT_arr (a := 63) (by decide) (by decide +kernel)) hinw hcw r1 ?_
    refine kj_aload_n dL_isProved_93 (i := 0) rfl rfl ?_
    refine kj_getA (q0 := 56) (k9 := 9) (v := .ref (sj_ad G 64)) dL_isProved_94 (wsT_obj (by decide) (by decide +kernel)) rfl (by decide +kernel) (by decide +kernel) lw_64 ?_
    refine kj_iload dL_isProved_97 rfl ?_
    refine kj_iald (q0 := 64) (n := 12) (j := w) (x := nI (dA D w)) (f := σ 64) dL_isProved_99 (wsT_arr (a := 64) (by decide) (by decide +kernel)) hinw hcw r2 ?_
    refine kj_aload_n dL_isProved_100 (i := 0) rfl rfl ?_
    refine kj_getA (q0 := 56) (k9 := 10) (v := .ref (sj_ad G 65)) dL_isProved_101 (wsT_obj (by decide) (by decide +kernel)) rfl (by decide +kernel) (by decide +kernel) lw_65 ?_
    refine kj_iload dL_isProved_104 rfl ?_
    refine kj_iald (q0 := 65) (n := 12) (j := w) (x := nI (dB D w)) (f := σ 65) dL_isProved_106 (wsT_arr (a := 65) (by decide) (by decide +kernel)) hinw hcw r3 ?_
    refine kj_iconst (v := nI 0) dL_isProved_107 (by decide +kernel) ?_
    refine vj_call2 (M' := me_X11_wish) (d' := 11) (b := 0) (As := [.int (nI (dSo D w)), .int (nI (dA D w)), .int (nI (dB D w)), .int (nI 0)]) (rest := []) ok K0 dL_isProved_108 gL_isProved_X11_wish rfl hd_X11_wish (by decide +kernel) (by decide +kernel) rfl (Nat.le_of_ble_eq_true rfl) ⟨Nat.le_of_ble_eq_true rfl, Nat.le_of_ble_eq_true rfl⟩ rfl hcl (fun N2 okV2 => ?_)
    rw [eτ]
    have hW2 : dW D2 ≤ k := h2.2.2.2.2.1
    obtain ⟨τ', c2, v', hC', hH', q'⟩ := k_wish (G := gV G (vAd G ad2) N2) (σ := τ) (D := D2) (s := dSo D w) (a := dA D w) (b := dB D w) (g := 0) okV2 h2.1 hC hH (by rw [h2.2.1]; exact okW_D v w1) (by omega)
    refine ⟨_, τ', c2, fun a ha => by rw [q'.1 a (by omega) (by omega) (by omega) (by omega) (by omega)]; exact hτ a ha, ?_⟩
    refine kj_if_ge (tgt := 116) dL_isProved_111 (by decide) (fun _ => ?_) (fun q => absurd (show (0 : Int32) ≤ nI (dW D2) by rw [← nI_0]; exact nI_le (Nat.zero_le _) (by omega)) q)
    exact k116 _ τ' (kS2_add h2 v' w1 w2 w3 hne) hC' hH' (kCh_rd q' hr) (fun a ha => by rw [q'.1 a (by omega) (by omega) (by omega) (by omega) (by omega)]; exact hτ a ha)
set_option maxRecDepth 20000 in
theorem l_isProved (ok : sj_ok G) (hO : sj_ad G 70 = sj_ad G 0) (v : okD D) (hL : lR D σ) (hnone : ∀ T, ¬ zRi D (zHd D) T) (hU : zPf D U (dW D)) (h30 : σ 30 3 = nI (q_cnt (zHu D U) (dW D))) (h32 : zPl (zHu D U) (σ 32) (dW D)) : pC G me_L_isProved 124 728 78598 [.ref (sj_ad G 56)] σ (nI 1) (fun τ => τ = σ) := by
  have h12 := v.2.1
  obtain ⟨n, en⟩ : ∃ n, n = q_cnt (zHu D U) (dW D) := ⟨_, rfl⟩
  have hn12 : n ≤ 12 := by
    have := q_cnt_le (zHu D U) (dW D)
    omega
  refine pC_enter ok (by decide +kernel) rfl rfl (Nat.le_of_ble_eq_true rfl) (by simp [Value.category]) (fun p e s m args below meth c K0 hN => ?_)
  show pJ G p e s m args below meth c σ 0 0 (sj_wd G σ) 0 [.ref (sj_ad G 56), .null, .null, .null, .null, .null, .null] []
  have outer : ∀ j i cells slots, i + j = n + 1 → cells ≤ 56 * i → slots ≤ 6046 * i → pJ G p e s m args below meth c σ cells slots (sj_wd G σ) 10 [.ref (sj_ad G 56), .int (nI n), .int (wv i), .null, .null, .null, .null] [] := by
    intro j
    induction j with
    | zero =>
      intro i cells slots hi h1 h2
      refine kj_iload_n dL_isProved_10 (i := 2) rfl rfl ?_
      refine kj_iload_n dL_isProved_11 (i := 1) rfl rfl ?_
      refine kj_icmp_ge (tgt := 146) dL_isProved_12 (by decide) (fun _ => ?_) (fun q => absurd ((wv_le (by omega) (by omega)).mpr (by omega)) q)
      refine kj_iconst (v := nI 1) dL_isProved_146 (by decide +kernel) ?_
      exact pC_ret (σ1 := σ) rfl dL_isProved_147 rfl rfl (fun H h => h) (by omega) (by omega)
    | succ j ih =>
      intro i cells slots hi h1 h2
      refine kj_iload_n dL_isProved_10 (i := 2) rfl rfl ?_
      refine kj_iload_n dL_isProved_11 (i := 1) rfl rfl ?_
      refine kj_icmp_ge (tgt := 146) dL_isProved_12 (by decide) (fun q => ?_) (fun _ => ?_)
      · have := (wv_le (by omega) (by omega)).mp q
        omega
      refine kj_new (ci := 11) (fs := kj_df 0) dL_isProved_15 rfl (by decide +kernel) (by decide +kernel) (by decide +kernel) (by decide +kernel) (by show cells + 1 ≤ 728; omega) (by show slots + 11 ≤ 78598; omega) (fun q => ?_)
      refine kj_dup dL_isProved_18 rfl ?_
      refine kj_initI (M' := me_X11_init) (d' := 4) (mc := 55) (ms := 6035) (b := 0) (n := 56) (r := 0) (σ0 := zInit) dL_isProved_19 gL_isProved_X11_init rfl (by decide +kernel) (by decide +kernel) (by decide +kernel) rfl (by decide +kernel) ⟨Nat.le_of_ble_eq_true rfl, Nat.le_of_ble_eq_true rfl⟩ ⟨by show cells + 1 + 55 ≤ 728; omega, by show slots + 11 + 6035 ≤ 78598; omega⟩ (Nat.le_of_ble_eq_true rfl) k_X11_init (fun ad2 e0 => ?_)
      subst e0
      show pJ G p e s m args below meth c σ (cells + 1 + 55) (slots + 11 + 6035) (wsT G ad2 σ zInit) 22 [.ref (sj_ad G 56), .int (nI n), .int (wv i), .null, .null, .null, .null] [.ref (ad2 0)]
      have hcl : cells + 1 + 55 ≤ 728 ∧ slots + 11 + 6035 ≤ 78598 := ⟨by omega, by omega⟩
      refine kj_astore_n dL_isProved_22 (i := 3) rfl (by decide) ?_
      refine kj_aload_n dL_isProved_23 (i := 0) rfl rfl ?_
      refine kj_aload_n dL_isProved_24 (i := 3) rfl rfl ?_
      refine vj_call2 (M' := me_L_isMade) (d' := 12) (b := 56) (As := [.ref (vAd G ad2 0)]) (rest := []) ok K0 dL_isProved_25 gL_isProved_L_isMade rfl hd_L_isMade (by decide +kernel) (by decide +kernel) rfl (Nat.le_of_ble_eq_true rfl) ⟨Nat.le_of_ble_eq_true rfl, Nat.le_of_ble_eq_true rfl⟩ rfl hcl (fun N okV => ?_)
      have lo : ∀ a, a < 56 → vS σ zInit a = zInit a := fun a ha => by unfold vS; rw [if_pos ha]
      have hi' : ∀ a, 56 ≤ a → vS σ zInit a = σ a := fun a ha => by unfold vS; rw [if_neg (by omega)]
      obtain ⟨D', τ, c1, q1, v1, hC1, hH1, n1, z1, ls1, ro1, -⟩ := l_isMade (G := gV G (vAd G ad2) N) (σ := vS σ zInit) (L := D) (D := zD0) okV (lRl_e (σ := σ) ⟨hL.1, hL.2.2.1, hL.2.2.2.2⟩ (fun b hb _ => hi' b hb)) ⟨v.1, v.2.2.2.1, v.2.2.2.2.2.2.1⟩ zD0_ok (by rw [lo 2 (by decide)]; exact zD0_C) (kH_e zH0 (lo 4 (by decide))) rfl ⟨rfl, rfl⟩ (fun _ _ => rfl) (fun _ _ => rfl)
      have hτ : ∀ a, 56 ≤ a → τ a = σ a := fun a ha => by rw [q1.1 a (by omega) (by omega) (by omega) (by omega) (by omega), hi' a ha]
      have hr : zRd τ 0 := kCh_rd q1 (zRd_e zR0 (by rw [lo 30 (by decide)]) (lo 33 (by decide)))
      have hs2 : kS2 D (zHu D U) i 0 D' := ⟨v1, n1, ls1, ro1, Nat.le_of_eq z1.1, fun j hj => by rw [z1.1] at hj; exact absurd hj (Nat.not_lt_zero j), fun w _ _ hr _ => absurd hr (Nat.not_lt_zero _)⟩
      refine ⟨_, τ, c1, hτ, ?_⟩
      refine kj_if_ne (tgt := 33) dL_isProved_28 (by decide) (fun _ => ?_) (fun q => absurd q z_10)
      refine kj_iconst (v := -1) dL_isProved_33 (by decide +kernel) ?_
      refine kj_istore dL_isProved_34 (by decide) ?_
      refine kj_iconst (v := nI 0) dL_isProved_36 (by decide +kernel) ?_
      refine kj_istore dL_isProved_37 (by decide) ?_
      refine l_provedI ok K0 hO v hL hnone hU h30 h32 en (by omega) hcl (fun τ' => ?_) n 0 D' τ (-1) (by omega) hs2 hC1 hH1 hr hτ (Or.inl ⟨rfl, rfl⟩)
      refine kj_iinc (v := wv (i + 1)) dL_isProved_140 (by decide) rfl (by rw [show Int32.ofInt 1 = (1 : Int32) by decide, wv_s]) ?_
      refine kj_goto (tgt := 10) dL_isProved_143 (by decide) ?_
      exact kj_drop (fun H h => tj_P_l h) (fun h => va_D_l h) (ih (i + 1) (cells + 1 + 55) (slots + 11 + 6035) (by omega) (by omega) (by omega))
  refine kj_aload_n dL_isProved_0 (i := 0) rfl rfl ?_
  refine kj_getA (q0 := 56) (k9 := 1) (v := .ref (sj_ad G 0)) dL_isProved_1 (sj_wd_obj (by decide) (by decide +kernel)) rfl (by decide +kernel) (by decide +kernel) (lw_o hO) ?_
  refine vj_call0 (M' := me_X11_proof) (d' := 2) (b := 0) (As := []) (rest := []) ok K0 dL_isProved_4 gL_isProved_X11_proof rfl hd_X11_proof (by decide +kernel) (by decide +kernel) rfl (Nat.le_of_ble_eq_true rfl) ⟨Nat.le_of_ble_eq_true rfl, Nat.le_of_ble_eq_true rfl⟩ rfl ⟨Nat.zero_le _, Nat.zero_le _⟩ (fun N okV => ?_)
  have c1 := k_proof (G := gV G (sj_ad G) N) (σ := σ) okV
  rw [h30, ← en] at c1
  refine ⟨_, σ, c1, ?_⟩
  refine kj_istore_n dL_isProved_7 (i := 1) rfl (by decide) ?_
  refine kj_iconst (v := -1) dL_isProved_8 (by decide +kernel) ?_
  refine kj_istore_n dL_isProved_9 (i := 2) rfl (by decide) ?_
  exact outer (n + 1) 0 0 0 (by omega) (Nat.le_refl _) (Nat.le_refl _)
end PRV
