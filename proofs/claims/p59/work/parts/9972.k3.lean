/-! P59, THE CLASS ALONE 3: what is written, read and undone -/
/-- what all that concerns the table leaves alone -/
def kG (σ σ' : sj_S) : Prop := (∀ b, (b = 33 ∨ (46 ≤ b ∧ b ≤ 51) ∨ 55 < b) → σ' b = σ b) ∧ ∀ k, k ≠ 3 → σ' 30 k = σ 30 k
theorem kG_r (σ : sj_S) : kG σ σ := ⟨fun _ _ => rfl, fun _ _ => rfl⟩
theorem kG_t {σ σ1 σ2 : sj_S} (h : kG σ σ1) (g : kG σ1 σ2) : kG σ σ2 := ⟨fun b hb => (g.1 b hb).trans (h.1 b hb), fun k hk => (g.2 k hk).trans (h.2 k hk)⟩
theorem kG_q {σ σ' : sj_S} (h : kQ σ σ') : kG σ σ' := ⟨fun b hb => h b (by omega), fun k _ => by rw [h 30 (by omega)]⟩
theorem kG_c {σ σ' : sj_S} (h : kCh σ σ') : kG σ σ' := ⟨fun b hb => h.1 b (by omega) (by omega) (by omega) (by omega) (by omega), h.2⟩
theorem kG_rd {σ σ' : sj_S} {r : Nat} (h : kG σ σ') (g : zRd σ r) : zRd σ' r := ⟨by rw [h.2 7 (by decide)]; exact g.1, by rw [h.1 33 (by omega)]; exact g.2⟩
theorem repC_e {D : zD} {c c' : Nat → Int32} (v : okD D) (hC : repC D c) (hc : ∀ i, i < 119 → c' i = c i) : repC D c' := by
  have h9 := v.1
  have h12 := v.2.1
  refine ⟨(hc _ (by omega)).trans hC.1, (hc _ (by omega)).trans hC.2.1, (hc _ (by omega)).trans hC.2.2.1, fun l hl => ?_, fun w hw => ?_, fun t h => ?_, fun k h => ?_, fun e h => ?_⟩
  · obtain ⟨a1, a2, a3, a4, a5⟩ := hC.2.2.2.1 l hl
    exact ⟨(hc _ (by omega)).trans a1, (hc _ (by omega)).trans a2, (hc _ (by omega)).trans a3, (hc _ (by omega)).trans a4, (hc _ (by omega)).trans a5⟩
  · obtain ⟨a1, a2, a3, a4⟩ := hC.2.2.2.2.1 w hw
    exact ⟨(hc _ (by omega)).trans a1, (hc _ (by omega)).trans a2, (hc _ (by omega)).trans a3, (hc _ (by omega)).trans a4⟩
  · obtain ⟨a1, a2⟩ := hC.2.2.2.2.2.1 t h
    exact ⟨(hc _ (by omega)).trans a1, (hc _ (by omega)).trans a2⟩
  · exact (hc _ (by omega)).trans (hC.2.2.2.2.2.2.1 k h)
  · exact (hc _ (by omega)).trans (hC.2.2.2.2.2.2.2 e h)
theorem k_by : ∀ c, c < 128 → zBy (nI c) 24 = 0 ∧ zBy (nI c) 16 = 0 ∧ zBy (nI c) 8 = 0 ∧ zBy (nI c) 0 = nI c := by decide +kernel
theorem k_bn {c : Nat} (h0 : 0 < c) (hc : c < 128) : zBn (nI c) = 1 := by
  obtain ⟨a, b, d, e⟩ := k_by c hc
  unfold zBn zB1
  rw [a, b, d, e, if_pos rfl, if_neg (nI_ne0 h0 (by omega))]
theorem k_pl {c n : Nat} {f : Nat → Int32} (h0 : 0 < c) (hc : c < 128) : zPL f n (nI c) = upd f n (nI c) := by
  obtain ⟨a, b, d, e⟩ := k_by c hc
  unfold zPL zP1 zB1
  rw [a, b, d, e, if_pos rfl, if_pos rfl, if_pos rfl, if_pos rfl, if_neg (nI_ne0 h0 (by omega))]
  rfl
theorem k_bn0 : zBn (nI 0) = 0 := by decide
theorem k_pl0 {n : Nat} {f : Nat → Int32} : zPL f n (nI 0) = f := by
  obtain ⟨a, b, d, e⟩ := k_by 0 (by decide)
  unfold zPL zP1
  rw [a, b, d, e, if_pos rfl, if_pos rfl, if_pos rfl, if_pos nI_0]
section K3
variable {G : sj_G} {σ : sj_S} {D : zD} {T : Nat → Nat}
theorem k_write (ok : sj_ok G) (h : kT D T σ) : ∃ σ', sj_C G 10 me_X11_write [.ref (sj_ad G 0)] σ (.ok (nI (4 * dN D)), σ') ∧ (∀ b, b ≠ 52 → b ≠ 54 → σ' b = σ b) ∧ (∀ k, k ≠ 4 → σ' 52 k = σ 52 k) ∧ σ' 52 4 = nI (4 * dN D) ∧ ∀ i, i < 4 * dN D → σ' 54 i = nI (zTxt T i) := by
  obtain ⟨τ, c1, c2, c3, c4, c5⟩ := z_print (σ := σ) ok h.2.1 h.1 h.2.2.2.1
  exact ⟨τ, c_X11_write ok (Or.inl ⟨_, z_requireTable0 ok (kT_t h), _, _, c1, rfl⟩), c2, c3, c4, c5⟩
theorem k_writtenAt (ok : sj_ok G) {w j c : Nat} (h4 : σ 52 4 = nI w) (hw : w ≤ 36) (hj : j < w) (hc : c < 128) (h : σ 54 j = nI c) : sj_C G 9 me_X11_writtenAt [.ref (sj_ad G 0), .int (nI j)] σ (.ok (nI c), σ) := by
  refine c_X11_writtenAt ok (R := (.ok (nI c), σ)) ⟨fun q => absurd q (nI_pos (by omega)), fun _ => ⟨fun _ => ?_, fun q => ?_⟩⟩
  · rw [nI_clamp (by omega), h]
    exact ⟨z_in (by omega) (by decide), rfl, z_nch hc⟩
  · rw [h4] at q
    exact absurd (nI_lt hj (by omega)) q
theorem k_append (ok : sj_ok G) {n c s : Nat} (h2 : σ 52 2 = nI n) (hn : n + 2 ≤ 100) (h0 : 0 < c) (hc : c < 128) (hs : s < 128) : ∃ σ', sj_C G 9 me_X11_append [.ref (sj_ad G 0), .int (nI c), .int (nI s), .int (nI 0), .int (nI 0), .int (nI 0)] σ (.ok (nI (n + (if s = 0 then 1 else 2))), σ') ∧
    (∀ b, b ≠ 55 → b ≠ 52 → σ' b = σ b) ∧ (∀ k, k ≠ 2 → σ' 52 k = σ 52 k) ∧ σ' 52 2 = nI (n + (if s = 0 then 1 else 2)) ∧ σ' 55 = if s = 0 then upd (σ 55) n (nI c) else upd (upd (σ 55) n (nI c)) (n + 1) (nI s) := by
  have b1 := k_bn h0 hc
  have b2 : zBn (nI s) = if s = 0 then 0 else 1 := by
    by_cases e : s = 0
    · subst e; rw [if_pos rfl]; exact k_bn0
    · rw [if_neg e]; exact k_bn (by omega) hs
  have b0 := k_bn0
  have esum : n + zBn (nI c) + zBn (nI s) + zBn (nI 0) + zBn (nI 0) + zBn (nI 0) = n + (if s = 0 then 1 else 2) := by
    rw [b1, b2, b0]
    split <;> omega
  have hle : n + (if s = 0 then 1 else 2) ≤ 100 := by split <;> omega
  generalize eτ : zA5 55 52 2 σ n (nI c) (nI s) (nI 0) (nI 0) (nI 0) = τ
  have hcall : sj_C G 9 me_X11_append [.ref (sj_ad G 0), .int (nI c), .int (nI s), .int (nI 0), .int (nI 0), .int (nI 0)] σ (.ok (nI (n + zBn (nI c) + zBn (nI s) + zBn (nI 0) + zBn (nI 0) + zBn (nI 0))), τ) := by
    refine c_X11_append ok ⟨_, _, z_signsIn ok _, _, _, z_signsIn ok _, _, _, z_signsIn ok _, _, _, z_signsIn ok _, _, _, z_signsIn ok _, fun _ => ⟨_, z_add ok h2 (by omega), _, z_add ok zAdd_c (by omega), _, z_add ok zAdd_c (by omega), _, z_add ok zAdd_c (by omega), _, z_add ok zAdd_c (by omega), ?_⟩, fun q => ?_⟩
    · rw [zAdd_c, ← eτ]
      rfl
    · rw [h2] at q
      simp only [nI_add] at q
      exact absurd (nI_le (by omega) (by decide)) q
  rw [esum] at hcall
  refine ⟨τ, hcall, fun b h1 h2 => by rw [← eτ, zA5_n h1 h2], fun k hk => by rw [← eτ, zA5_i (by decide) hk], by rw [← eτ, zA5_c, esum], ?_⟩
  rw [← eτ, zA5_a (by decide), k_pl0, k_pl0, k_pl0, k_pl h0 hc, b1]
  by_cases e : s = 0
  · subst e
    rw [if_pos rfl, k_pl0]
  · rw [if_neg e, k_pl (by omega) hs]
/-- what the tape holds once all that is written was appended -/
def kTx (T : Nat → Nat) (i : Nat) : Nat := if i % 5 = 0 then 48 + i / 5 else if i % 5 = 1 then zLet (T (i / 5) / 4) else if i % 5 = 2 then 48 + T (i / 5) % 4 else if i % 5 = 3 then 59 else 32
theorem kDy : ∀ d, d < 5 → zDy (nI (zLet d)) = d := by decide +kernel
theorem kChr : ∀ j, j < 10 → nI (48 + j) - nI 48 = nI j ∧ zChr (nI (48 + j)) = j ∧ ¬ (nI (48 + j) = nI 32 ∨ nI (48 + j) = nI 10) := by decide +kernel
theorem kLet : ∀ d, d < 5 → ¬ (nI (zLet d) = nI 32 ∨ nI (zLet d) = nI 10) := by decide +kernel
theorem kFll : ∀ l, l < 9 → nI (2 ^ l - 1) ||| (nI 1 <<< (nI l &&& 31)) = nI (2 ^ (l + 1) - 1) ∧ bt (nI (2 ^ l - 1)) l = false := by decide +kernel
theorem k_parse (v : okD D) (hT : ∀ l, l < dN D → T l < 20 ∧ ¬ (dDb D l = 1 ∧ T l % 4 = 3)) {f : Nat → Int32} (hf : ∀ i, i < 5 * dN D → f i = nI (kTx T i)) : ∃ U : Nat → Nat, (∀ l, l < dN D → U l = T l) ∧ zPok D (zPu D f (5 * dN D) 0 (nI 0, 0, 0, 0, fun _ => 0)) U := by
  have h9 := v.1
  have key : ∀ k l (a d : Nat) (U : Nat → Nat), l + k = dN D → (∀ o, o < l → U o = T o) → ∃ st : zPs, zPu D f (5 * k) (5 * l) (nI (2 ^ l - 1), 0, a, d, U) = .ok st ∧ st.2.1 = 0 ∧ st.1 = zFll (dN D) ∧ ∀ o, o < dN D → st.2.2.2.2 o = T o := by
    intro k
    induction k with
    | zero =>
      intro l a d U hl hU
      obtain rfl : l = dN D := by omega
      exact ⟨_, rfl, rfl, (zFll_eq (dN D) (by omega)).symm, hU⟩
    | succ k ih =>
      intro l a d U hl hU
      have hlN : l < dN D := by omega
      obtain ⟨t1, t2⟩ := hT l hlN
      have hdb := (v.2.2.2.1 l hlN).2.2.2.2
      have e0 : f (5 * l) = nI (48 + l) := by
        rw [hf _ (by omega)]
        unfold kTx
        rw [if_pos (by omega), show 5 * l / 5 = l by omega]
      have e1 : f (5 * l + 1) = nI (zLet (T l / 4)) := by
        rw [hf _ (by omega)]
        unfold kTx
        rw [if_neg (by omega), if_pos (by omega), show (5 * l + 1) / 5 = l by omega]
      have e2 : f (5 * l + 1 + 1) = nI (48 + T l % 4) := by
        rw [hf _ (by omega)]
        unfold kTx
        rw [if_neg (by omega), if_neg (by omega), if_pos (by omega), show (5 * l + 1 + 1) / 5 = l by omega]
      have e3 : f (5 * l + 1 + 1 + 1) = nI 59 := by
        rw [hf _ (by omega)]
        unfold kTx
        rw [if_neg (by omega), if_neg (by omega), if_neg (by omega), if_pos (by omega)]
      have e4 : f (5 * l + 1 + 1 + 1 + 1) = nI 32 := by
        rw [hf _ (by omega)]
        unfold kTx
        rw [if_neg (by omega), if_neg (by omega), if_neg (by omega), if_neg (by omega)]
      obtain ⟨c1, c2, c3⟩ := kChr l (by omega)
      obtain ⟨g1, g2, g3⟩ := kChr (T l % 4) (by omega)
      obtain ⟨f1, f2⟩ := kFll l (by omega)
      have s0 : zPn D (nI (2 ^ l - 1), 0, a, d, U) (f (5 * l)) = some (nI (2 ^ (l + 1) - 1), 1, l, d, U) := by
        rw [e0]
        unfold zPn
        rw [if_neg c3, if_pos rfl, c2, if_pos ⟨c1, hlN, f2⟩]
        show some (nI (2 ^ l - 1) ||| (nI 1 <<< (nI l &&& 31)), 1, l, d, U) = _
        rw [f1]
      have s1 : zPn D (nI (2 ^ (l + 1) - 1), 1, l, d, U) (f (5 * l + 1)) = some (nI (2 ^ (l + 1) - 1), 2, l, T l / 4, U) := by
        rw [e1]
        unfold zPn
        rw [if_neg (kLet _ (by omega)), if_neg (by show ¬ (1 : Nat) = 0; decide), if_pos rfl, kDy _ (by omega), if_pos (by omega)]
      have s2 : zPn D (nI (2 ^ (l + 1) - 1), 2, l, T l / 4, U) (f (5 * l + 1 + 1)) = some (nI (2 ^ (l + 1) - 1), 3, l, T l / 4, zEu U l (T l)) := by
        rw [e2]
        unfold zPn
        rw [if_neg g3, if_neg (by show ¬ (2 : Nat) = 0; decide), if_neg (by show ¬ (2 : Nat) = 1; decide), if_pos rfl, g2, if_pos ⟨g1, by show T l % 4 < 4 - dDb D l; omega⟩]
        show some (nI (2 ^ (l + 1) - 1), 3, l, T l / 4, zEu U l (4 * (T l / 4) + T l % 4)) = _
        rw [show 4 * (T l / 4) + T l % 4 = T l by omega]
      have s3 : zPn D (nI (2 ^ (l + 1) - 1), 3, l, T l / 4, zEu U l (T l)) (f (5 * l + 1 + 1 + 1)) = some (nI (2 ^ (l + 1) - 1), 0, l, T l / 4, zEu U l (T l)) := by
        rw [e3]
        unfold zPn
        rw [if_neg (by decide), if_neg (by show ¬ (3 : Nat) = 0; decide), if_neg (by show ¬ (3 : Nat) = 1; decide), if_neg (by show ¬ (3 : Nat) = 2; decide), if_pos rfl]
      have s4 : zPn D (nI (2 ^ (l + 1) - 1), 0, l, T l / 4, zEu U l (T l)) (f (5 * l + 1 + 1 + 1 + 1)) = some (nI (2 ^ (l + 1) - 1), 0, l, T l / 4, zEu U l (T l)) := by
        rw [e4]
        unfold zPn
        rw [if_pos (Or.inl rfl)]
      obtain ⟨st, h1, h2⟩ := ih (l + 1) l (T l / 4) (zEu U l (T l)) (by omega) (fun o ho => by
        unfold zEu
        by_cases e : o = l
        · rw [if_pos e, e]
        · rw [if_neg e]; exact hU o (by omega))
      refine ⟨st, ?_, h2⟩
      rw [show 5 * (k + 1) = 5 * k + 1 + 1 + 1 + 1 + 1 by omega, zPu_s s0, zPu_s s1, zPu_s s2, zPu_s s3, zPu_s s4]
      exact h1
  obtain ⟨st, h1, h2, h3, h4⟩ := key (dN D) 0 0 0 (fun _ => 0) (by omega) (fun o ho => absurd ho (Nat.not_lt_zero o))
  exact ⟨st.2.2.2.2, h4, st, h1, h2, h3, rfl⟩
theorem k_read (ok : sj_ok G) (h : kT D T σ) (hH : kH σ) (h2 : σ 52 2 = nI (5 * dN D)) (hf : ∀ i, i < 5 * dN D → σ 55 i = nI (kTx T i)) :
    ∃ σ', sj_C G 11 me_X11_read [.ref (sj_ad G 0)] σ (.ok (nI (zCost D T)), σ') ∧ kG σ σ' ∧ kH σ' ∧ kT D T σ' ∧ kU σ' (σ 2) (σ 3) ∧ σ' 52 3 = -1 := by
  have h0 := h
  obtain ⟨v, hC, hq, hT, hrt⟩ := h
  have h9 := v.1
  have hTb : ∀ l, l < dN D → T l < 20 ∧ ¬ (dDb D l = 1 ∧ T l % 4 = 3) := fun l hl => ⟨(hT l hl).2, (zSt_iff.mp (hrt l hl).2.1).1⟩
  obtain ⟨U, hUT, hPk⟩ := k_parse v hTb hf
  obtain ⟨ρ1, hpa, p1, p2, p3, p4, p5⟩ := z_parse (σ := σ) ok hC v (by omega) h2
  generalize er : zPu D (σ 55) (5 * dN D) 0 (nI 0, 0, 0, 0, fun _ => 0) = r at hpa p4 p5 hPk
  have hz : zPe D (5 * dN D) r = -1 := by
    obtain ⟨st, e1, e2, e3, -⟩ := hPk
    rw [e1]
    exact if_pos ⟨e2, e3⟩
  rw [if_pos hz] at hpa
  have hem : sj_C G 2 me_X9_empty [.ref (sj_ad G 52)] ρ1 (.ok (nI (5 * dN D)), sj_st ρ1 52 2 (nI 0)) := by
    refine c_X9_empty ok ?_
    unfold wp_X9_empty_0
    rw [p2]
  generalize eρ2 : sj_st ρ1 52 2 (nI 0) = ρ2 at hem
  have q1 : ∀ b, b ≠ 52 → b ≠ 53 → ρ2 b = σ b := fun b h1 h2 => by rw [← eρ2, z_stn h1]; exact p1 b h1 h2
  have q3 : ρ2 52 3 = -1 := by rw [← eρ2, z_sti (by decide), p4, hz]
  have q53 : ρ2 53 = ρ1 53 := by rw [← eρ2, z_stn (by decide)]
  have hCρ : repC D (ρ2 2) := by rw [q1 2 (by decide) (by decide)]; exact hC
  obtain ⟨τ, hh, htk, hru, hτ⟩ := z_hard (σ := ρ2) ok hCρ v
  have hR : repT (dN D) T (τ 53) := fun l hl => by
    rw [hτ 53 (by omega), q53, (p5 U hPk l hl).1, hUT l hl]
    exact ⟨rfl, (hT l hl).2⟩
  have hri := z_isRight (σ := τ) ok v (Or.inl rfl) z_sl53 hru hR
  rw [zRb_iff.mpr hrt, if_pos rfl] at hri
  have τb : ∀ b, b ≠ 52 → b ≠ 53 → (b < 6 ∨ 16 < b) → τ b = σ b := fun b n1 n2 n3 => by rw [hτ b n3, q1 b n1 n2]
  obtain ⟨B, hB, eB, e30, eP, bH, bU⟩ := k_begin (σ := τ) ok (kH_e hH (τb 4 (by decide) (by decide) (by omega)))
  have hpt := z_putTable (σ := B) ok z_sl53
  generalize eχ : sj_up (sj_st B 2 2 (nI 1)) 3 (va_cpy (sj_st B 2 2 (nI 1) 53) (sj_st B 2 2 (nI 1) 3) 0 0 9) = χ at hpt
  have χn : ∀ b, b ≠ 2 → b ≠ 3 → χ b = B b := fun b h1 h2 => by rw [← eχ, z_upn h2, z_stn h1]
  have h22 : σ 2 2 = nI 1 := hC.2.2.1.trans (by rw [hq])
  have χ2 : χ 2 = σ 2 := by
    rw [← eχ, z_upn (by decide), z_sta, eB 2 (by decide) (by decide) (by decide), τb 2 (by decide) (by decide) (by omega)]
    exact z_updself h22
  have χ3 : ∀ i, i < dN D → χ 3 i = nI (T i) := fun i hi => by
    rw [← eχ, sj_up_s]
    unfold va_cpy
    rw [if_pos (by omega), z_stn (by decide), eB 53 (by decide) (by decide) (by decide), show 0 + (i - 0) = i by omega]
    exact (hR i hi).1
  have χT : kT D T χ := ⟨v, by rw [χ2]; exact hC, hq, fun l hl => ⟨χ3 l hl, (hT l hl).2⟩, hrt⟩
  have hco := z_costOf (σ := χ) ok χT.2.1 v z_sl3 χT.2.2.2.1
  refine ⟨χ, c_X11_read ok ⟨_, _, hpa, _, _, hem, fun _ => ⟨_, _, hh, _, htk, _, _, hri, fun _ => ⟨_, hB, _, hpt, _, _, hco, rfl⟩, fun q => absurd q z_10⟩, fun q => absurd q z_10⟩, ⟨fun b hb => ?_, fun k hk => ?_⟩, kH_e bH (χn 4 (by decide) (by decide)), χT, ?_, ?_⟩
  · rw [χn b (by omega) (by omega), eB b (by omega) (by omega) (by omega), τb b (by omega) (by omega) (by omega)]
  · rw [χn 30 (by decide) (by decide), e30 k hk, τb 30 (by decide) (by decide) (by omega)]
  · obtain ⟨nx, t, u1, u2, u3, u4, u5, u6, u7⟩ := bU
    refine ⟨nx, t, u1, u2, u3, by rw [χn 4 (by decide) (by decide)]; exact u4, by rw [χn 4 (by decide) (by decide)]; exact u5, fun i hi => ?_, fun i hi => ?_⟩
    · rw [χn 5 (by decide) (by decide), u6 i hi, τb 2 (by decide) (by decide) (by omega)]
    · rw [χn 5 (by decide) (by decide), u7 i hi, τb 3 (by decide) (by decide) (by omega)]
  · rw [χn 52 (by decide) (by decide), eB 52 (by decide) (by decide) (by decide), hτ 52 (by omega), q3]
theorem k_errorPosition (ok : sj_ok G) : sj_C G 2 me_X11_errorPosition [.ref (sj_ad G 0)] σ (.ok (σ 52 3), σ) := c_X11_errorPosition ok rfl
theorem k_undo (ok : sj_ok G) {c tb : Nat → Int32} (h : kU σ c tb) : ∃ (n : Nat) (σ' : sj_S), n < 20 ∧ sj_C G 3 me_X11_undo [.ref (sj_ad G 0)] σ (.ok (nI n), σ') ∧ kCh σ σ' ∧ kH σ' ∧ (∀ i, i < 119 → σ' 2 i = c i) ∧ ∀ i, i < 9 → σ' 3 i = tb i := by
  obtain ⟨nx, t, hnx, h0, ht, h41, h42, h5a, h5b⟩ := h
  generalize eF : sj_st σ 30 3 (-1) = F
  have eFn : ∀ b, b ≠ 30 → F b = σ b := fun b hb => by
    subst eF
    rw [z_stn hb]
  have hb := z_back (σ := F) ok hnx h0 ht (by rw [eFn 4 (by decide), h41]) (by rw [eFn 4 (by decide), h42])
  generalize eτ : zBack F nx t = τ at hb
  have hτ : ∀ b, b ≠ 2 → b ≠ 3 → b ≠ 4 → τ b = F b := fun b h1 h2 h3 => by
    subst eτ
    unfold zBack
    rw [z_upn h2, z_upn h1, z_stn h3, z_stn h3]
  have t41 : τ 4 1 = nI ((nx + 20 - 1) % 20) := by
    rw [← eτ]
    unfold zBack
    rw [z_upn (by decide), z_upn (by decide), z_sti (by decide), z_ste]
  have t42 : τ 4 2 = nI (t - 1) := by
    rw [← eτ]
    unfold zBack
    rw [z_upn (by decide), z_upn (by decide), z_ste]
  have hfo : sj_C G 2 me_X4_forget [.ref (sj_ad G 30)] σ (.ok 0, F) := c_X4_forget ok (by rw [← eF]; rfl)
  refine ⟨t - 1, τ, by omega, c_X11_undo ok ⟨fun _ => ⟨_, hfo, _, _, hb, rfl⟩, fun q => ?_⟩, ⟨fun b h2 h3 h4 h5 h30 => by rw [hτ b h2 h3 h4, eFn b h30], fun k hk => by rw [hτ 30 (by decide) (by decide) (by decide), ← eF, z_sti hk]⟩, ⟨_, _, Nat.mod_lt _ (by decide), by omega, t41, t42⟩, fun i hi => ?_, fun i hi => ?_⟩
  · rw [h42] at q
    exact absurd q (nI_ne0 h0 (by omega))
  · rw [← eτ]
    unfold zBack
    rw [z_upn (by decide), sj_up_s, eFn 5 (by decide), ← h5a i hi]
    unfold va_cpy
    rw [if_pos (by omega)]
    congr 1
  · rw [← eτ]
    unfold zBack
    rw [sj_up_s, eFn 5 (by decide), ← h5b i hi]
    unfold va_cpy
    rw [if_pos (by omega)]
    congr 1
end K3
