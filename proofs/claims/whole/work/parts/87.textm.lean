/-! TEXTS 2: the reference; a change behind any calls of the reference -/
section ZTM
variable {G : sj_G} {σ : sj_S} {D : zD}
theorem z_chg4 (ok : sj_ok G) (h : zA σ) : ∃ B, sj_C G 3 me_X11_beginChange [.ref (sj_ad G 0)] σ (.ok 0, B) ∧ (∀ b, b ≠ 4 → b ≠ 5 → b ≠ 30 → B b = σ b) ∧ (∀ k, k ≠ 3 → B 30 k = σ 30 k) ∧ ∀ κ, (∀ b, b ∈ [4, 5, 30, 57, 58] → κ b = B b) → κ 56 3 = B 56 3 → ∃ σ', sj_C G 2 me_X12_keeps [.ref (sj_ad G 56)] κ (.ok 0, σ') ∧ (∀ b, b ≠ 56 → b ≠ 58 → σ' b = κ b) ∧ (∀ k, k ≠ 3 → k ≠ 7 → σ' 56 k = κ 56 k) ∧
    ∀ ρ, (∀ b, b ∈ [4, 5, 30, 58] → ρ b = σ' b) → ρ 56 3 = σ' 56 3 → ρ 56 7 = σ' 56 7 → zSR (ρ 2) (ρ 3) (ρ 57) → zA ρ := by
  obtain ⟨nx, t, hnx, ht, h41, h42, h3, hs⟩ := h.2.1
  refine ⟨zBeg σ nx t, z_begin ok hnx ht h41 h42, fun b h1 h2 h3 => zBeg_n h1 h2 h3, fun k hk => zBeg_30 hk, fun κ hκ hκ3 => ?_⟩
  have t3 : κ 56 3 = nI t := by rw [hκ3, zBeg_n (by decide) (by decide) (by decide), h3]
  obtain ⟨σ', hkp, k1, k2, k3, k4, k5⟩ := y_keeps (σ := κ) ok ht t3
  refine ⟨σ', hkp, k1, k4, fun ρ hρ r3 r7 hS => ⟨hS, ?_, ?_⟩⟩
  · have e57 : κ 57 = σ 57 := by rw [hκ 57 (by decide), zBeg_n (by decide) (by decide) (by decide)]
    have e58 : κ 58 = σ 58 := by rw [hκ 58 (by decide), zBeg_n (by decide) (by decide) (by decide)]
    rw [e57, e58] at k5
    rw [hρ 58 (by decide)]
    refine zH_keep hnx ht hs h.1 k5 (f4' := ρ 4) (f5' := ρ 5) ?_ ?_ ?_ (r3.trans k2)
    · rw [hρ 5 (by decide), k1 5 (by decide) (by decide), hκ 5 (by decide), zBeg_5]
    · rw [hρ 4 (by decide), k1 4 (by decide) (by decide), hκ 4 (by decide), zBeg_1]
    · rw [hρ 4 (by decide), k1 4 (by decide) (by decide), hκ 4 (by decide), zBeg_2]
  · rw [r7, k3, hρ 30 (by decide), k1 30 (by decide) (by decide), hκ 30 (by decide), zBeg_p]
    exact ⟨rfl, Or.inl rfl⟩
theorem zPu_err {f : Nat → Int32} : ∀ n k st e, zPu D f n k st = .error e → e < k + n := by
  intro n
  induction n with
  | zero => intro k st e h; cases h
  | succ n ih =>
    intro k st e h
    cases hst : zPn D st (f k) with
    | none =>
      rw [zPu_n hst] at h
      cases h
      omega
    | some st' =>
      rw [zPu_s hst] at h
      have := ih (k + 1) st' e h
      omega
theorem zPe_ok {len : Nat} {r : Except Nat zPs} (hl : len < 2 ^ 31) (hr : ∀ e, r = .error e → e < 2 ^ 31) (h : zPe D len r = -1) : ∃ T, zPok D r T := by
  cases r with
  | error e => exact absurd h (z_nm1 (hr e rfl))
  | ok st =>
    by_cases q : st.2.1 = 0 ∧ st.1 = zFll (dN D)
    · exact ⟨st.2.2.2.2, st, rfl, q.1, q.2, rfl⟩
    · have e : zPe D len (.ok st) = nI len := if_neg q
      rw [e] at h
      exact absurd h (z_nm1 hl)
theorem zDy_c (b : Int32) : (if b = nI 109 then nI 0 else (if b = nI 116 then nI 1 else (if b = nI 119 then nI 2 else (if b = nI 104 then nI 3 else (if b = nI 102 then nI 4 else (-1)))))) = if zDy b < 5 then nI (zDy b) else -1 := by
  have key : zDy b = if b = nI 109 then 0 else (if b = nI 116 then 1 else (if b = nI 119 then 2 else (if b = nI 104 then 3 else (if b = nI 102 then 4 else 5)))) := by
    unfold zDy
    rw [zLs_s, zLs_s, zLs_s, zLs_s, zLs_s]
    have e : ∀ d c, zLet d = c → (!decide (nI (zLet d) = b)) = !decide (b = nI c) := fun d c h => by rw [h]; exact congrArg _ (decide_eq_decide.mpr ⟨fun q => q.symm, fun q => q.symm⟩)
    rw [e 0 109 rfl, e (0 + 1) 116 rfl, e (0 + 1 + 1) 119 rfl, e (0 + 1 + 1 + 1) 104 rfl, e (0 + 1 + 1 + 1 + 1) 102 rfl]
    by_cases h1 : b = nI 109
    · rw [decide_eq_true h1, if_pos h1]; rfl
    · rw [decide_eq_false h1, if_neg h1, if_pos (show (!false) = true from rfl)]
      by_cases h2 : b = nI 116
      · rw [decide_eq_true h2, if_pos h2]; rfl
      · rw [decide_eq_false h2, if_neg h2, if_pos (show (!false) = true from rfl)]
        by_cases h3 : b = nI 119
        · rw [decide_eq_true h3, if_pos h3]; rfl
        · rw [decide_eq_false h3, if_neg h3, if_pos (show (!false) = true from rfl)]
          by_cases h4 : b = nI 104
          · rw [decide_eq_true h4, if_pos h4]; rfl
          · rw [decide_eq_false h4, if_neg h4, if_pos (show (!false) = true from rfl)]
            by_cases h5 : b = nI 102
            · rw [decide_eq_true h5, if_pos h5]; rfl
            · rw [decide_eq_false h5, if_neg h5, if_pos (show (!false) = true from rfl)]; rfl
  rw [key]
  by_cases h1 : b = nI 109
  · rw [if_pos h1, if_pos h1, if_pos (by decide)]
  · rw [if_neg h1, if_neg h1]
    by_cases h2 : b = nI 116
    · rw [if_pos h2, if_pos h2, if_pos (by decide)]
    · rw [if_neg h2, if_neg h2]
      by_cases h3 : b = nI 119
      · rw [if_pos h3, if_pos h3, if_pos (by decide)]
      · rw [if_neg h3, if_neg h3]
        by_cases h4 : b = nI 104
        · rw [if_pos h4, if_pos h4, if_pos (by decide)]
        · rw [if_neg h4, if_neg h4]
          by_cases h5 : b = nI 102
          · rw [if_pos h5, if_pos h5, if_pos (by decide)]
          · rw [if_neg h5, if_neg h5, if_neg (by decide)]
theorem y_dayNamed (ok : sj_ok G) (b : Int32) : sj_C G 2 me_X12_dayNamed [.int b] σ (.ok (if zDy b < 5 then nI (zDy b) else -1), σ) := by
  refine c_X12_dayNamed ok ?_
  unfold wp_X12_dayNamed_0 wp_X12_dayNamed_51
  rw [zDy_c]
/-- the reference reads -/
theorem y_readsTape (ok : sj_ok G) (hM : repM D (σ 57)) (v : okD D) {len : Nat} (hlen : len ≤ 100) (h26 : σ 56 26 = nI len) {f : Nat → Int32} (hf : ∀ i, i < len → σ 75 i = f i) : ∃ ρ, sj_C G 3 me_X12_readsTape [.ref (sj_ad G 56)] σ (.ok (zPe D len (zPu D f len 0 (nI 0, 0, 0, 0, fun _ => 0))), ρ) ∧ (∀ b, b ≠ 59 → ρ b = σ b) ∧
    ∀ T, zPok D (zPu D f len 0 (nI 0, 0, 0, 0, fun _ => 0)) T → ∀ j, j < dN D → ρ 59 j = nI (T j) ∧ T j < 20 ∧ ¬ (dDb D j = 1 ∧ T j % 4 = 3) := by
  have h9 := v.1
  have hfl : (nI 1 <<< (nI (dN D) &&& 31)) - nI 1 = zFll (dN D) := rfl
  have key : ∀ n k st (ρ : sj_S), k + n = len → zPv D st → (∀ b, b ≠ 59 → ρ b = σ b) → zPg D st (ρ 59) → ∃ ρ', sj_J G 3 me_X12_readsTape (.ok (zPe D len (zPu D f n k st)), ρ') 12 [.ref (sj_ad G 56), .int st.1, .int (nI st.2.1), .int (nI st.2.2.1), .int (nI st.2.2.2.1), .int (nI k), .null, .null] ρ [] ∧ (∀ b, b ≠ 59 → ρ' b = σ b) ∧
      ∀ T, zPok D (zPu D f n k st) T → ∀ j, j < dN D → ρ' 59 j = nI (T j) ∧ T j < 20 ∧ ¬ (dDb D j = 1 ∧ T j % 4 = 3) := by
    intro n
    induction n with
    | zero =>
      intro k st ρ hk hv hr hg
      have hMρ : repM D (ρ 57) := by rw [hr 57 (by decide)]; exact hM
      have r26 : ρ 56 26 = nI len := by rw [hr 56 (by decide)]; exact h26
      have hge : (ρ 56 26) ≤ nI k := by rw [r26]; exact nI_le (by omega) (by omega)
      have hs3 := hv.1
      rw [zPu_0]
      refine ⟨ρ, t_X12_readsTape_12 ⟨fun _ => ⟨fun q => ?_, fun q => ⟨_, _, y_many ok, ?_⟩⟩, fun q => absurd hge q⟩, hr, fun T hT j hj => ?_⟩
      · have h0 : ¬ st.2.1 = 0 := fun e => by rw [e] at q; exact q nI_0
        have he : zPe D len (.ok st) = nI len := if_neg (fun q => h0 q.1)
        unfold wp_X12_readsTape_205 wp_X12_readsTape_209
        rw [he, r26]
      · have h0 : st.2.1 = 0 := by
          apply Classical.byContradiction
          intro e
          exact absurd q (nI_ne0 (by omega) (by omega))
        unfold wp_X12_readsTape_209
        rw [hMρ.1, hfl, r26]
        by_cases hf : st.1 = zFll (dN D)
        · have he : zPe D len (.ok st) = -1 := if_pos ⟨h0, hf⟩
          rw [he, if_pos hf]
        · have he : zPe D len (.ok st) = nI len := if_neg (fun q => hf q.2)
          rw [he, if_neg hf]
      · obtain ⟨st2, e1, e2, e3, e4⟩ := hT
        cases Except.ok.inj e1
        rw [← e4]
        exact hg j hj (by rw [e3]; exact zFll_bt _ (by omega) j hj) (fun _ => Or.inl e2)
    | succ n ih =>
      intro k st ρ hk hv hr hg
      have hMρ : repM D (ρ 57) := by rw [hr 57 (by decide)]; exact hM
      have r26 : ρ 56 26 = nI len := by rw [hr 56 (by decide)]; exact h26
      have hlt : ¬ (ρ 56 26) ≤ nI k := by rw [r26]; exact nI_ge (by omega) (by omega)
      have h75 : ρ 75 (nI k).toNatClampNeg = f k := by rw [nI_clamp (by omega), hr 75 (by decide)]; exact hf k (by omega)
      have i100 : vp_in (nI k) 100 := z_in (by omega) (by decide)
      by_cases hb : f k = nI 32 ∨ f k = nI 10
      · rw [zPu_s (zPn_blank (D := D) hb)]
        obtain ⟨ρ', r1, r2⟩ := ih (k + 1) st ρ (by omega) hv hr hg
        refine ⟨ρ', t_X12_readsTape_12 ⟨fun q => absurd q hlt, fun _ => ⟨i100, ?_⟩⟩, r2⟩
        rw [h75]
        unfold wp_X12_readsTape_179
        rw [nI_add]
        refine ⟨fun _ => r1, fun q => ⟨fun q2 => ?_, fun _ => r1⟩⟩
        rcases hb with h | h
        · exact absurd h q
        · exact absurd h q2
      · have hn32 : ¬ f k = nI 32 := fun q => hb (Or.inl q)
        have hn10 : ¬ f k = nI 10 := fun q => hb (Or.inr q)
        obtain ⟨told, s, l, d, T⟩ := st
        obtain ⟨v1, v2, v3⟩ := hv
        simp only at v1 v2 v3
        -- the next byte
        have hnext : ∀ st' ρ1, zPn D (told, s, l, d, T) (f k) = some st' → zPv D st' → (∀ b, b ≠ 59 → ρ1 b = σ b) → zPg D st' (ρ1 59) → st'.2.1 = (s + 1) % 4 →
            (∀ R : sj_R, sj_J G 3 me_X12_readsTape R 12 [.ref (sj_ad G 56), .int st'.1, .int (nI (s + 1) - nI (s + 1) / nI 4 * nI 4), .int (nI st'.2.2.1), .int (nI st'.2.2.2.1), .int (nI (k + 1)), .null, .null] ρ1 [] → sj_J G 3 me_X12_readsTape R 12 [.ref (sj_ad G 56), .int told, .int (nI s), .int (nI l), .int (nI d), .int (nI k), .null, .null] ρ []) →
            ∃ ρ', sj_J G 3 me_X12_readsTape (.ok (zPe D len (zPu D f (n + 1) k (told, s, l, d, T))), ρ') 12 [.ref (sj_ad G 56), .int told, .int (nI s), .int (nI l), .int (nI d), .int (nI k), .null, .null] ρ [] ∧ (∀ b, b ≠ 59 → ρ' b = σ b) ∧
              ∀ T', zPok D (zPu D f (n + 1) k (told, s, l, d, T)) T' → ∀ j, j < dN D → ρ' 59 j = nI (T' j) ∧ T' j < 20 ∧ ¬ (dDb D j = 1 ∧ T' j % 4 = 3) := by
          intro st' ρ1 hst hv' hr' hg' hs' hgo
          rw [zPu_s hst]
          obtain ⟨ρ', r1, r2⟩ := ih (k + 1) st' ρ1 (by omega) hv' hr' hg'
          refine ⟨ρ', hgo _ ?_, r2⟩
          rw [pk_rem (by omega) (by decide) (by decide), ← hs']
          exact r1
        have hbad : zPn D (told, s, l, d, T) (f k) = none → (sj_J G 3 me_X12_readsTape (.ok (nI k), ρ) 12 [.ref (sj_ad G 56), .int told, .int (nI s), .int (nI l), .int (nI d), .int (nI k), .null, .null] ρ []) →
            ∃ ρ', sj_J G 3 me_X12_readsTape (.ok (zPe D len (zPu D f (n + 1) k (told, s, l, d, T))), ρ') 12 [.ref (sj_ad G 56), .int told, .int (nI s), .int (nI l), .int (nI d), .int (nI k), .null, .null] ρ [] ∧ (∀ b, b ≠ 59 → ρ' b = σ b) ∧
              ∀ T', zPok D (zPu D f (n + 1) k (told, s, l, d, T)) T' → ∀ j, j < dN D → ρ' 59 j = nI (T' j) ∧ T' j < 20 ∧ ¬ (dDb D j = 1 ∧ T' j % 4 = 3) := by
          intro hst hgo
          rw [zPu_n hst]
          exact ⟨ρ, hgo, hr, fun T' hT j hj => by obtain ⟨st2, e1, -⟩ := hT; cases e1⟩
        have hzn : zPn D (told, s, l, d, T) (f k) = if s = 0 then (if f k - nI 48 = nI (zChr (f k)) ∧ zChr (f k) < dN D ∧ bt told (zChr (f k)) = false then some (told ||| (nI 1 <<< (nI (zChr (f k)) &&& 31)), 1, zChr (f k), d, T) else none)
            else if s = 1 then (if zDy (f k) < 5 then some (told, 2, l, zDy (f k), T) else none)
            else if s = 2 then (if f k - nI 48 = nI (zChr (f k)) ∧ zChr (f k) < 4 - dDb D l then some (told, 3, l, d, zEu T l (4 * d + zChr (f k))) else none)
            else (if f k = nI 59 then some (told, 0, l, d, T) else none) := if_neg hb
        rcases (by omega : s = 0 ∨ s = 1 ∨ s = 2 ∨ s = 3) with e | e | e | e <;> subst e
        · rw [if_pos rfl] at hzn
          rcases z_rg (f k - nI 48) (dN D) with ⟨j, hj, ej⟩ | hx
          · have ec := zChr_of ej (by omega)
            have hin := y_inn1 (σ := ρ) ok (j := j) (n := dN D) hj (by omega)
            cases hbt : bt told j
            · rw [if_pos ⟨by rw [ec]; exact ej, by rw [ec]; exact hj, by rw [ec]; exact hbt⟩, ec] at hzn
              refine hnext _ ρ hzn ⟨by show 1 ≤ 3; omega, fun _ => hj, fun q => absurd q (by show ¬ 1 = 2; omega)⟩ hr (fun i hi hbi hne => ?_) rfl (fun R hR => ?_)
              · have hil : ¬ i = j := fun q => by
                  rcases hne q with r | r
                  · exact absurd r (by show ¬ 1 = 0; omega)
                  · exact absurd r (by show ¬ 1 = 3; omega)
                refine hg i hi ?_ (fun _ => Or.inl rfl)
                have hbi : bt (told ||| (nI 1 <<< (nI j &&& 31))) i = true := hbi
                rw [b_or, z_shl1 (by omega) (by omega), decide_eq_false hil, Bool.or_false] at hbi
                exact hbi
              · refine t_X12_readsTape_12 ⟨fun q => absurd q hlt, fun _ => ⟨i100, ?_⟩⟩
                rw [h75, ej]
                refine ⟨fun q => ?_, fun _ => ⟨fun _ => ⟨fun q => absurd nI_0 q, fun _ => ⟨_, _, y_many ok, ?_⟩⟩, fun q => ?_⟩⟩
                · exact absurd q hn32
                · rw [hMρ.1]
                  refine ⟨_, _, hin, fun q => absurd q z_10, fun _ => ⟨fun _ => ?_, fun q => ?_⟩⟩
                  · unfold wp_X12_readsTape_173 wp_X12_readsTape_179
                    rw [nI_add, nI_add]
                    exact hR
                  · rw [z_bitv (by omega), hbt, if_neg (by decide)] at q
                    exact absurd q (by decide)
                · exact absurd q hn10
            · rw [if_neg (by rw [ec]; rintro ⟨-, -, r⟩; rw [hbt] at r; cases r)] at hzn
              refine hbad hzn (t_X12_readsTape_12 ⟨fun q => absurd q hlt, fun _ => ⟨i100, ?_⟩⟩)
              rw [h75, ej]
              refine ⟨fun q => absurd q hn32, fun _ => ⟨fun _ => ⟨fun q => absurd nI_0 q, fun _ => ⟨_, _, y_many ok, ?_⟩⟩, fun q => absurd q hn10⟩⟩
              rw [hMρ.1]
              refine ⟨_, _, hin, fun q => absurd q z_10, fun _ => ⟨fun q => ?_, fun _ => rfl⟩⟩
              rw [z_bitv (by omega), hbt, if_pos rfl] at q
              exact absurd rfl q
          · have hin := y_inn0 (σ := ρ) ok hx (by omega)
            rw [if_neg (fun r => hx _ r.2.1 r.1)] at hzn
            refine hbad hzn (t_X12_readsTape_12 ⟨fun q => absurd q hlt, fun _ => ⟨i100, ?_⟩⟩)
            rw [h75]
            refine ⟨fun q => absurd q hn32, fun _ => ⟨fun _ => ⟨fun q => absurd nI_0 q, fun _ => ⟨_, _, y_many ok, ?_⟩⟩, fun q => absurd q hn10⟩⟩
            rw [hMρ.1]
            exact ⟨_, _, hin, fun _ => rfl, fun q => absurd z_00 q⟩
        · rw [if_neg (by decide), if_pos rfl] at hzn
          have hl := v2 (by omega)
          have hdn := y_dayNamed (σ := ρ) ok (f k)
          by_cases hc : zDy (f k) < 5
          · rw [if_pos hc] at hzn hdn
            refine hnext _ ρ hzn ⟨by show 2 ≤ 3; omega, fun _ => hl, fun _ => hc⟩ hr (fun i hi hbi hne => ?_) rfl (fun R hR => ?_)
            · have hil : ¬ i = l := fun q => by
                rcases hne q with r | r
                · exact absurd r (by show ¬ 2 = 0; omega)
                · exact absurd r (by show ¬ 2 = 3; omega)
              exact hg i hi hbi (fun q => absurd q hil)
            · refine t_X12_readsTape_12 ⟨fun q => absurd q hlt, fun _ => ⟨i100, ?_⟩⟩
              rw [h75]
              refine ⟨fun q => absurd q hn32, fun _ => ⟨fun _ => ⟨fun _ => ⟨fun q => absurd rfl q, fun _ => ⟨_, _, hdn, fun _ => ?_, fun q => absurd q (z_nm1 (by omega))⟩⟩, fun q => absurd q z_10⟩, fun q => absurd q hn10⟩⟩
              unfold wp_X12_readsTape_173 wp_X12_readsTape_179
              rw [nI_add, nI_add]
              exact hR
          · rw [if_neg hc] at hzn hdn
            refine hbad hzn (t_X12_readsTape_12 ⟨fun q => absurd q hlt, fun _ => ⟨i100, ?_⟩⟩)
            rw [h75]
            exact ⟨fun q => absurd q hn32, fun _ => ⟨fun _ => ⟨fun _ => ⟨fun q => absurd rfl q, fun _ => ⟨_, _, hdn, fun q => absurd rfl q, fun _ => rfl⟩⟩, fun q => absurd q z_10⟩, fun q => absurd q hn10⟩⟩
        · rw [if_neg (by decide), if_neg (by decide), if_pos rfl] at hzn
          have hl := v2 (by omega)
          have hd := v3 rfl
          obtain ⟨-, -, -, -, g5⟩ := v.2.2.2.1 l hl
          have e36 : (nI 36 + nI l).toNatClampNeg = 36 + l := by rw [nI_add, nI_clamp (by omega)]
          have i36 : vp_in (nI 36 + nI l) 128 := by rw [nI_add]; exact z_in (by omega) (by decide)
          have hdb : ρ 57 (36 + l) = nI (dDb D l) := (hMρ.2.2.2.1 l hl).2.2.2.2
          have n21 : ¬ nI 2 = nI 1 := by decide
          have n20 : ¬ nI 2 = 0 := by decide
          rcases z_rg (f k - nI 48) (4 - dDb D l) with ⟨j, hj, ej⟩ | hx
          · have ec := zChr_of ej (by omega)
            have hin := y_inr1 (σ := ρ) ok (j := j) (B := 3 - dDb D l) (by omega) (by omega)
            rw [if_pos ⟨by rw [ec]; exact ej, by rw [ec]; exact hj⟩, ec] at hzn
            refine hnext _ (sj_st ρ 59 l (nI (4 * d + j))) hzn ⟨by show 3 ≤ 3; omega, fun _ => hl, fun q => absurd q (by show ¬ 3 = 2; omega)⟩ (fun b hb => by rw [z_stn hb]; exact hr b hb) (fun i hi hbi hne => ?_) rfl (fun R hR => ?_)
            · show sj_st ρ 59 l (nI (4 * d + j)) 59 i = nI (zEu T l (4 * d + j) i) ∧ zEu T l (4 * d + j) i < 20 ∧ ¬ (dDb D i = 1 ∧ zEu T l (4 * d + j) i % 4 = 3)
              unfold zEu
              by_cases q : i = l
              · subst q
                rw [z_ste, if_pos rfl]
                refine ⟨rfl, by omega, ?_⟩
                rintro ⟨q1, q2⟩
                omega
              · rw [z_sti q, if_neg q]
                exact hg i hi hbi (fun r => absurd r q)
            · refine t_X12_readsTape_12 ⟨fun q => absurd q hlt, fun _ => ⟨i100, ?_⟩⟩
              rw [h75, ej, e36, hdb]
              refine ⟨fun q => absurd q hn32, fun _ => ⟨fun _ => ⟨fun _ => ⟨fun _ => ⟨fun q => absurd rfl q, fun _ => ⟨i36, ?_⟩⟩, fun q => absurd q n21⟩, fun q => absurd q n20⟩, fun q => absurd q hn10⟩⟩
              rw [pk_sub (by omega : dDb D l ≤ 3)]
              refine ⟨_, _, hin, fun _ => ⟨z_in (by omega) (by decide), ?_⟩, fun q => absurd q z_10⟩
              unfold wp_X12_readsTape_173 wp_X12_readsTape_179
              rw [nI_clamp (by omega), pk_mul, nI_add (4 * d) j, nI_add, nI_add]
              exact hR
          · have hin := y_inr0 (σ := ρ) (B := 3 - dDb D l) ok (fun j hj => hx j (by omega)) (by omega)
            rw [if_neg (fun r => hx _ r.2 r.1)] at hzn
            refine hbad hzn (t_X12_readsTape_12 ⟨fun q => absurd q hlt, fun _ => ⟨i100, ?_⟩⟩)
            rw [h75, e36, hdb]
            refine ⟨fun q => absurd q hn32, fun _ => ⟨fun _ => ⟨fun _ => ⟨fun _ => ⟨fun q => absurd rfl q, fun _ => ⟨i36, ?_⟩⟩, fun q => absurd q n21⟩, fun q => absurd q n20⟩, fun q => absurd q hn10⟩⟩
            rw [pk_sub (by omega : dDb D l ≤ 3)]
            exact ⟨_, _, hin, fun q => absurd z_00 q, fun _ => rfl⟩
        · rw [if_neg (by decide), if_neg (by decide), if_neg (by decide)] at hzn
          have n32 : ¬ nI 3 = nI 2 := by decide
          have n31 : ¬ nI 3 = nI 1 := by decide
          have n30 : ¬ nI 3 = 0 := by decide
          by_cases hc : f k = nI 59
          · rw [if_pos hc] at hzn
            refine hnext _ ρ hzn ⟨by show 0 ≤ 3; omega, fun q => absurd q (by show ¬ 1 ≤ 0; omega), fun q => absurd q (by show ¬ 0 = 2; omega)⟩ hr (fun i hi hbi _ => hg i hi hbi (fun _ => Or.inr rfl)) rfl (fun R hR => ?_)
            refine t_X12_readsTape_12 ⟨fun q => absurd q hlt, fun _ => ⟨i100, ?_⟩⟩
            rw [h75]
            refine ⟨fun q => absurd q hn32, fun _ => ⟨fun _ => ⟨fun _ => ⟨fun _ => ⟨fun _ => ⟨fun _ => ?_, fun q => absurd hc q⟩, fun q => absurd q n32⟩, fun q => absurd q n31⟩, fun q => absurd q n30⟩, fun q => absurd q hn10⟩⟩
            unfold wp_X12_readsTape_173 wp_X12_readsTape_179
            rw [nI_add, nI_add]
            exact hR
          · rw [if_neg hc] at hzn
            refine hbad hzn (t_X12_readsTape_12 ⟨fun q => absurd q hlt, fun _ => ⟨i100, ?_⟩⟩)
            rw [h75]
            exact ⟨fun q => absurd q hn32, fun _ => ⟨fun _ => ⟨fun _ => ⟨fun _ => ⟨fun _ => ⟨fun q => absurd q hc, fun _ => rfl⟩, fun q => absurd q n32⟩, fun q => absurd q n31⟩, fun q => absurd q n30⟩, fun q => absurd q hn10⟩⟩
  obtain ⟨ρ, r1, r2⟩ := key len 0 (nI 0, 0, 0, 0, fun _ => 0) σ (by omega) ⟨by show 0 ≤ 3; omega, fun q => absurd q (by show ¬ 1 ≤ 0; omega), fun q => absurd q (by show ¬ 0 = 2; omega)⟩ (fun _ _ => rfl) (fun j hj hb _ => by
    have hb : bt (nI 0) j = true := hb
    rw [z_bn 0 j (by omega), Nat.zero_testBit] at hb
    cases hb)
  exact ⟨ρ, c_X12_readsTape ok r1, r2⟩
/-- read, up to the question whether the text has an error -/
theorem y_readJ (ok : sj_ok G) (hM : repM D (σ 57)) (v : okD D) {len : Nat} (hlen : len ≤ 100) (h26 : σ 56 26 = nI len) {f : Nat → Int32} (hf : ∀ i, i < len → σ 75 i = f i) : ∃ κ, (∀ R : sj_R, wp_X12_read_53 G R (if zPe D len (zPu D f len 0 (nI 0, 0, 0, 0, fun _ => 0)) = -1 then nI 1 else nI 0) κ → sj_C G 7 me_X12_read [.ref (sj_ad G 56)] σ R) ∧ (∀ b, b ≠ 56 → b ≠ 59 → b ≠ 60 → κ b = σ b) ∧
    (∀ k, k ≠ 0 → k ≠ 26 → k ≠ 27 → κ 56 k = σ 56 k) ∧ κ 56 0 = nI 0 ∧ κ 56 26 = nI 0 ∧ κ 56 27 = zPe D len (zPu D f len 0 (nI 0, 0, 0, 0, fun _ => 0)) ∧ (∀ w, w < 12 → κ 60 w = nI 0) ∧
    ∀ T, zPok D (zPu D f len 0 (nI 0, 0, 0, 0, fun _ => 0)) T → ∀ j, j < dN D → κ 59 j = nI (T j) ∧ T j < 20 ∧ ¬ (dDb D j = 1 ∧ T j % 4 = 3) := by
  let τ : Nat → sj_S := fun k => sj_up (sj_st σ 56 0 (nI 0)) 60 (fun i => if i < k then nI 0 else σ 60 i)
  have τn : ∀ k b, b ≠ 60 → b ≠ 56 → τ k b = σ b := fun k b h1 h2 => by show sj_up _ 60 _ b = _; rw [z_upn h1, z_stn h2]
  have τ56 : ∀ k, τ k 56 = (sj_st σ 56 0 (nI 0)) 56 := fun k => by show sj_up _ 60 _ 56 = _; rw [z_upn (by decide)]
  obtain ⟨ρ, hrt, hr1, hr2⟩ := y_readsTape (σ := τ 12) ok (by rw [τn 12 57 (by decide) (by decide)]; exact hM) v hlen (by rw [τ56, z_sti (by decide)]; exact h26) (f := f) (fun i hi => by rw [τn 12 75 (by decide) (by decide)]; exact hf i hi)
  refine ⟨sj_st (sj_st ρ 56 27 (zPe D len (zPu D f len 0 (nI 0, 0, 0, 0, fun _ => 0)))) 56 26 (nI 0), fun R hR => ?_, fun b h1 h2 h3 => ?_, fun k h1 h2 h3 => ?_, ?_, z_ste, ?_, fun w hw => ?_, fun T hT j hj => ?_⟩
  · have key : ∀ n k, k + n = 12 → sj_J G 7 me_X12_read R 7 [.ref (sj_ad G 56), .int (nI k)] (τ k) [] := by
      intro n
      induction n with
      | zero =>
        intro k hk
        obtain rfl : k = 12 := by omega
        exact t_X12_read_7 ⟨fun _ => ⟨_, _, hrt, hR⟩, fun q => absurd (nI_le (by omega) (by omega)) q⟩
      | succ n ih =>
        intro k hk
        have h1 := ih (k + 1) (by omega)
        refine t_X12_read_7 ⟨fun q => absurd q (nI_ge (by omega) (by omega)), fun _ => ⟨z_in (by omega) (by decide), ?_⟩⟩
        have e : sj_st (τ k) 60 k (nI 0) = τ (k + 1) := by
          show sj_st (sj_up _ 60 _) 60 k (nI 0) = sj_up _ 60 _
          rw [z_st_up]
          congr 1
          funext i
          show (if i = k then nI 0 else if i < k then nI 0 else σ 60 i) = if i < k + 1 then nI 0 else σ 60 i
          by_cases q : i = k
          · rw [if_pos q, if_pos (by omega)]
          · by_cases q2 : i < k
            · rw [if_neg q, if_pos q2, if_pos (by omega)]
            · rw [if_neg q, if_neg q2, if_neg (by omega)]
        rw [nI_clamp (by omega), e, nI_add]
        exact h1
    have e0 : τ 0 = sj_st σ 56 0 (nI 0) := by
      show sj_up (sj_st σ 56 0 (nI 0)) 60 (fun i => if i < 0 then nI 0 else σ 60 i) = _
      have : (fun i => if i < 0 then nI 0 else σ 60 i) = (sj_st σ 56 0 (nI 0)) 60 := by
        funext i
        rw [if_neg (by omega), z_stn (by decide)]
      rw [this, z_up_self]
    have h0 := key 12 0 (by decide)
    rw [e0] at h0
    exact c_X12_read ok h0
  · rw [z_stn h1, z_stn h1, hr1 b h2, τn 12 b h3 h1]
  · rw [z_sti h2, z_sti h3, hr1 56 (by decide), τ56, z_sti h1]
  · rw [z_sti (by decide), z_sti (by decide), hr1 56 (by decide), τ56, z_ste]
  · rw [z_sti (by decide), z_ste]
  · rw [z_stn (by decide), z_stn (by decide), hr1 60 (by decide)]
    show sj_up _ 60 _ 60 w = _
    rw [sj_up_s, if_pos hw]
  · rw [z_stn (by decide), z_stn (by decide)]
    exact hr2 T hT j hj
end ZTM
