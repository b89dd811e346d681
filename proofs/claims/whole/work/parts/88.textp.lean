/-! TEXTS 3: the pairs write and read -/
theorem z_narc : ∀ c, c < 128 → vp_nar .char (nI c) = nI c := by decide +kernel
def zTxt (T : Nat → Nat) (i : Nat) : Nat := if i % 4 = 0 then 48 + i / 4 else if i % 4 = 1 then zLet (T (i / 4) / 4) else if i % 4 = 2 then 48 + T (i / 4) % 4 else 59
theorem zLet_lt (d : Nat) : zLet d < 128 := by
  unfold zLet
  repeat' split
  all_goals omega
theorem zTxt_lt {T : Nat → Nat} {i : Nat} (h : i < 36) : zTxt T i < 128 := by
  unfold zTxt
  have := zLet_lt (T (i / 4) / 4)
  repeat' split
  all_goals omega
theorem zTxt_a (T : Nat → Nat) (l : Nat) : zTxt T (4 * l) = 48 + l ∧ zTxt T (4 * l + 1) = zLet (T l / 4) ∧ zTxt T (4 * l + 2) = 48 + T l % 4 ∧ zTxt T (4 * l + 3) = 59 := by
  unfold zTxt
  have e0 : 4 * l % 4 = 0 := by omega
  have e1 : (4 * l + 1) % 4 = 1 := by omega
  have e2 : (4 * l + 2) % 4 = 2 := by omega
  have e3 : (4 * l + 3) % 4 = 3 := by omega
  have d0 : 4 * l / 4 = l := by omega
  have d1 : (4 * l + 1) / 4 = l := by omega
  have d2 : (4 * l + 2) / 4 = l := by omega
  rw [e0, e1, e2, e3, d0, d1, d2]
  exact ⟨rfl, rfl, rfl, rfl⟩
theorem upd4 {g : Nat → Int32} {T : Nat → Nat} {l : Nat} (h : ∀ i, i < 4 * l → g i = nI (zTxt T i)) : ∀ i, i < 4 * (l + 1) → upd (upd (upd (upd g (4 * l) (nI (48 + l))) (4 * l + 1) (nI (zLet (T l / 4)))) (4 * l + 2) (nI (48 + T l % 4))) (4 * l + 3) (nI 59) i = nI (zTxt T i) := by
  intro i hi
  obtain ⟨a0, a1, a2, a3⟩ := zTxt_a T l
  unfold upd
  by_cases q3 : i = 4 * l + 3
  · rw [if_pos q3, q3, a3]
  · rw [if_neg q3]
    by_cases q2 : i = 4 * l + 2
    · rw [if_pos q2, q2, a2]
    · rw [if_neg q2]
      by_cases q1 : i = 4 * l + 1
      · rw [if_pos q1, q1, a1]
      · rw [if_neg q1]
        by_cases q0 : i = 4 * l
        · rw [if_pos q0, q0, a0]
        · rw [if_neg q0]
          exact h i (by omega)
section ZTP
variable {G : sj_G} {σ : sj_S} {D : zD} {T : Nat → Nat}
theorem z_print (ok : sj_ok G) (hC : repC D (σ 2)) (v : okD D) (hT : repT (dN D) T (σ 3)) : ∃ ρ, sj_C G 8 me_X9_print [.ref (sj_ad G 52), .ref (sj_ad G 1)] σ (.ok (nI (4 * dN D)), ρ) ∧ (∀ b, b ≠ 52 → b ≠ 54 → ρ b = σ b) ∧ (∀ k, k ≠ 4 → ρ 52 k = σ 52 k) ∧ ρ 52 4 = nI (4 * dN D) ∧ ∀ i, i < 4 * dN D → ρ 54 i = nI (zTxt T i) := by
  have h9 := v.1
  have key : ∀ n l (ρ : sj_S), l + n = dN D → (∀ b, b ≠ 52 → b ≠ 54 → ρ b = σ b) → (∀ k, k ≠ 4 → ρ 52 k = σ 52 k) → ρ 52 4 = nI (4 * l) → (∀ i, i < 4 * l → ρ 54 i = nI (zTxt T i)) →
      ∃ ρ', sj_J G 8 me_X9_print (.ok (nI (4 * dN D)), ρ') 7 [.ref (sj_ad G 52), .ref (sj_ad G 1), .int (nI l), .null] ρ [] ∧ (∀ b, b ≠ 52 → b ≠ 54 → ρ' b = σ b) ∧ (∀ k, k ≠ 4 → ρ' 52 k = σ 52 k) ∧ ρ' 52 4 = nI (4 * dN D) ∧ ∀ i, i < 4 * dN D → ρ' 54 i = nI (zTxt T i) := by
    intro n
    induction n with
    | zero =>
      intro l ρ hl f1 f2 f3 f4
      obtain rfl : l = dN D := by omega
      refine ⟨ρ, t_X9_print_7 ⟨_, _, z_lessonTotal ok, fun _ => by rw [f3], fun q => ?_⟩, f1, f2, f3, f4⟩
      rw [f1 2 (by decide) (by decide), hC.1] at q
      exact absurd (nI_le (by omega) (by omega)) q
    | succ n ih =>
      intro l ρ hl f1 f2 f3 f4
      obtain ⟨t1, t2⟩ := hT l (by omega)
      have hlen : 4 * l + 3 < 36 := by omega
      obtain ⟨ρ', g1, g2⟩ := ih (l + 1) (sj_st (sj_st (sj_st (sj_st (sj_st ρ 54 (4 * l) (nI (48 + l))) 54 (4 * l + 1) (nI (zLet (T l / 4)))) 54 (4 * l + 2) (nI (48 + T l % 4))) 54 (4 * l + 3) (nI 59)) 52 4 (nI (4 * (l + 1)))) (by omega)
        (fun b h1 h2 => by rw [z_stn h1, z_stn h2, z_stn h2, z_stn h2, z_stn h2]; exact f1 b h1 h2) (fun k hk => by rw [z_sti hk, z_stn (by decide), z_stn (by decide), z_stn (by decide), z_stn (by decide)]; exact f2 k hk) z_ste (fun i hi => by
          rw [z_stn (by decide), z_sta, z_sta, z_sta, z_sta]
          exact upd4 f4 i hi)
      refine ⟨ρ', t_X9_print_7 ⟨_, _, z_lessonTotal ok, fun q => ?_, fun _ => ⟨z_in (by omega) (by decide), ?_, ?_, ?_⟩⟩, g2⟩
      · rw [f1 2 (by decide) (by decide), hC.1] at q
        exact absurd q (nI_ge (by omega) (by omega))
      · rw [f3]
        exact z_in (by omega) (by decide)
      · rw [nI_add, z_chr _ (by omega)]
        exact z_narc _ (by omega)
      · have e3 : ρ 3 (nI l).toNatClampNeg = nI (T l) := by rw [nI_clamp (by omega), f1 3 (by decide) (by decide)]; exact t1
        have hle := z_letterOfDay (σ := sj_st ρ 54 (4 * l) (nI (48 + l))) ok (j := T l / 4) (by omega)
        have e52 : (sj_st ρ 54 (4 * l) (nI (48 + l))) 52 4 = nI (4 * l) := by rw [z_stn (by decide)]; exact f3
        have erm : nI (T l) - nI (T l) / nI 4 * nI 4 = nI (T l % 4) := pk_rem (by omega) (by decide) (by decide)
        have edv : nI (T l) / nI 4 = nI (T l / 4) := pk_div (by omega) (by decide) (by decide)
        rw [e3, erm, edv, f3, nI_clamp (by omega), nI_add 48 l, z_chr _ (by omega)]
        refine ⟨_, _, hle, ?_⟩
        rw [e52, nI_add 48 (T l % 4), z_chr _ (by omega), nI_add (4 * l) 1, nI_add (4 * l) 2, nI_add (4 * l) 3, nI_add (4 * l) 4, nI_add l 1, nI_clamp (by omega), nI_clamp (by omega), nI_clamp (by omega)]
        refine ⟨z_in (by omega) (by decide), z_narc _ (zLet_lt _), z_in (by omega) (by decide), z_narc _ (by omega), z_in (by omega) (by decide), z_narc _ (by decide), ?_⟩
        exact g1
  obtain ⟨ρ, r1, r2, r3, r4, r5⟩ := key (dN D) 0 (sj_st σ 52 4 (nI 0)) (by omega) (fun b h1 _ => z_stn h1) (fun k hk => z_sti hk) z_ste (fun i hi => absurd hi (by omega))
  exact ⟨ρ, c_X9_print ok r1, r2, r3, r4, r5⟩
theorem y_sign (ok : sj_ok G) {d : Nat} (hd : d < 5) : sj_C G 2 me_X12_sign [.int (nI d)] σ (.ok (nI (zLet d)), σ) := by
  refine c_X12_sign ok ?_
  unfold wp_X12_sign_0 wp_X12_sign_41
  rcases (by omega : d = 0 ∨ d = 1 ∨ d = 2 ∨ d = 3 ∨ d = 4) with e | e | e | e | e <;> subst e <;> rfl
theorem y_writeL (ok : sj_ok G) (hM : repM D (σ 57)) (v : okD D) (hT : ∀ l, l < dN D → σ 57 (116 + l) = nI (T l) ∧ T l < 20) : ∃ ρ, sj_J G 4 me_X12_write (.ok (nI (4 * dN D)), ρ) 17 [.ref (sj_ad G 56), .int (nI 0)] σ [] ∧ (∀ b, b ≠ 56 → b ≠ 76 → ρ b = σ b) ∧ (∀ k, k ≠ 29 → ρ 56 k = σ 56 k) ∧ ρ 56 29 = nI (4 * dN D) ∧ ∀ i, i < 4 * dN D → ρ 76 i = nI (zTxt T i) := by
  have h9 := v.1
  have key : ∀ n l (ρ : sj_S), l + n = dN D → (∀ b, b ≠ 76 → ρ b = σ b) → (∀ i, i < 4 * l → ρ 76 i = nI (zTxt T i)) →
      ∃ ρ', sj_J G 4 me_X12_write (.ok (nI (4 * dN D)), ρ') 17 [.ref (sj_ad G 56), .int (nI l)] ρ [] ∧ (∀ b, b ≠ 56 → b ≠ 76 → ρ' b = σ b) ∧ (∀ k, k ≠ 29 → ρ' 56 k = σ 56 k) ∧ ρ' 56 29 = nI (4 * dN D) ∧ ∀ i, i < 4 * dN D → ρ' 76 i = nI (zTxt T i) := by
    intro n
    induction n with
    | zero =>
      intro l ρ hl f1 f4
      obtain rfl : l = dN D := by omega
      have hN : ρ 57 125 = nI (dN D) := by rw [f1 57 (by decide)]; exact hM.1
      refine ⟨sj_st ρ 56 29 (nI (4 * dN D)), t_X12_write_17 ⟨_, _, y_many ok, fun _ => ⟨_, _, y_many ok, by rw [hN, pk_mul]⟩, fun q => ?_⟩, fun b h1 h2 => by rw [z_stn h1]; exact f1 b h2, fun k hk => by rw [z_sti hk]; rw [f1 56 (by decide)], z_ste, fun i hi => by rw [z_stn (by decide)]; exact f4 i hi⟩
      rw [hN] at q
      exact absurd (nI_le (by omega) (by omega)) q
    | succ n ih =>
      intro l ρ hl f1 f4
      obtain ⟨t1, t2⟩ := hT l (by omega)
      have hN : ρ 57 125 = nI (dN D) := by rw [f1 57 (by decide)]; exact hM.1
      obtain ⟨ρ', g1, g2⟩ := ih (l + 1) (sj_st (sj_st (sj_st (sj_st ρ 76 (4 * l) (nI (48 + l))) 76 (4 * l + 1) (nI (zLet (T l / 4)))) 76 (4 * l + 2) (nI (48 + T l % 4))) 76 (4 * l + 3) (nI 59)) (by omega)
        (fun b h1 => by rw [z_stn h1, z_stn h1, z_stn h1, z_stn h1]; exact f1 b h1) (fun i hi => by
          rw [z_sta, z_sta, z_sta, z_sta]
          exact upd4 f4 i hi)
      have e116 : (nI 116 + nI l).toNatClampNeg = 116 + l := by rw [nI_add, nI_clamp (by omega)]
      have i116 : vp_in (nI 116 + nI l) 128 := by rw [nI_add]; exact z_in (by omega) (by decide)
      have et : ρ 57 (116 + l) = nI (T l) := by rw [f1 57 (by decide)]; exact t1
      refine ⟨ρ', t_X12_write_17 ⟨_, _, y_many ok, fun q => ?_, fun _ => ?_⟩, g2⟩
      · rw [hN] at q
        exact absurd q (nI_ge (by omega) (by omega))
      · have hsg := y_sign (σ := sj_st ρ 76 (4 * l) (nI (48 + l))) ok (d := T l / 4) (by omega)
        have et2 : (sj_st ρ 76 (4 * l) (nI (48 + l))) 57 (116 + l) = nI (T l) := by rw [z_stn (by decide)]; exact et
        have erm : nI (T l) - nI (T l) / nI 4 * nI 4 = nI (T l % 4) := pk_rem (by omega) (by decide) (by decide)
        have edv : nI (T l) / nI 4 = nI (T l / 4) := pk_div (by omega) (by decide) (by decide)
        rw [pk_mul, e116, et, edv, nI_clamp (by omega), nI_add 48 l]
        refine ⟨z_in (by omega) (by decide), i116, _, _, hsg, ?_⟩
        rw [et2, erm, nI_add 48 (T l % 4), nI_add (4 * l) 1, nI_add (4 * l) 2, nI_add (4 * l) 3, nI_add l 1, nI_clamp (by omega), nI_clamp (by omega), nI_clamp (by omega)]
        exact ⟨z_in (by omega) (by decide), i116, z_in (by omega) (by decide), z_in (by omega) (by decide), g1⟩
  exact key (dN D) 0 σ (by omega) (fun _ _ => rfl) (fun i hi => absurd hi (by omega))
theorem p_write (ok : sj_ok G) (h : zA σ) (hTp : zTape σ) : zPair G (zIT σ) 10 me_X11_write 4 me_X12_write [] (zcd 2 0 0) σ := by
  obtain ⟨D, T, v, hC, hM, hT⟩ := h.1
  have h9 := v.1
  have hM0 : repM D ((sj_st σ 56 0 (nI 0)) 57) := by rw [z_stn (by decide)]; exact hM
  by_cases hq : dT D = 1
  · obtain ⟨hT, -⟩ := hT hq
    obtain ⟨τ, c1, c2, c3, c4, c5⟩ := z_print (σ := σ) ok hC v (T := T) (fun l hl => ⟨(hT l hl).1, (hT l hl).2.2⟩)
    have e57 : (sj_st τ 56 0 (nI 0)) 57 = σ 57 := by rw [z_stn (by decide), c2 57 (by decide) (by decide)]
    obtain ⟨ρ, m1, m2, m3, m4, m5⟩ := y_writeL (σ := sj_st τ 56 0 (nI 0)) ok (by rw [e57]; exact hM) v (T := T) (fun l hl => by rw [e57]; exact (hT l hl).2)
    have hc : sj_C G 10 me_X11_write [.ref (sj_ad G 0)] σ (.ok (nI (4 * dN D)), τ) := c_X11_write ok (Or.inl ⟨_, z_requireTable0 ok (hC.2.2.1.trans (by rw [hq])), _, _, c1, rfl⟩)
    have hm : sj_C G 4 me_X12_write [.ref (sj_ad G 56)] τ (.ok (nI (4 * dN D)), ρ) := c_X12_write ok ⟨_, _, y_noTable0 ok zT00 (by rw [e57, hM.2.2.1, hq]), fun _ => m1, fun q => absurd nI_0 q⟩
    have hρ : ∀ b, b ≠ 52 → b ≠ 54 → b ≠ 56 → b ≠ 76 → ρ b = σ b := fun b h1 h2 h3 h4 => by rw [m2 b h3 h4, z_stn h3, c2 b h1 h2]
    have r56 : ∀ k, k ≠ 0 → k ≠ 29 → ρ 56 k = σ 56 k := fun k h1 h2 => by rw [m3 k h2, z_sti h1, c2 56 (by decide) (by decide)]
    have r52 : ρ 52 = τ 52 := by rw [m2 52 (by decide) (by decide), z_stn (by decide)]
    have r54 : ρ 54 = τ 54 := by rw [m2 54 (by decide) (by decide), z_stn (by decide)]
    obtain ⟨⟨n, a0, a1, a2, a3⟩, b1, w, hw, d1, d2, d3⟩ := hTp
    refine ⟨_, _, _, _, hc, hm, zSame_ok (by rw [m3 0 (by decide), z_ste]) rfl, zA_of h (fun b hb => hρ b (zne (by decide) hb) (zne (by decide) hb) (zne (by decide) hb) (zne (by decide) hb)) (r56 3 (by decide) (by decide)) (r56 7 (by decide) (by decide)) (by rw [hρ 30 (by decide) (by decide) (by decide) (by decide)]),
      ⟨⟨n, a0, by rw [r52, c3 2 (by decide), a1], by rw [r56 26 (by decide) (by decide), a2], by rw [hρ 55 (by decide) (by decide) (by decide) (by decide), hρ 75 (by decide) (by decide) (by decide) (by decide)]; exact a3⟩, by rw [r52, c3 3 (by decide), r56 27 (by decide) (by decide), b1], 4 * dN D, by omega, by rw [r52, c4], m4, fun i hi => ⟨zTxt T i, zTxt_lt (by omega), by rw [r54]; exact c5 i hi, m5 i hi⟩⟩,
      fun b hb => hρ b (zne (by decide) hb) (zne (by decide) hb) (zne (by decide) hb) (zne (by decide) hb), fun k hk => r56 k (zne (by decide) hk) (zne (by decide) hk), by rw [hρ 30 (by decide) (by decide) (by decide) (by decide)]⟩
  · have hq := zT_of v hq
    have hm : sj_C G 4 me_X12_write [.ref (sj_ad G 56)] σ (.ok (nI 0), sj_st (sj_st σ 56 0 (nI 0)) 56 0 (nI 1)) :=
      c_X12_write ok ⟨_, _, y_noTable1 ok zT00 (hM0.2.2.1.trans (by rw [hq])) (by decide), fun q => absurd q z_10, fun _ => rfl⟩
    exact ⟨_, _, _, _, c_X11_write ok (Or.inr ⟨_, _, z_requireTable1 ok (hC.2.2.1.trans (by rw [hq])), rfl⟩), hm, zSame_er (by decide) z_ste, zIT_th2 h hTp⟩
theorem z_sl53 : zSl 53 := ⟨rfl, by decide, rfl⟩
theorem p_read (ok : sj_ok G) (h : zA σ) (hTp : zTape σ) : zPair G (zIT σ) 11 me_X11_read 7 me_X12_read [] (zcd 1 2 0) σ := by
  obtain ⟨D, T0, v, hC, hM, hT⟩ := h.1
  have h9 := v.1
  obtain ⟨⟨n, a0, a1, a2, a3⟩, b1, w, hw, d1, d2, d3⟩ := hTp
  obtain ⟨ρ1, hpa, p1, p2, p3, p4, p5⟩ := z_parse (σ := σ) ok hC v a0 a1
  generalize er : zPu D (σ 55) n 0 (nI 0, 0, 0, 0, fun _ => 0) = r at hpa p4 p5
  have hem : sj_C G 2 me_X9_empty [.ref (sj_ad G 52)] ρ1 (.ok (nI n), sj_st ρ1 52 2 (nI 0)) := by
    refine c_X9_empty ok ?_
    unfold wp_X9_empty_0
    rw [p2]
  generalize eρ2 : sj_st ρ1 52 2 (nI 0) = ρ2 at hem
  have q1 : ∀ b, b ≠ 52 → b ≠ 53 → ρ2 b = σ b := fun b h1 h2 => by rw [← eρ2, z_stn h1]; exact p1 b h1 h2
  have q2 : ρ2 52 2 = nI 0 := by rw [← eρ2]; exact z_ste
  have q4 : ρ2 52 4 = σ 52 4 := by rw [← eρ2, z_sti (by decide)]; exact p3
  have q3 : ρ2 52 3 = zPe D n r := by rw [← eρ2, z_sti (by decide)]; exact p4
  have q53 : ρ2 53 = ρ1 53 := by rw [← eρ2, z_stn (by decide)]
  -- what the reference leaves, and the tape
  have tape : ∀ ω : sj_S, ω 52 = ρ2 52 → ω 54 = σ 54 → ω 76 = σ 76 → ω 56 26 = nI 0 → ω 56 27 = zPe D n r → ω 56 29 = σ 56 29 → zTape ω := fun ω e1 e2 e3 e4 e5 e6 =>
    ⟨⟨0, by omega, by rw [e1]; exact q2, e4, fun i hi => absurd hi (by omega)⟩, by rw [e1, q3, e5], w, hw, by rw [e1, q4]; exact d1, by rw [e6]; exact d2, by rw [e2, e3]; exact d3⟩
  -- refused calls
  have refused : ∀ (χ κ : sj_S) (c : Int32), (∀ b, b ≠ 52 → b ≠ 53 → (b < 6 ∨ 16 < b) → χ b = σ b) → χ 52 = ρ2 52 → (∀ b, b ≠ 56 → b ≠ 59 → b ≠ 60 → κ b = χ b) → (∀ k, k ≠ 0 → k ≠ 26 → k ≠ 27 → κ 56 k = χ 56 k) → κ 56 26 = nI 0 → κ 56 27 = zPe D n r → zIT σ (sj_st κ 56 0 c) := by
    intro χ κ c h1 h2 k1 k2 k3 k4
    have kb : ∀ b, b ≠ 52 → b ≠ 53 → b ≠ 56 → b ≠ 59 → b ≠ 60 → (b < 6 ∨ 16 < b) → sj_st κ 56 0 c b = σ b := fun b n1 n2 n3 n4 n5 n6 => by rw [z_stn n3, k1 b n3 n4 n5, h1 b n1 n2 n6]
    have kk : ∀ k, k ≠ 0 → k ≠ 26 → k ≠ 27 → sj_st κ 56 0 c 56 k = σ 56 k := fun k n1 n2 n3 => by rw [z_sti n1, k2 k n1 n2 n3, h1 56 (by decide) (by decide) (by decide)]
    refine ⟨zA_of h (fun b hb => kb b (zne (by decide) hb) (zne (by decide) hb) (zne (by decide) hb) (zne (by decide) hb) (zne (by decide) hb) ?_) (kk 3 (by decide) (by decide) (by decide)) (kk 7 (by decide) (by decide) (by decide)) (by rw [kb 30 (by decide) (by decide) (by decide) (by decide) (by decide) (by decide)]),
      tape _ (by rw [z_stn (by decide), k1 52 (by decide) (by decide) (by decide), h2]) (kb 54 (by decide) (by decide) (by decide) (by decide) (by decide) (by decide)) (kb 76 (by decide) (by decide) (by decide) (by decide) (by decide) (by decide)) (by rw [z_sti (by decide), k3]) (by rw [z_sti (by decide), k4]) (kk 29 (by decide) (by decide) (by decide)),
      fun b hb => kb b (zne (by decide) hb) (zne (by decide) hb) (zne (by decide) hb) (zne (by decide) hb) (zne (by decide) hb) ?_, fun k hk => kk k (zne (by decide) hk) (zne (by decide) hk) (zne (by decide) hk), by rw [kb 30 (by decide) (by decide) (by decide) (by decide) (by decide) (by decide)]⟩
    · revert b; decide
    · revert b; decide
  by_cases hz : zPe D n r = -1
  · rw [if_pos hz] at hpa
    obtain ⟨T, hPT⟩ := zPe_ok (by omega) (fun e he => by rw [← er] at he; have := zPu_err n 0 _ e he; omega) hz
    have hCρ : repC D (ρ2 2) := by rw [q1 2 (by decide) (by decide)]; exact hC
    obtain ⟨τ, hh, htk, hru, hτ⟩ := z_hard (σ := ρ2) ok hCρ v
    have hR : repT (dN D) T (τ 53) := fun l hl => by
      rw [hτ 53 (by omega), q53]
      exact ⟨(p5 T hPT l hl).1, (p5 T hPT l hl).2.1⟩
    have hri := z_isRight (σ := τ) ok v (Or.inl rfl) z_sl53 hru hR
    have τb : ∀ b, b ≠ 52 → b ≠ 53 → (b < 6 ∨ 16 < b) → τ b = σ b := fun b n1 n2 n3 => by rw [hτ b n3, q1 b n1 n2]
    have τ52 : τ 52 = ρ2 52 := hτ 52 (by omega)
    cases hg : zRb D (zHd D) T
    · -- not right
      rw [hg, if_neg (by decide)] at hri
      obtain ⟨κ, m1, m2, m3, m4, m5, m6, m7, m8⟩ := y_readJ (σ := τ) ok (by rw [τb 57 (by decide) (by decide) (by decide)]; exact hM) v a0 (by rw [τb 56 (by decide) (by decide) (by decide)]; exact a2) (f := σ 55) (fun i hi => by rw [τb 75 (by decide) (by decide) (by decide)]; exact (a3 i hi).symm)
      rw [er] at m1 m6 m8
      have hi2 := y_isRight (σ := κ) (T := T) (U := fun _ => false) ok (by rw [m2 57 (by decide) (by decide) (by decide), τb 57 (by decide) (by decide) (by decide)]; exact hM) v (fun w hw => by have h12 := v.2.1; rw [m7 w (by omega)]; rfl) (fun l hl => ⟨(m8 T hPT l hl).1, (m8 T hPT l hl).2.1⟩)
      rw [zRb_H (zHu_0 (fun _ _ => rfl)), hg, if_neg (by decide)] at hi2
      have hc : sj_C G 11 me_X11_read [.ref (sj_ad G 0)] σ (.error 2, τ) := c_X11_read ok ⟨_, _, hpa, _, _, hem, fun _ => ⟨_, _, hh, _, htk, _, _, hri, fun q => absurd z_00 q, fun _ => rfl⟩, fun q => absurd q z_10⟩
      have hm : sj_C G 7 me_X12_read [.ref (sj_ad G 56)] τ (.ok (nI 0), sj_st κ 56 0 (nI 2)) := by
        refine m1 _ ?_
        rw [if_pos hz]
        exact ⟨_, _, y_fails1 ok (m4.trans nI_0), fun q => absurd nI_0 q, fun _ => ⟨_, _, hi2, _, _, y_fails0 ok (m4.trans nI_0) (by decide), fun q => absurd q z_10, fun _ => rfl⟩⟩
      exact ⟨_, _, _, _, hc, hm, zSame_er (by decide) z_ste, refused τ κ _ τb τ52 m2 m3 m5 m6⟩
    · -- right
      rw [hg, if_pos rfl] at hri
      have hAτ : zA τ := zA_of h (fun b hb => τb b (zne (by decide) hb) (zne (by decide) hb) (by revert b; decide)) (by rw [τb 56 (by decide) (by decide) (by decide)]) (by rw [τb 56 (by decide) (by decide) (by decide)]) (by rw [τb 30 (by decide) (by decide) (by decide)])
      obtain ⟨B, hB, eB, eB30, hch⟩ := z_chg4 ok hAτ
      have hpt := z_putTable (σ := B) ok z_sl53
      generalize eχ : sj_up (sj_st B 2 2 (nI 1)) 3 (va_cpy (sj_st B 2 2 (nI 1) 53) (sj_st B 2 2 (nI 1) 3) 0 0 9) = χ at hpt
      have χn : ∀ b, b ≠ 2 → b ≠ 3 → χ b = B b := fun b h1 h2 => by rw [← eχ, z_upn h2, z_stn h1]
      have χ2 : χ 2 = upd (σ 2) 2 (nI 1) := by rw [← eχ, z_upn (by decide), z_sta, eB 2 (by decide) (by decide) (by decide), τb 2 (by decide) (by decide) (by decide)]
      have χ3 : ∀ o, o < dN D → χ 3 o = nI (T o) := fun o ho => by
        rw [← eχ, sj_up_s]
        unfold va_cpy
        rw [if_pos (by omega), z_stn (by decide), eB 53 (by decide) (by decide) (by decide), show 0 + (o - 0) = o by omega]
        exact (hR o ho).1
      have χb : ∀ b, b ≠ 2 → b ≠ 3 → b ≠ 4 → b ≠ 5 → b ≠ 30 → b ≠ 52 → b ≠ 53 → (b < 6 ∨ 16 < b) → χ b = σ b := fun b n1 n2 n3 n4 n5 n6 n7 n8 => by rw [χn b n1 n2, eB b n3 n4 n5, τb b n6 n7 n8]
      have χ57 : χ 57 = σ 57 := χb 57 (by decide) (by decide) (by decide) (by decide) (by decide) (by decide) (by decide) (by decide)
      have χ56 : χ 56 = σ 56 := χb 56 (by decide) (by decide) (by decide) (by decide) (by decide) (by decide) (by decide) (by decide)
      have hR3 : repT (dN D) T (χ 3) := fun o ho => ⟨χ3 o ho, (hR o ho).2⟩
      have hCχ : repC (zUp D 2 0 1) (χ 2) := by rw [χ2]; exact repC_T v hC
      have hcost := z_costOf (σ := χ) (D := zUp D 2 0 1) ok hCχ (okD_T v) z_sl3 hR3
      rw [zCost_2 zD2_up] at hcost
      have hc : sj_C G 11 me_X11_read [.ref (sj_ad G 0)] σ (.ok (nI (zCost D T)), χ) := c_X11_read ok ⟨_, _, hpa, _, _, hem, fun _ => ⟨_, _, hh, _, htk, _, _, hri, fun _ => ⟨_, hB, _, hpt, _, _, hcost, rfl⟩, fun q => absurd q z_10⟩, fun q => absurd q z_10⟩
      obtain ⟨κ, m1, m2, m3, m4, m5, m6, m7, m8⟩ := y_readJ (σ := χ) ok (by rw [χ57]; exact hM) v a0 (by rw [χ56]; exact a2) (f := σ 55) (fun i hi => by rw [χb 75 (by decide) (by decide) (by decide) (by decide) (by decide) (by decide) (by decide) (by decide)]; exact (a3 i hi).symm)
      rw [er] at m1 m6 m8
      have κ57 : κ 57 = σ 57 := by rw [m2 57 (by decide) (by decide) (by decide), χ57]
      have hi2 := y_isRight (σ := κ) (T := T) (U := fun _ => false) ok (by rw [κ57]; exact hM) v (fun w hw => by have h12 := v.2.1; rw [m7 w (by omega)]; rfl) (fun l hl => ⟨(m8 T hPT l hl).1, (m8 T hPT l hl).2.1⟩)
      rw [zRb_H (zHu_0 (fun _ _ => rfl)), hg, if_pos rfl] at hi2
      obtain ⟨σ', hkp, k1, k4, hfin⟩ := hch κ (fun b hb => by rw [m2 b (zne (by decide) hb) (zne (by decide) hb) (zne (by decide) hb), χn b (zne (by decide) hb) (zne (by decide) hb)]) (by rw [m3 3 (by decide) (by decide) (by decide), χn 56 (by decide) (by decide)])
      have s57 : σ' 57 = σ 57 := by rw [k1 57 (by decide) (by decide), κ57]
      have hpu := y_puts ok hkp h9 (by rw [s57]; exact hM.1)
      generalize eω : sj_up σ' 57 (zPt (σ' 57) (σ' 59) (dN D)) = ω at hpu
      have ω57 : ω 57 = zPt (σ 57) (σ' 59) (dN D) := by rw [← eω, sj_up_s, s57]
      have ωn : ∀ b, b ≠ 57 → ω b = σ' b := fun b hb => by rw [← eω, z_upn hb]
      have ω59 : ∀ o, o < dN D → ω 59 o = nI (T o) ∧ T o < 20 := fun o ho => by
        rw [ωn 59 (by decide), k1 59 (by decide) (by decide)]
        exact ⟨(m8 T hPT o ho).1, (m8 T hPT o ho).2.1⟩
      have hco := y_costs (σ := ω) (D := zUp D 2 0 1) (T := T) ok (by rw [ω57]; exact zPt_rep v hM) (okD_T v) ω59
      rw [zCost_2 zD2_up] at hco
      have hm : sj_C G 7 me_X12_read [.ref (sj_ad G 56)] χ (.ok (nI (zCost D T)), ω) := by
        refine m1 _ ?_
        rw [if_pos hz]
        exact ⟨_, _, y_fails1 ok (m4.trans nI_0), fun q => absurd nI_0 q, fun _ => ⟨_, _, hi2, _, _, y_fails1 ok (m4.trans nI_0), fun _ => ⟨_, hpu, _, _, hco, rfl⟩, fun q => absurd nI_0 q⟩⟩
      have ω56 : ∀ k, k ≠ 3 → k ≠ 7 → ω 56 k = κ 56 k := fun k n1 n2 => by rw [ωn 56 (by decide), k4 k n1 n2]
      have ωκ : ∀ b, b ≠ 56 → b ≠ 57 → b ≠ 58 → ω b = κ b := fun b n1 n2 n3 => by rw [ωn b n2, k1 b n1 n3]
      have ωσ : ∀ b, b ≠ 56 → b ≠ 57 → b ≠ 58 → b ≠ 59 → b ≠ 60 → b ≠ 2 → b ≠ 3 → b ≠ 4 → b ≠ 5 → b ≠ 30 → b ≠ 52 → b ≠ 53 → (b < 6 ∨ 16 < b) → ω b = σ b := fun b x1 x2 x3 x4 x5 n1 n2 n3 n4 n5 n6 n7 n8 => by rw [ωκ b x1 x2 x3, m2 b x1 x4 x5, χb b n1 n2 n3 n4 n5 n6 n7 n8]
      have ωk : ∀ k, k ≠ 0 → k ≠ 3 → k ≠ 7 → k ≠ 26 → k ≠ 27 → ω 56 k = σ 56 k := fun k n0 n1 n2 n3 n4 => by rw [ω56 k n1 n2, m3 k n0 n3 n4, χ56]
      have hS : zSR (ω 2) (ω 3) (ω 57) := by
        have ω2 : ω 2 = upd (σ 2) 2 (nI 1) := by rw [ωκ 2 (by decide) (by decide) (by decide), m2 2 (by decide) (by decide) (by decide), χ2]
        have ω3 : ω 3 = χ 3 := by rw [ωκ 3 (by decide) (by decide) (by decide), m2 3 (by decide) (by decide) (by decide)]
        exact zSR_new (T := T) v hC hM ω2 ω57 (fun o ho => by rw [← ωn 59 (by decide)]; exact (ω59 o ho).1) (fun o ho => by rw [ω3]; exact χ3 o ho) (fun o ho => (ω59 o ho).2) (zRb_iff.mp hg)
      refine ⟨_, _, _, _, hc, hm, zSame_ok (by rw [ω56 0 (by decide) (by decide), m4]) rfl, hfin ω (fun b hb => ωn b (zne (by decide) hb)) (by rw [ωn 56 (by decide)]) (by rw [ωn 56 (by decide)]) hS, tape ω ?_ ?_ ?_ ?_ ?_ ?_, fun b hb => ?_, fun k hk => ωk k (zne (by decide) hk) (zne (by decide) hk) (zne (by decide) hk) (zne (by decide) hk) (zne (by decide) hk), ?_⟩
      · rw [ωκ 52 (by decide) (by decide) (by decide), m2 52 (by decide) (by decide) (by decide), χn 52 (by decide) (by decide), eB 52 (by decide) (by decide) (by decide), τ52]
      · exact ωσ 54 (by decide) (by decide) (by decide) (by decide) (by decide) (by decide) (by decide) (by decide) (by decide) (by decide) (by decide) (by decide) (by decide)
      · exact ωσ 76 (by decide) (by decide) (by decide) (by decide) (by decide) (by decide) (by decide) (by decide) (by decide) (by decide) (by decide) (by decide) (by decide)
      · rw [ω56 26 (by decide) (by decide), m5]
      · rw [ω56 27 (by decide) (by decide), m6]
      · exact ωk 29 (by decide) (by decide) (by decide) (by decide) (by decide)
      · exact ωσ b (zne (by decide) hb) (zne (by decide) hb) (zne (by decide) hb) (zne (by decide) hb) (zne (by decide) hb) (zne (by decide) hb) (zne (by decide) hb) (zne (by decide) hb) (zne (by decide) hb) (zne (by decide) hb) (zne (by decide) hb) (zne (by decide) hb) (by revert b; decide)
      · rw [ωκ 30 (by decide) (by decide) (by decide), m2 30 (by decide) (by decide) (by decide), χn 30 (by decide) (by decide), eB30 7 (by decide), τb 30 (by decide) (by decide) (by decide)]
  · rw [if_neg hz] at hpa
    have hc : sj_C G 11 me_X11_read [.ref (sj_ad G 0)] σ (.error 1, ρ2) := c_X11_read ok ⟨_, _, hpa, _, _, hem, fun q => absurd z_00 q, fun _ => rfl⟩
    obtain ⟨κ, m1, m2, m3, m4, m5, m6, m7, m8⟩ := y_readJ (σ := ρ2) ok (by rw [q1 57 (by decide) (by decide)]; exact hM) v a0 (by rw [q1 56 (by decide) (by decide)]; exact a2) (f := σ 55) (fun i hi => by rw [q1 75 (by decide) (by decide)]; exact (a3 i hi).symm)
    rw [er] at m1 m6
    have hm : sj_C G 7 me_X12_read [.ref (sj_ad G 56)] ρ2 (.ok (nI 0), sj_st κ 56 0 (nI 1)) := by
      refine m1 _ ?_
      rw [if_neg hz]
      exact ⟨_, _, y_fails0 ok (m4.trans nI_0) (by decide), fun _ => rfl, fun q => absurd q z_10⟩
    exact ⟨_, _, _, _, hc, hm, zSame_er (by decide) z_ste, refused ρ2 κ _ (fun b n1 n2 _ => q1 b n1 n2) rfl m2 m3 m5 m6⟩
end ZTP
