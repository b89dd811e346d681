/-! the pair of improve -/
section ZIP
variable {G : sj_G} {σ : sj_S} {D : zD} {T : Nat → Nat}
theorem z_sl37 : zSl 37 := ⟨rfl, by decide, rfl⟩
theorem p_improve (ok : sj_ok G) (h : zA σ) : zPair G (zI2 σ) 10 me_X11_improve 7 me_X12_improve [] (zcd 2 0 0) σ := by
  obtain ⟨D, T, v, hC, hM, hT⟩ := h.1
  have h9 := v.1
  have vin : ∀ x, x < 128 → vp_in (nI x) 128 := fun x hx => z_in hx (by decide)
  have hM0 : repM D (sj_st σ 56 0 (nI 0) 57) := by rw [z_stn (by decide)]; exact hM
  by_cases hq : dT D = 1
  · obtain ⟨hT, hrt⟩ := hT hq
    rw [zRi_iff v] at hrt
    have cT := zCost_lt (T := T) v
    obtain ⟨τ, hh, htk, hru, hτ⟩ := z_hard (σ := σ) ok hC v
    have τ2 : τ 2 = σ 2 := hτ 2 (by omega)
    have hR : repT (dN D) T (τ 3) := fun o ho => by rw [hτ 3 (by omega)]; exact ⟨(hT o ho).1, (hT o ho).2.2⟩
    obtain ⟨ρ, hsb, hI⟩ := z_seekBest (σ := τ) ok (by rw [τ2]; exact hC) v hru hR hrt
    have hv := zW2_v (D := D) (T := T) (dN D) (Nat.le_refl _)
    have hle := zSv_le hv
    have ρn : ∀ k, (k < 6 ∨ 16 < k) → k ≠ 36 → k ≠ 37 → k ≠ 38 → ρ k = σ k := fun k h1 h2 h3 h4 => by rw [hI.1 k h2 h3 h4, hτ k h1]
    have ρK : ∀ k, k ∈ zLK → ρ k = σ k := fun k hk => by
      have : ∀ k, k ∈ zLK → (k < 6 ∨ 16 < k) ∧ k ≠ 36 ∧ k ≠ 37 ∧ k ≠ 38 := by decide
      obtain ⟨h1, h2, h3, h4⟩ := this k hk
      exact ρn k h1 h2 h3 h4
    have hAρ := zA_tr3 ρK h
    generalize est : zW2 D T (dN D) = st at *
    -- the reference from any state with the school of before
    have model : ∀ χ : sj_S, χ 57 = σ 57 → ∀ R : sj_R, (∀ κ one other to, (∀ b, b ≠ 59 → b ≠ 60 → κ b = (sj_st χ 56 0 (nI 0)) b) → (∀ i, i < dN D → κ 59 i = nI (T i)) → zMX st one other to → sj_J G 7 me_X12_improve R 154 [.ref (sj_ad G 56), .int (nI (zCost D T)), .int (nI st.1), .int one, .int other, .int to, .int (nI (dN D)), .null, .null] κ []) → sj_C G 7 me_X12_improve [.ref (sj_ad G 56)] χ R := by
      intro χ χ57 R hend
      have hM1 : repM D (sj_st χ 56 0 (nI 0) 57) := by rw [z_stn (by decide), χ57]; exact hM
      obtain ⟨κ, hlk, f1, f2, f3⟩ := y_looksAtTable (σ := sj_st χ 56 0 (nI 0)) ok h9 hM1.1
      have κ57 : κ 57 = σ 57 := by rw [f1 57 (by decide) (by decide), z_stn (by decide), χ57]
      have hat : ∀ o, o < dN D → κ 59 o = nI (T o) := fun o ho => by
        rw [f2 o ho, z_stn (by decide), χ57]
        exact (hT o ho).2.1
      have hU : zUo D (fun _ => false) (κ 60) := fun w hw => by
        have h12 := v.2.1
        rw [f3 w (by omega)]; rfl
      have hMκ : repM D (κ 57) := by rw [κ57]; exact hM
      have hco := y_costs (σ := κ) (T := T) ok hMκ v (fun o ho => ⟨hat o ho, (hT o ho).2.2⟩)
      refine c_X12_improve ok ⟨_, _, y_noTable0 ok zT00 (hM1.2.2.1.trans (by rw [hq])), fun _ => ⟨_, hlk, _, _, hco, ?_⟩, fun q => absurd nI_0 q⟩
      refine y_improveJ ok hMκ v (fun i hi => ⟨by rw [κ57]; exact (hT i hi).2.1, hat i hi, (hT i hi).2.2⟩) hU (fun one other to hx => ?_)
      rw [est] at hx ⊢
      exact hend κ one other to f1 hat hx
    rcases hv with ⟨k0, c0⟩ | ⟨hk, ha, hb1, hb2, hcost, hlt, hgood⟩
    · -- no move is better
      have hc : sj_C G 10 me_X11_improve [.ref (sj_ad G 0)] σ (.ok (nI 0), ρ) := by
        refine c_X11_improve ok (Or.inl ⟨_, z_requireTable0 ok (hC.2.2.1.trans (by rw [hq])), _, _, hh, _, htk, _, _, hsb, fun _ => ?_, fun q => ?_⟩)
        · unfold wp_X11_improve_60
          rw [c0, Nat.sub_self]
        · rw [c0, Nat.sub_self] at q
          exact absurd (by decide) q
      -- the reference's last state: as y_looksAtTable leaves it
      have hM1 : repM D (sj_st ρ 56 0 (nI 0) 57) := by rw [z_stn (by decide), ρn 57 (by omega) (by decide) (by decide) (by decide)]; exact hM
      have hmx : ∃ κ, sj_C G 7 me_X12_improve [.ref (sj_ad G 56)] ρ (.ok (nI 0), κ) ∧ ∀ b, b ≠ 59 → b ≠ 60 → κ b = (sj_st ρ 56 0 (nI 0)) b := by
        obtain ⟨κ, hlk, f1, f2, f3⟩ := y_looksAtTable (σ := sj_st ρ 56 0 (nI 0)) ok h9 hM1.1
        have ρ57 : ρ 57 = σ 57 := ρn 57 (by omega) (by decide) (by decide) (by decide)
        have κ57 : κ 57 = σ 57 := by rw [f1 57 (by decide) (by decide), z_stn (by decide), ρ57]
        have hat : ∀ o, o < dN D → κ 59 o = nI (T o) := fun o ho => by
          rw [f2 o ho, z_stn (by decide), ρ57]
          exact (hT o ho).2.1
        have hU : zUo D (fun _ => false) (κ 60) := fun w hw => by
          have h12 := v.2.1
          rw [f3 w (by omega)]; rfl
        have hMκ : repM D (κ 57) := by rw [κ57]; exact hM
        have hco := y_costs (σ := κ) (T := T) ok hMκ v (fun o ho => ⟨hat o ho, (hT o ho).2.2⟩)
        refine ⟨κ, c_X12_improve ok ⟨_, _, y_noTable0 ok zT00 (hM1.2.2.1.trans (by rw [hq])), fun _ => ⟨_, hlk, _, _, hco, ?_⟩, fun q => absurd nI_0 q⟩, f1⟩
        refine y_improveJ ok hMκ v (fun i hi => ⟨by rw [κ57]; exact (hT i hi).2.1, hat i hi, (hT i hi).2.2⟩) hU (fun one other to hx => ?_)
        rw [est] at hx ⊢
        refine t_X12_improve_154 ⟨_, _, y_many ok, fun _ => ⟨fun q => ?_, fun _ => rfl⟩, fun q => ?_⟩
        · rw [hx.2.1, if_pos k0] at q
          exact absurd rfl q
        · rw [hMκ.1] at q
          exact absurd (nI_le (by omega) (by omega)) q
      obtain ⟨κ, hm, f1⟩ := hmx
      exact ⟨_, _, _, _, hc, hm, zSame_ok (by rw [f1 56 (by decide) (by decide), z_ste]) rfl, zI2_tr3 ρK (zI2_lk hAρ f1)⟩
    · -- the best move is done
      have hUb : ∀ i, i < dN D → zTb T st.2.1 st.2.2.1 st.2.2.2 i < 20 := fun i hi => by
        rcases hk with e | e
        · rw [e, zTb1]
          unfold zMv
          split
          · exact hb1 e
          · exact (hT i hi).2.2
        · rw [e, zTb2]
          unfold zSw
          split
          · exact (hT _ ha).2.2
          · split
            · exact (hT _ (hb2 e).1).2.2
            · exact (hT i hi).2.2
      obtain ⟨B, hB, eB, hch⟩ := z_chg3 ok hAρ
      have hpt := z_putTable (σ := B) ok z_sl37
      generalize eχ : sj_up (sj_st B 2 2 (nI 1)) 3 (va_cpy (sj_st B 2 2 (nI 1) 37) (sj_st B 2 2 (nI 1) 3) 0 0 9) = χ at hpt
      have χn : ∀ b, b ≠ 2 → b ≠ 3 → χ b = B b := fun b h1 h2 => by rw [← eχ, z_upn h2, z_stn h1]
      have χ57 : χ 57 = σ 57 := by rw [χn 57 (by decide) (by decide), eB 57 (by decide) (by decide) (by decide), ρK 57 (by decide)]
      have χ2 : χ 2 = upd (σ 2) 2 (nI 1) := by rw [← eχ, z_upn (by decide), z_sta, eB 2 (by decide) (by decide) (by decide), ρK 2 (by decide)]
      have χ3 : ∀ i, i < dN D → χ 3 i = nI (zTb T st.2.1 st.2.2.1 st.2.2.2 i) := fun i hi => by
        rw [← eχ, sj_up_s]
        unfold va_cpy
        rw [if_pos (by omega), z_stn (by decide), eB 37 (by decide) (by decide) (by decide), show 0 + (i - 0) = i by omega]
        exact hI.2.2.2 (by rcases hk with e | e <;> omega) i hi
      have hc : sj_C G 10 me_X11_improve [.ref (sj_ad G 0)] σ (.ok (nI (zCost D T - st.1)), χ) := by
        refine c_X11_improve ok (Or.inl ⟨_, z_requireTable0 ok (hC.2.2.1.trans (by rw [hq])), _, _, hh, _, htk, _, _, hsb, fun q => ?_, fun _ => ⟨_, hB, _, hpt, rfl⟩⟩)
        exact absurd q (nI_nle (by omega) (by omega))
      have hM1 : repM D (sj_st χ 56 0 (nI 0) 57) := by rw [z_stn (by decide), χ57]; exact hM
      obtain ⟨κ, hlk, f1, f2, f3⟩ := y_looksAtTable (σ := sj_st χ 56 0 (nI 0)) ok h9 hM1.1
      have κ57 : κ 57 = σ 57 := by rw [f1 57 (by decide) (by decide), z_stn (by decide), χ57]
      have hat : ∀ o, o < dN D → κ 59 o = nI (T o) := fun o ho => by
        rw [f2 o ho, z_stn (by decide), χ57]
        exact (hT o ho).2.1
      have hU : zUo D (fun _ => false) (κ 60) := fun w hw => by
        have h12 := v.2.1
        rw [f3 w (by omega)]; rfl
      have hMκ : repM D (κ 57) := by rw [κ57]; exact hM
      have hco := y_costs (σ := κ) (T := T) ok hMκ v (fun o ho => ⟨hat o ho, (hT o ho).2.2⟩)
      -- the slots behind the move
      obtain ⟨κ1, κn, κ1at, hκ⟩ : ∃ κ1 : sj_S, (∀ b, b ≠ 59 → κ1 b = κ b) ∧ (∀ i, i < dN D → κ1 59 i = nI (zTb T st.2.1 st.2.2.1 st.2.2.2 i)) ∧ ∀ one other to : Int32, zMX st one other to → ¬ one = -1 ∧ ((¬ (other = (-1))) → vp_in ((nI 116) + other) 128) ∧ vp_in one 9 ∧ ((¬ (other = (-1))) → vp_in ((nI 116) + one) 128 ∧ vp_in other 9) ∧ (if other = (-1) then (sj_st κ 59 one.toNatClampNeg (if other = (-1) then to else (κ 57 ((nI 116) + other).toNatClampNeg))) else (sj_st (sj_st κ 59 one.toNatClampNeg (if other = (-1) then to else (κ 57 ((nI 116) + other).toNatClampNeg))) 59 other.toNatClampNeg (κ 57 ((nI 116) + one).toNatClampNeg))) = κ1 := by
        have nm : ∀ x, x < 100 → ¬ nI x = -1 := fun x hx e => absurd (by rw [e]; decide : nI x < 0) (nI_pos (by omega))
        rcases hk with e | e
        · refine ⟨sj_st κ 59 st.2.2.1 (nI st.2.2.2), fun b hb => z_stn hb, fun i hi => ?_, fun one other to hx => ?_⟩
          · rw [z_sta, e, zTb1]
            unfold upd zMv
            by_cases q : i = st.2.2.1
            · rw [if_pos q, if_pos q]
            · rw [if_neg q, if_neg q]; exact hat i hi
          · obtain ⟨-, x1, x2, x3⟩ := hx
            rw [if_neg (by omega)] at x1
            rw [if_neg (by omega)] at x2
            rw [x1, x2, x3 e, if_pos rfl, if_pos rfl, nI_clamp (by omega)]
            exact ⟨nm _ (by omega), fun q => absurd rfl q, z_in (by omega) (by decide), fun q => absurd rfl q, rfl⟩
        · obtain ⟨b1, b2⟩ := hb2 e
          refine ⟨sj_st (sj_st κ 59 st.2.2.1 (nI (T st.2.2.2))) 59 st.2.2.2 (nI (T st.2.2.1)), fun b hb => by rw [z_stn hb, z_stn hb], fun i hi => ?_, fun one other to hx => ?_⟩
          · rw [z_sta, z_sta, e, zTb2]
            unfold upd zSw
            by_cases q : i = st.2.2.2
            · rw [if_pos q, if_pos q]
            · rw [if_neg q, if_neg q]
              by_cases q2 : i = st.2.2.1
              · rw [if_pos q2, if_pos q2]
              · rw [if_neg q2, if_neg q2]; exact hat i hi
          · obtain ⟨-, x1, x2, x3⟩ := hx
            rw [if_neg (by omega)] at x1
            rw [if_pos e] at x2
            rw [x1, x2, if_neg (nm _ (by omega)), if_neg (nm _ (by omega)), nI_add, nI_add, nI_clamp (by omega), nI_clamp (by omega), nI_clamp (by omega), nI_clamp (by omega), κ57, (hT _ ha).2.1, (hT _ b1).2.1]
            exact ⟨nm _ (by omega), fun _ => vin _ (by omega), z_in (by omega) (by decide), fun _ => ⟨vin _ (by omega), z_in (by omega) (by decide)⟩, rfl⟩
      have k0 : κ1 56 0 = nI 0 := by rw [κn 56 (by decide), f1 56 (by decide) (by decide), z_ste]
      obtain ⟨σ', hkp, k1, k57, k560, hfin⟩ := hch κ1 (fun b hb h56 => by rw [κn b (zne (by decide) hb), f1 b (zne (by decide) hb) (zne (by decide) hb), z_stn h56, χn b (zne (by decide) hb) (zne (by decide) hb)]) (fun k hk => by rw [κn 56 (by decide), f1 56 (by decide) (by decide), z_sti hk, χn 56 (by decide) (by decide)]) k0
      have hpu := y_puts ok hkp h9 (by rw [k57, ρK 57 (by decide)]; exact hM.1)
      generalize eω : sj_up σ' 57 (zPt (σ' 57) (σ' 59) (dN D)) = ω at hpu
      have ω57 : ω 57 = zPt (σ 57) (σ' 59) (dN D) := by rw [← eω, sj_up_s, k57, ρK 57 (by decide)]
      have ωn : ∀ b, b ≠ 57 → ω b = σ' b := fun b hb => by rw [← eω, z_upn hb]
      have hm : sj_C G 7 me_X12_improve [.ref (sj_ad G 56)] χ (.ok (nI (zCost D T - st.1)), ω) := by
        refine c_X12_improve ok ⟨_, _, y_noTable0 ok zT00 (hM1.2.2.1.trans (by rw [hq])), fun _ => ⟨_, hlk, _, _, hco, ?_⟩, fun q => absurd nI_0 q⟩
        refine y_improveJ ok hMκ v (fun i hi => ⟨by rw [κ57]; exact (hT i hi).2.1, hat i hi, (hT i hi).2.2⟩) hU (fun one other to hx => ?_)
        rw [est] at hx ⊢
        obtain ⟨x1, x2, x3, x4, x5⟩ := hκ one other to hx
        refine t_X12_improve_154 ⟨_, _, y_many ok, fun _ => ⟨fun _ => ⟨x2, x3, x4, ?_⟩, fun q => absurd q x1⟩, fun q => ?_⟩
        · rw [x5]
          refine ⟨_, hpu, ?_⟩
          rw [pk_sub hle]
        · rw [hMκ.1] at q
          exact absurd (nI_le (by omega) (by omega)) q
      refine ⟨_, _, _, _, hc, hm, zSame_ok (by rw [ωn 56 (by decide), k560]) rfl, zI2_tr3 ρK (hfin ω (fun b hb => ωn b (zne (by decide) hb)) ?_)⟩
      have ω2 : ω 2 = upd (σ 2) 2 (nI 1) := by
        rw [ωn 2 (by decide), k1 2 (by decide) (by decide), κn 2 (by decide), f1 2 (by decide) (by decide), z_stn (by decide), χ2]
      have ω3 : ω 3 = χ 3 := by
        rw [ωn 3 (by decide), k1 3 (by decide) (by decide), κn 3 (by decide), f1 3 (by decide) (by decide), z_stn (by decide)]
      exact zSR_new (T := zTb T st.2.1 st.2.2.1 st.2.2.2) v hC hM ω2 ω57 (fun o ho => by rw [k1 59 (by decide) (by decide)]; exact κ1at o ho) (fun o ho => by rw [ω3]; exact χ3 o ho) hUb (zRb_iff.mp hgood)
  · have hq := zT_of v hq
    exact ⟨_, _, _, _, c_X11_improve ok (Or.inr ⟨_, _, z_requireTable1 ok (hC.2.2.1.trans (by rw [hq])), rfl⟩), c_X12_improve ok (R := (.ok (nI 0), sj_st (sj_st σ 56 0 (nI 0)) 56 0 (nI 1))) ⟨_, _, y_noTable1 ok zT00 (hM0.2.2.1.trans (by rw [hq])) (by decide), fun q => absurd q z_10, fun _ => rfl⟩, zSame_er (by decide) z_ste, zI2_th2 h⟩
end ZIP
