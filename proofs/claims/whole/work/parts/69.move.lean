/-! move -/
theorem zSR_new {D : zD} {T : Nat → Nat} {c f a c' tb' m' : Nat → Int32} (v : okD D) (hC : repC D c) (hM : repM D f) (hc : c' = upd c 2 (nI 1)) (hm : m' = zPt f a (dN D)) (ha : ∀ l, l < dN D → a l = nI (T l)) (htb : ∀ l, l < dN D → tb' l = nI (T l)) (h20 : ∀ l, l < dN D → T l < 20) (hr : zRi D (zHd D) T) : zSR c' tb' m' := by
  subst hc hm
  have h9 := v.1
  refine ⟨zUp D 2 0 1, T, okD_T v, repC_T v hC, zPt_rep v hM, fun _ => ⟨fun l hl => ?_, (zRt_2 zD2_up v (okD_T v)).mpr hr⟩⟩
  have hl : l < dN D := hl
  refine ⟨htb l hl, ?_, h20 l hl⟩
  show zPt f a (dN D) (116 + l) = _
  rw [zPt_at hl h9, ha l hl]
theorem z_updself {f : Nat → Int32} {i : Nat} {x : Int32} (h : f i = x) : upd f i x = f := by
  funext k
  unfold upd
  by_cases q : k = i
  · rw [if_pos q, q, h]
  · rw [if_neg q]
section ZMV
variable {G : sj_G} {σ : sj_S} {D : zD} {T : Nat → Nat}
theorem zT_up {D : zD} (h : dT D = 1) : dT (zUp D 2 0 1) = 1 := rfl
theorem p_move (ok : sj_ok G) (h : zA σ) (x y : Int32) : zPair G (zI2 σ) 11 me_X11_move 7 me_X12_move [.int x, .int y] (zcd 3 1 2) σ := by
  obtain ⟨D, T, v, hC, hM, hT⟩ := h.1
  have h9 := v.1
  have hM0 : repM D (sj_st σ 56 0 (nI 0) 57) := by rw [z_stn (by decide)]; exact hM
  rcases z_rg x (dN D) with ⟨l, hl, rfl⟩ | hx
  · rcases z_rg y 20 with ⟨s, hs, rfl⟩ | hy
    · by_cases hq : dT D = 1
      · obtain ⟨hT, hrt⟩ := hT hq
        rw [zRi_iff v] at hrt
        obtain ⟨τ, hh, htk, hru, hτ⟩ := z_hard (σ := σ) ok hC v
        have hR : repT (dN D) T (τ 3) := fun o ho => by rw [hτ 3 (by omega)]; exact ⟨(hT o ho).1, (hT o ho).2.2⟩
        obtain ⟨r, hal, hr⟩ := z_allowed (T := T) ok v (Or.inl rfl) z_sl3 hru hl (x3 := -1) (fun o ho _ _ => hR o ho)
        have hbit : bt r s = zRb D (zHd D) (zMv T l s) := by
          rw [hr s (by omega), zAl_H (q' := fun _ => true) (fun _ _ => rfl) (fun o ho => b_m1 o (by omega)), Bool.eq_iff_iff, zRb_iff, zRi_move hrt hl]
        have hmv : ∀ (f : Nat → Int32), (∀ o, o < dN D → f o = nI (T o)) → ∀ o, o < dN D → upd f l (nI s) o = nI (zMv T l s o) ∧ zMv T l s o < 20 := fun f hf o ho => by
          unfold zMv upd
          by_cases e : o = l
          · rw [if_pos e, if_pos e]; exact ⟨rfl, hs⟩
          · rw [if_neg e, if_neg e]; exact ⟨hf o ho, (hT o ho).2.2⟩
        cases hg : zRb D (zHd D) (zMv T l s)
        · -- not right
          have τ57 : τ 57 = σ 57 := hτ 57 (by omega)
          have hM1 : repM D (sj_st τ 56 0 (nI 0) 57) := by rw [z_stn (by decide), τ57]; exact hM
          obtain ⟨κ, hlk, f1, f2, f3⟩ := y_looksAtTable (σ := sj_st τ 56 0 (nI 0)) ok h9 hM1.1
          have κ57 : κ 57 = σ 57 := by rw [f1 57 (by decide) (by decide), z_stn (by decide), τ57]
          have hat : ∀ o, o < dN D → κ 59 o = nI (T o) := fun o ho => by
            rw [f2 o ho, z_stn (by decide), τ57]
            exact (hT o ho).2.1
          have hi2 := y_isRight (σ := sj_st κ 59 l (nI s)) (T := zMv T l s) (U := fun _ => false) ok (by rw [z_stn (by decide), κ57]; exact hM) v (by rw [z_stn (by decide)]; intro w hw; have h12 := v.2.1; rw [f3 w (by omega)]; rfl) (fun o ho => by rw [z_sta]; exact hmv (κ 59) hat o ho)
          rw [zRb_H (zHu_0 (fun _ _ => rfl)), hg] at hi2
          have hc : sj_C G 11 me_X11_move [.ref (sj_ad G 0), .int (nI l), .int (nI s)] σ (.error 2, τ) := by
            refine c_X11_move ok (Or.inl ⟨_, z_requireLesson0 ok hC v hl, Or.inl ⟨_, z_range0 ok hs (by decide), Or.inl ⟨_, z_requireTable0 ok (hC.2.2.1.trans (by rw [hq])), _, _, hh, _, htk, _, _, hal, fun q => ?_, fun _ => rfl⟩⟩⟩)
            rw [z_bit (by omega), hbit, hg] at q
            exact absurd rfl q
          have k0 : (sj_st κ 59 l (nI s)) 56 0 = 0 := by rw [z_stn (by decide), f1 56 (by decide) (by decide), z_ste]; exact nI_0
          have hm : sj_C G 7 me_X12_move [.ref (sj_ad G 56), .int (nI l), .int (nI s)] τ (.ok (nI 0), sj_st (sj_st κ 59 l (nI s)) 56 0 (nI 3)) := by
            refine c_X12_move ok ⟨_, _, y_noLesson0 ok hM1 v zT00 hl, fun q => absurd nI_0 q, fun _ => ⟨_, _, y_inr1 ok (B := 19) hs (by decide), _, _, y_fails1 ok zT00, fun q => absurd nI_0 q, fun _ => ⟨_, _, y_noTable0 ok zT00 (hM1.2.2.1.trans (by rw [hq])), fun _ => ⟨_, hlk, z_in (by omega) (by decide), ?_⟩, fun q => absurd nI_0 q⟩⟩⟩
            rw [nI_clamp (by omega)]
            exact ⟨_, _, hi2, _, _, y_fails0 ok k0 (by decide), fun q => absurd q z_10, fun _ => rfl⟩
          refine ⟨_, _, _, _, hc, hm, zSame_er (by decide) z_ste, zI2_tr hτ ?_⟩
          have ha := zA_tr hτ h
          have hk : ∀ b, b ≠ 59 → b ≠ 60 → b ≠ 56 → sj_st (sj_st κ 59 l (nI s)) 56 0 (nI 3) b = τ b := fun b h1 h2 h3 => by
            rw [z_stn h3, z_stn h1, f1 b h1 h2, z_stn h3]
          have hk2 : ∀ k, k ≠ 0 → sj_st (sj_st κ 59 l (nI s)) 56 0 (nI 3) 56 k = τ 56 k := fun k hk0 => by
            rw [z_sti hk0, z_stn (by decide), f1 56 (by decide) (by decide), z_sti hk0]
          exact ⟨zA_of ha (fun b hb => hk b (zne (by decide) hb) (zne (by decide) hb) (zne (by decide) hb)) (hk2 3 (by decide)) (hk2 7 (by decide)) (by rw [hk 30 (by decide) (by decide) (by decide)]), fun b hb => hk b (zne (by decide) hb) (zne (by decide) hb) (zne (by decide) hb), fun k hkk => hk2 k (zne (by decide) hkk), by rw [hk 30 (by decide) (by decide) (by decide)]⟩
        · -- right
          obtain ⟨B, hB, eB, hch⟩ := z_chg3 ok (zA_tr hτ h)
          generalize eρ : sj_st B 3 l (nI s) = ρ0
          have ρn : ∀ b, b ≠ 3 → ρ0 b = B b := fun b hb => by rw [← eρ, z_stn hb]
          have ρ2 : ρ0 2 = σ 2 := by rw [ρn 2 (by decide), eB 2 (by decide) (by decide) (by decide), hτ 2 (by omega)]
          have ρ57 : ρ0 57 = σ 57 := by rw [ρn 57 (by decide), eB 57 (by decide) (by decide) (by decide), hτ 57 (by omega)]
          have ρ3 : ρ0 3 = upd (σ 3) l (nI s) := by rw [← eρ, z_sta, eB 3 (by decide) (by decide) (by decide), hτ 3 (by omega)]
          have hR3 : repT (dN D) (zMv T l s) (ρ0 3) := fun o ho => by rw [ρ3]; exact hmv (σ 3) (fun o ho => (hT o ho).1) o ho
          have hcost := z_costOf (σ := ρ0) ok (by rw [ρ2]; exact hC) v z_sl3 hR3
          have hc : sj_C G 11 me_X11_move [.ref (sj_ad G 0), .int (nI l), .int (nI s)] σ (.ok (nI (zCost D (zMv T l s))), ρ0) := by
            refine c_X11_move ok (Or.inl ⟨_, z_requireLesson0 ok hC v hl, Or.inl ⟨_, z_range0 ok hs (by decide), Or.inl ⟨_, z_requireTable0 ok (hC.2.2.1.trans (by rw [hq])), _, _, hh, _, htk, _, _, hal, fun _ => ⟨_, hB, z_in (by omega) (by decide), ?_⟩, fun q => ?_⟩⟩⟩)
            · rw [nI_clamp (by omega), eρ]
              exact ⟨_, _, hcost, rfl⟩
            · rw [z_bit (by omega), hbit, hg] at q
              cases q
          have hM1 : repM D (sj_st ρ0 56 0 (nI 0) 57) := by rw [z_stn (by decide), ρ57]; exact hM
          obtain ⟨κ, hlk, f1, f2, f3⟩ := y_looksAtTable (σ := sj_st ρ0 56 0 (nI 0)) ok h9 hM1.1
          have κ57 : κ 57 = σ 57 := by rw [f1 57 (by decide) (by decide), z_stn (by decide), ρ57]
          have hat : ∀ o, o < dN D → κ 59 o = nI (T o) := fun o ho => by
            rw [f2 o ho, z_stn (by decide), ρ57]
            exact (hT o ho).2.1
          generalize eκ : sj_st κ 59 l (nI s) = κ1
          have κn : ∀ b, b ≠ 59 → κ1 b = κ b := fun b hb => by rw [← eκ, z_stn hb]
          have κ1at : ∀ o, o < dN D → κ1 59 o = nI (zMv T l s o) ∧ zMv T l s o < 20 := fun o ho => by rw [← eκ, z_sta]; exact hmv (κ 59) hat o ho
          have hi2 := y_isRight (σ := κ1) (T := zMv T l s) (U := fun _ => false) ok (by rw [κn 57 (by decide), κ57]; exact hM) v (by rw [κn 60 (by decide)]; intro w hw; have h12 := v.2.1; rw [f3 w (by omega)]; rfl) κ1at
          rw [zRb_H (zHu_0 (fun _ _ => rfl)), hg] at hi2
          have k0 : κ1 56 0 = nI 0 := by rw [κn 56 (by decide), f1 56 (by decide) (by decide), z_ste]
          obtain ⟨σ', hkp, k1, k57, k560, hfin⟩ := hch κ1 (fun b hb h56 => by rw [κn b (zne (by decide) hb), f1 b (zne (by decide) hb) (zne (by decide) hb), z_stn h56, ρn b (zne (by decide) hb)]) (fun k hk => by rw [κn 56 (by decide), f1 56 (by decide) (by decide), z_sti hk, ρn 56 (by decide)]) k0
          have hpu := y_puts ok hkp h9 (by rw [k57, hτ 57 (by omega)]; exact hM.1)
          generalize eω : sj_up σ' 57 (zPt (σ' 57) (σ' 59) (dN D)) = ω at hpu
          have ω57 : ω 57 = zPt (σ 57) (σ' 59) (dN D) := by rw [← eω, sj_up_s, k57, hτ 57 (by omega)]
          have ωn : ∀ b, b ≠ 57 → ω b = σ' b := fun b hb => by rw [← eω, z_upn hb]
          have ω59 : ∀ o, o < dN D → ω 59 o = nI (zMv T l s o) ∧ zMv T l s o < 20 := fun o ho => by rw [ωn 59 (by decide), k1 59 (by decide) (by decide)]; exact κ1at o ho
          have hco := y_costs (σ := ω) (D := zUp D 2 0 1) (T := zMv T l s) ok (by rw [ω57]; exact zPt_rep v hM) (okD_T v) ω59
          rw [zCost_2 zD2_up] at hco
          have hm : sj_C G 7 me_X12_move [.ref (sj_ad G 56), .int (nI l), .int (nI s)] ρ0 (.ok (nI (zCost D (zMv T l s))), ω) := by
            refine c_X12_move ok ⟨_, _, y_noLesson0 ok hM1 v zT00 hl, fun q => absurd nI_0 q, fun _ => ⟨_, _, y_inr1 ok (B := 19) hs (by decide), _, _, y_fails1 ok zT00, fun q => absurd nI_0 q, fun _ => ⟨_, _, y_noTable0 ok zT00 (hM1.2.2.1.trans (by rw [hq])), fun _ => ⟨_, hlk, z_in (by omega) (by decide), ?_⟩, fun q => absurd nI_0 q⟩⟩⟩
            rw [nI_clamp (by omega), eκ]
            exact ⟨_, _, hi2, _, _, y_fails1 ok (k0.trans nI_0), fun _ => ⟨_, hpu, _, _, hco, rfl⟩, fun q => absurd nI_0 q⟩
          refine ⟨_, _, _, _, hc, hm, zSame_ok (by rw [ωn 56 (by decide), k560]) rfl, zI2_tr hτ (hfin ω (fun b hb => ωn b (zne (by decide) hb)) ?_)⟩
          have ω2 : ω 2 = upd (σ 2) 2 (nI 1) := by
            rw [ωn 2 (by decide), k1 2 (by decide) (by decide), κn 2 (by decide), f1 2 (by decide) (by decide), z_stn (by decide), ρ2]
            exact (z_updself (hC.2.2.1.trans (by rw [hq]))).symm
          have ω3 : ω 3 = ρ0 3 := by
            rw [ωn 3 (by decide), k1 3 (by decide) (by decide), κn 3 (by decide), f1 3 (by decide) (by decide), z_stn (by decide)]
          exact zSR_new (T := zMv T l s) v hC hM ω2 ω57 (fun o ho => by rw [← ωn 59 (by decide)]; exact (ω59 o ho).1) (fun o ho => by rw [ω3]; exact (hR3 o ho).1) (fun o ho => (ω59 o ho).2) (zRb_iff.mp hg)
      · have hq := zT_of v hq
        exact ⟨_, _, _, _, c_X11_move ok (Or.inl ⟨_, z_requireLesson0 ok hC v hl, Or.inl ⟨_, z_range0 ok hs (by decide), Or.inr ⟨_, _, z_requireTable1 ok (hC.2.2.1.trans (by rw [hq])), rfl⟩⟩⟩), c_X12_move ok (R := (.ok (nI 0), sj_st (sj_st σ 56 0 (nI 0)) 56 0 (nI 3))) ⟨_, _, y_noLesson0 ok hM0 v zT00 hl, fun q => absurd nI_0 q, fun _ => ⟨_, _, y_inr1 ok (B := 19) hs (by decide), _, _, y_fails1 ok zT00, fun q => absurd nI_0 q, fun _ => ⟨_, _, y_noTable1 ok zT00 (hM0.2.2.1.trans (by rw [hq])) (by decide), fun q => absurd q z_10, fun _ => rfl⟩⟩⟩, zSame_er (by decide) z_ste, zI2_th2 h⟩
    · exact ⟨_, _, _, _, c_X11_move ok (Or.inl ⟨_, z_requireLesson0 ok hC v hl, Or.inr ⟨_, _, z_range1 ok hy (by decide) (by decide), rfl⟩⟩), c_X12_move ok (R := (.ok (nI 0), sj_st (sj_st σ 56 0 (nI 0)) 56 0 (nI 2))) ⟨_, _, y_noLesson0 ok hM0 v zT00 hl, fun q => absurd nI_0 q, fun _ => ⟨_, _, y_inr0 ok (B := 19) hy (by decide), _, _, y_fails0 ok zT00 (by decide), fun _ => rfl, fun q => absurd q z_10⟩⟩, zSame_er (by decide) z_ste, zI2_th2 h⟩
  · exact ⟨_, _, _, _, c_X11_move ok (Or.inr ⟨_, _, z_requireLesson1 ok hC v hx, rfl⟩), c_X12_move ok (R := (.ok (nI 0), sj_st (sj_st σ 56 0 (nI 0)) 56 0 (nI 1))) ⟨_, _, y_noLesson1 ok hM0 v zT00 hx (by decide), fun _ => rfl, fun q => absurd q z_10⟩, zSame_er (by decide) z_ste, zI2_th2 h⟩
end ZMV
