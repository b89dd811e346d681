/-! P59, THE CLASS ALONE 2: questions about the table, the best move -/
/-- the class holds a right table -/
def kT (D : zD) (T : Nat → Nat) (σ : sj_S) : Prop := okD D ∧ repC D (σ 2) ∧ dT D = 1 ∧ (∀ l, l < dN D → σ 3 l = nI (T l) ∧ T l < 20) ∧ zRi D (zHd D) T
section K2
variable {G : sj_G} {σ : sj_S} {D : zD} {T : Nat → Nat}
theorem kT_e {σ' : sj_S} (h : kT D T σ) (e2 : σ' 2 = σ 2) (e3 : σ' 3 = σ 3) : kT D T σ' := by
  unfold kT at h ⊢
  rw [e2, e3]
  exact h
theorem kT_q {σ' : sj_S} (h : kT D T σ) (q : kQ σ σ') : kT D T σ' := kT_e h (q 2 (by omega)) (q 3 (by omega))
theorem kT_t (h : kT D T σ) : σ 2 2 = nI 1 := h.2.1.2.2.1.trans (by rw [h.2.2.1])
theorem k_cost (ok : sj_ok G) (h : kT D T σ) : sj_C G 10 me_X11_cost [.ref (sj_ad G 0)] σ (.ok (nI (zCost D T)), σ) :=
  c_X11_cost ok (Or.inl ⟨_, z_requireTable0 ok (kT_t h), _, _, z_costOf ok h.2.1 h.1 z_sl3 h.2.2.2.1, rfl⟩)
theorem k_holds (ok : sj_ok G) (h : kT D T σ) {w : Nat} (hw : w < dW D) : sj_C G 10 me_X11_holds [.ref (sj_ad G 0), .int (nI w)] σ (.ok (if zFul D T w then nI 1 else nI 0), σ) :=
  c_X11_holds ok (Or.inl ⟨_, z_requireWish0 ok h.2.1 h.1 hw, Or.inl ⟨_, z_requireTable0 ok (kT_t h), _, _, z_fulfils ok h.2.1 h.1 z_sl3 hw h.2.2.2.1, rfl, z_01 _⟩⟩)
theorem k_gaps (ok : sj_ok G) (h : kT D T σ) {t : Nat} (ht : t < 6) : sj_C G 12 me_X11_gaps [.ref (sj_ad G 0), .int (nI 1), .int (nI t)] σ (.ok (nI (zGap D T 1 t)), σ) := by
  have hs := z_slotsOfPerson (σ := σ) (b := 1) (p := t) ok h.2.1 h.1 z_sl3 (by decide) (by omega) h.2.2.2.1
  have hi := z_gapsIn (σ := σ) ok (zSp D 1 t T (dN D))
  rw [zGap_sp (fun l hl => by have := (h.2.2.2.1 l hl).2; omega)] at hi
  exact c_X11_gaps ok (Or.inl ⟨_, z_person0 (c := 1) (P := 5) ok (by decide) (by decide) ht, Or.inl ⟨_, z_requireTable0 ok (kT_t h), _, _, hs, _, _, hi, rfl⟩⟩)
theorem k_roomOf (ok : sj_ok G) (h : kT D T σ) {l : Nat} (hl : l < dN D) : ∃ σ', sj_C G 10 me_X11_roomOf [.ref (sj_ad G 0), .int (nI l)] σ (.ok (if dKi D l = 0 then -1 else nI (zGo D T 20 l)), σ') ∧ kQ σ σ' := by
  obtain ⟨τ, htk, hru, hτ⟩ := z_take (σ := σ) (b := 6) ok h.2.1 h.1 (Or.inl rfl) (nI 0)
  have τn : ∀ k, (k < 6 ∨ 16 < k) → τ k = σ k := fun k hk => hτ k (fun j hj => by omega)
  have hR : repT (dN D) T (τ 3) := fun o ho => by rw [τn 3 (by omega)]; exact h.2.2.2.1 o ho
  obtain ⟨ρ, hgr, hρ⟩ := z_giveRooms ok h.1 (Or.inl rfl) z_sl3 (by decide) hru hR hl
  exact ⟨ρ, c_X11_roomOf ok (Or.inl ⟨_, z_requireLesson0 ok h.2.1 h.1 hl, Or.inl ⟨_, z_requireTable0 ok (kT_t h), _, htk, _, _, hgr, rfl⟩⟩), fun b hb => by rw [hρ b (by omega), τn b (by omega)]⟩
theorem k_choices (ok : sj_ok G) (h : kT D T σ) {l : Nat} (hl : l < dN D) : ∃ σ', sj_C G 10 me_X11_choices [.ref (sj_ad G 0), .int (nI l)] σ (.ok (nI (q_cnt (fun i => !decide (i = T l) && zRb D (zHd D) (zMv T l i)) 20)), σ') ∧ kQ σ σ' := by
  obtain ⟨v, hC, hq, hT, hrt⟩ := h
  have h9 := v.1
  obtain ⟨τ, hh, htk, hru, hτ⟩ := z_hard (σ := σ) ok hC v
  have hR : repT (dN D) T (τ 3) := fun o ho => by rw [hτ 3 (by omega)]; exact hT o ho
  obtain ⟨r, hal, hr⟩ := z_allowed (T := T) ok v (Or.inl rfl) z_sl3 hru hl (x3 := -1) (fun o ho _ _ => hR o ho)
  have hw : ∀ i, i < 32 → bt (r &&& ((nI 1 <<< (nI (T l) &&& 31)) ^^^ (-1))) i = (decide (i < 20) && (!decide (i = T l) && zRb D (zHd D) (zMv T l i))) := by
    intro i hi
    rw [b_and, b_xor, b_m1 i hi, Bool.xor_true, z_shl1 (by have := (hT l hl).2; omega) hi, hr i hi]
    have e1 : zAl D (zHd D) T (bt (-1)) l i = zAl D (zHd D) T (fun _ => true) l i := zAl_H (fun _ _ => rfl) (fun o ho => b_m1 o (by omega)) l i
    rw [e1]
    by_cases h20 : i < 20
    · have e2 : zAl D (zHd D) T (fun _ => true) l i = zRb D (zHd D) (zMv T l i) := by
        rw [Bool.eq_iff_iff, zRb_iff, zRi_move hrt hl]
      rw [e2, decide_eq_true h20, Bool.true_and, Bool.and_comm]
    · have e2 : zAl D (zHd D) T (fun _ => true) l i = false := by
        unfold zAl
        rw [decide_eq_false h20]; rfl
      rw [e2, decide_eq_false h20]; rfl
  obtain ⟨m, hm, em, hb⟩ := z_word hw
  have hbc := z_bitCount (σ := τ) ok hm
  rw [← em, q_cnt_congr 20 (fun i hi => hb i hi)] at hbc
  have t3 : τ 3 l = nI (T l) := (hR l hl).1
  refine ⟨τ, c_X11_choices ok (Or.inl ⟨_, z_requireLesson0 ok hC v hl, Or.inl ⟨_, z_requireTable0 ok (hC.2.2.1.trans (by rw [hq])), _, _, hh, _, htk, _, _, hal, z_in (by omega) (by decide), ?_⟩⟩), fun b hb => hτ b (by omega)⟩
  rw [nI_clamp (by omega), t3]
  exact ⟨_, _, hbc, rfl⟩
theorem k_lessonAt (ok : sj_ok G) (h : kT D T σ) {g s : Nat} (hg : g < 4) (hs : s < 20) : sj_C G 12 me_X11_lessonAt [.ref (sj_ad G 0), .int (nI 0), .int (nI g), .int (nI s)] σ (.ok (zOp (zThen D T 0 g s (dN D) 0)), σ) := by
  obtain ⟨v, hC, hq, hT, hrt⟩ := h
  have h9 := v.1
  have key : ∀ k i, i + k = dN D → sj_J G 12 me_X11_lessonAt (.ok (zOp (zThen D T 0 g s k i)), σ) 20 [.ref (sj_ad G 0), .int (nI 0), .int (nI g), .int (nI s), .int (nI i)] σ [] := by
    intro k
    induction k with
    | zero =>
      intro i hi
      refine t_X11_lessonAt_20 ⟨_, _, z_lessonTotal ok, fun _ => rfl, fun q => ?_⟩
      rw [hC.1] at q
      exact absurd (nI_le (by omega) (by omega)) q
    | succ k ih =>
      intro i hi
      have h1 := ih (i + 1) (by omega)
      have hbt : bt (zTs D T i) s = zTk D T i s := zTs_bt (by have := (hT i (by omega)).2; omega) (by omega)
      refine t_X11_lessonAt_20 ⟨_, _, z_lessonTotal ok, fun q => ?_, fun _ => ⟨_, _, z_isOfD ok hC v (by omega) (by decide) (by omega), fun q => ?_, fun q => ⟨_, _, z_slotsTaken ok hC v z_sl3 (by omega) hT, fun q2 => ?_, fun q2 => ?_⟩⟩⟩
      · rw [hC.1] at q
        exact absurd q (nI_ge (by omega) (by omega))
      · unfold wp_X11_lessonAt_72
        have hne : ¬ dP D 0 i = g := fun r => by rw [if_pos r] at q; exact absurd q z_10
        have e : zThen D T 0 g s (k + 1) i = zThen D T 0 g s k (i + 1) := by simp [zThen, hne]
        rw [e, nI_add]
        exact h1
      · unfold wp_X11_lessonAt_72
        rw [z_bit (by omega), hbt] at q2
        have e : zThen D T 0 g s (k + 1) i = zThen D T 0 g s k (i + 1) := by simp [zThen, q2]
        rw [e, nI_add]
        exact h1
      · have hpe : dP D 0 i = g := by
          by_cases r : dP D 0 i = g
          · exact r
          · rw [if_neg r] at q; exact absurd nI_0 q
        rw [z_bit (by omega), hbt, Bool.not_eq_false] at q2
        have e : zThen D T 0 g s (k + 1) i = some i := by simp [zThen, hpe, q2]
        rw [e]
        rfl
  exact c_X11_lessonAt ok (Or.inl ⟨_, z_person0 (c := 0) (P := 3) ok (by decide) (by decide) hg, Or.inl ⟨_, z_range0 ok hs (by decide), Or.inl ⟨_, z_requireTable0 ok (hC.2.2.1.trans (by rw [hq])), key (dN D) 0 (by omega)⟩⟩⟩)
theorem k_improve (ok : sj_ok G) (h : kT D T σ) (hH : kH σ) : ∃ (T' : Nat → Nat) (ρ σ' : sj_S), sj_C G 10 me_X11_improve [.ref (sj_ad G 0)] σ (.ok (nI (zCost D T - (zW2 D T (dN D)).1)), σ') ∧ kQ σ ρ ∧ kCh ρ σ' ∧ kH σ' ∧ kT D T' σ' ∧ zCost D T' = (zW2 D T (dN D)).1 ∧ (zW2 D T (dN D)).1 ≤ zCost D T ∧ ((zW2 D T (dN D)).1 = zCost D T → T' = T) := by
  have h0 := h
  obtain ⟨v, hC, hq, hT, hrt⟩ := h
  have h9 := v.1
  have cT := zCost_lt (T := T) v
  obtain ⟨τ, hh, htk, hru, hτ⟩ := z_hard (σ := σ) ok hC v
  have τ2 : τ 2 = σ 2 := hτ 2 (by omega)
  have hR : repT (dN D) T (τ 3) := fun o ho => by rw [hτ 3 (by omega)]; exact hT o ho
  obtain ⟨ρ, hsb, hI⟩ := z_seekBest (σ := τ) ok (by rw [τ2]; exact hC) v hru hR hrt
  have hv := zW2_v (D := D) (T := T) (dN D) (Nat.le_refl _)
  have hle := zSv_le hv
  have ρq : kQ σ ρ := fun b hb => by rw [hI.1 b (by omega) (by omega) (by omega), hτ b (by omega)]
  generalize est : zW2 D T (dN D) = st at *
  rcases hv with ⟨k0, c0⟩ | ⟨hk, ha, hb1, hb2, hcost, hlt, hgood⟩
  · refine ⟨T, ρ, ρ, c_X11_improve ok (Or.inl ⟨_, z_requireTable0 ok (hC.2.2.1.trans (by rw [hq])), _, _, hh, _, htk, _, _, hsb, fun _ => ?_, fun q => ?_⟩), ρq, kCh_r ρ, kH_e hH (ρq 4 (by omega)), kT_q h0 ρq, c0.symm, hle, fun _ => rfl⟩
    · unfold wp_X11_improve_60
      rw [c0, Nat.sub_self]
    · rw [c0, Nat.sub_self] at q
      exact absurd (by decide) q
  · have h22 : σ 2 2 = nI 1 := hC.2.2.1.trans (by rw [hq])
    obtain ⟨B, hB, eB, e30, eP, bH, -⟩ := k_begin (σ := ρ) ok (kH_e hH (ρq 4 (by omega)))
    have hpt := z_putTable (σ := B) ok z_sl37
    generalize eχ : sj_up (sj_st B 2 2 (nI 1)) 3 (va_cpy (sj_st B 2 2 (nI 1) 37) (sj_st B 2 2 (nI 1) 3) 0 0 9) = χ at hpt
    have χn : ∀ b, b ≠ 2 → b ≠ 3 → χ b = B b := fun b h1 h2 => by rw [← eχ, z_upn h2, z_stn h1]
    have χ2 : χ 2 = σ 2 := by
      rw [← eχ, z_upn (by decide), z_sta, eB 2 (by decide) (by decide) (by decide), ρq 2 (by omega)]
      exact z_updself h22
    have χ3 : ∀ i, i < dN D → χ 3 i = nI (zTb T st.2.1 st.2.2.1 st.2.2.2 i) := fun i hi => by
      rw [← eχ, sj_up_s]
      unfold va_cpy
      rw [if_pos (by omega), z_stn (by decide), eB 37 (by decide) (by decide) (by decide), show 0 + (i - 0) = i by omega]
      exact hI.2.2.2 (by omega) i hi
    have hri := zRb_iff.mp hgood
    refine ⟨zTb T st.2.1 st.2.2.1 st.2.2.2, ρ, χ, c_X11_improve ok (Or.inl ⟨_, z_requireTable0 ok h22, _, _, hh, _, htk, _, _, hsb, fun q => ?_, fun _ => ⟨_, hB, _, hpt, rfl⟩⟩), ρq, ⟨fun b h2 h3 h4 h5 h30 => by rw [χn b h2 h3, eB b h4 h5 h30], fun k hk => by rw [χn 30 (by decide) (by decide), e30 k hk]⟩, kH_e bH (χn 4 (by decide) (by decide)), ⟨v, by rw [χ2]; exact hC, hq, fun l hl => ⟨χ3 l hl, (hri l hl).1⟩, hri⟩, hcost.symm, hle, fun e => by omega⟩
    exact absurd q (nI_nle (by omega) (by omega))
end K2
