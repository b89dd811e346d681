/-! P59, THE LAW 5: choices -/
/-- what the law's looks at the table leave alone -/
def kM (σ σ' : sj_S) : Prop := (∀ b, (b = 33 ∨ (46 ≤ b ∧ b ≤ 52) ∨ (57 ≤ b ∧ b ≤ 61) ∨ 63 ≤ b) → σ' b = σ b) ∧ (∀ k, k ≠ 3 → σ' 30 k = σ 30 k) ∧ ∀ k, k ≠ 0 → σ' 56 k = σ 56 k
theorem kM_r (σ : sj_S) : kM σ σ := ⟨fun _ _ => rfl, fun _ _ => rfl, fun _ _ => rfl⟩
theorem kM_t {σ σ1 σ2 : sj_S} (h : kM σ σ1) (g : kM σ1 σ2) : kM σ σ2 := ⟨fun b hb => (g.1 b hb).trans (h.1 b hb), fun k hk => (g.2.1 k hk).trans (h.2.1 k hk), fun k hk => (g.2.2 k hk).trans (h.2.2 k hk)⟩
theorem kM_q {σ σ' : sj_S} (h : kQ σ σ') : kM σ σ' := ⟨fun b hb => h b (by omega), fun k _ => by rw [h 30 (by omega)], fun k _ => by rw [h 56 (by omega)]⟩
theorem kM_c {σ σ' : sj_S} (h : kCh σ σ') : kM σ σ' := ⟨fun b hb => h.1 b (by omega) (by omega) (by omega) (by omega) (by omega), h.2, fun k _ => by rw [h.1 56 (by decide) (by decide) (by decide) (by decide) (by decide)]⟩
theorem kM_62 {σ σ' : sj_S} (h : ∀ b, b ≠ 62 → σ' b = σ b) : kM σ σ' := ⟨fun b hb => h b (by omega), fun k _ => by rw [h 30 (by decide)], fun k _ => by rw [h 56 (by decide)]⟩
theorem kM_x (σ : sj_S) (x : Int32) : kM σ (sj_st σ 56 0 x) := ⟨fun b hb => z_stn (by omega), fun k _ => by rw [z_stn (by decide)], fun k hk => z_sti hk⟩
theorem kM_rd {σ σ' : sj_S} {r : Nat} (h : kM σ σ') (g : zRd σ r) : zRd σ' r := ⟨by rw [h.2.1 7 (by decide)]; exact g.1, by rw [h.1 33 (by omega)]; exact g.2⟩
theorem lM {D : zD} {σ σ' : sj_S} (hL : lR D σ) (q : kM σ σ') : lR D σ' := lR_e hL (fun b hb => q.1 b (by
  have : ∀ b, b ∈ [57, 58, 59, 60, 61, 63, 64, 65, 66, 67] → (57 ≤ b ∧ b ≤ 61) ∨ 63 ≤ b := by decide
  have := this b hb
  omega)) (q.2.2 13 (by decide)) (q.2.2 14 (by decide))
theorem zThen_sp {D : zD} {T : Nat → Nat} {b p s : Nat} : ∀ k i j, zThen D T b p s k i = some j → i ≤ j ∧ j < i + k ∧ dP D b j = p ∧ zTk D T j s = true := by
  intro k
  induction k with
  | zero => intro i j h; exact nomatch h
  | succ k ih =>
    intro i j h
    have e : zThen D T b p s (k + 1) i = (if dP D b i = p ∧ zTk D T i s = true then some i else zThen D T b p s k (i + 1)) := rfl
    rw [e] at h
    split at h
    · rename_i q
      cases h
      exact ⟨Nat.le_refl _, by omega, q⟩
    · obtain ⟨a, b, c⟩ := ih (i + 1) j h
      exact ⟨by omega, by omega, c⟩
section L5
variable {G : sj_G} {σ : sj_S} {D : zD} {T : Nat → Nat}
/-- one lesson moved in the law's row -/
theorem lA_mv (h9 : dN D ≤ 9) (hA : lA D T σ) {l s : Nat} (hs : s < 20) : lA D (zMv T l s) (sj_st σ 62 l (nI s)) := fun o ho => by
  unfold zMv
  by_cases e : o = l
  · subst e
    rw [z_ste, if_pos rfl]
    exact ⟨rfl, hs⟩
  · rw [z_sti e, if_neg e]
    exact hA o ho
theorem l_good (ok : sj_ok G) (v : okD D) (hL : lR D σ) (hA : lA D T σ) : sj_C G 4 me_L_isGood [.ref (sj_ad G 56)] σ (.ok (if zRb D (zHd D) T then nI 1 else nI 0), σ) := by
  obtain ⟨b, hc, hb⟩ := l_isGood (σ := σ) ok v hL hA
  have e : b = zRb D (zHd D) T := by
    rw [Bool.eq_iff_iff, hb, zRb_iff, zRi_iff v]
  rw [← e]
  exact hc
/-- one of a class at a slot is that one -/
theorem zThen_l (v : okD D) (hrt : zRi D (zHd D) T) {l s : Nat} (hl : l < dN D) (ht : zTk D T l s = true) : zThen D T 0 (dG D l) s (dN D) 0 = some l := by
  cases h : zThen D T 0 (dG D l) s (dN D) 0 with
  | none => exact absurd ⟨rfl, ht⟩ ((zThen_none (dN D) 0).mp h l (Nat.zero_le l) (by omega))
  | some j =>
    obtain ⟨-, h2, h3, h4⟩ := zThen_sp (dN D) 0 j h
    by_cases e : j = l
    · rw [e]
    · exfalso
      have h3 : dG D j = dG D l := h3
      have hr := (zRi_iff v).mpr hrt
      have hm : ∀ a b, zTk D T a s = true → zTk D T b s = true → zMeet D T a b = true := fun a b ha hb => by
        unfold zMeet
        rw [Bool.or_eq_true, Bool.and_eq_true, decide_eq_true_eq, zTk_or, zTk_or]
        rw [zTk_or] at ha hb
        omega
      by_cases q : j < l
      · have := hr.2.1 l j hl q (Or.inl h3.symm)
        rw [hm l j ht h4] at this
        cases this
      · have := hr.2.1 j l (by omega) (by omega) (Or.inl h3)
        rw [hm j l h4 ht] at this
        cases this
theorem l_areChoices (ok : sj_ok G) (hO : sj_ad G 70 = sj_ad G 0) (h : kT D T σ) (hL : lR D σ) (hA : lA D T σ) (h1 : 1 ≤ dN D) : ∃ σ', sj_C G 13 me_L_areChoices [.ref (sj_ad G 56)] σ (.ok (nI 1), σ') ∧ kM σ σ' ∧ kT D T σ' ∧ lA D T σ' ∧ (∀ b, (b < 6 ∨ (29 ≤ b ∧ b ≤ 30) ∨ (32 ≤ b ∧ b ≤ 33)) → σ' b = σ b) := by
  have v := h.1
  have h9 := v.1
  have h12 := v.2.1
  have hrt := h.2.2.2.2
  have hin : ∀ l, l < dN D → vp_in (nI l) 9 := fun l hl => z_in (by omega) (by decide)
  obtain ⟨l, x, hl, hnx⟩ := l_next (σ := σ) ok (n := dN D) h1 (by omega)
  generalize eσ : sj_st σ 56 0 x = σ0 at hnx
  have s0 : ∀ b, b ≠ 56 → σ0 b = σ b := fun b hb => by rw [← eσ, z_stn hb]
  have m0 : kM σ σ0 := by rw [← eσ]; exact kM_x σ x
  have L0 := lM hL m0
  have A0 := lA_e hA (s0 62 (by decide))
  have T0 := kT_e h (s0 2 (by decide)) (s0 3 (by decide))
  have hn1 : nI 20 ≤ nI 20 := nI_le (Nat.le_refl 20) (by decide)
  obtain ⟨ρc, hcc, qc⟩ := k_choices (σ := σ0) ok T0 hl
  generalize eC : q_cnt (fun i => !decide (i = T l) && zRb D (zHd D) (zMv T l i)) 20 = C at hcc
  -- the slots
  have slots : ∀ k s, s + k = 20 → sj_J G 13 me_L_areChoices (.ok (nI 1), ρc) 149 [.ref (sj_ad G 56), .int (nI l), .null, .int (nI C), .int (nI s), .null] σ0 [] := by
    intro k
    induction k with
    | zero =>
      intro s hs
      obtain rfl : s = 20 := by omega
      refine t_L_areChoices_149 hO ⟨fun _ => ⟨_, _, hcc, ?_⟩, fun q => absurd hn1 q⟩
      unfold wp_L_areChoices_251
      rw [if_pos rfl]
      exact ⟨rfl, Or.inr rfl⟩
    | succ k ih =>
      intro s hs
      have nx := ih (s + 1) (by omega)
      have e57 : σ0 57 l = nI (dG D l) := (L0.2.2.1 l hl).1
      have gl4 := (v.2.2.2.1 l hl).1
      have hla := k_lessonAt (σ := σ0) ok T0 gl4 (by omega : s < 20)
      have hon := l_isOn (σ := σ0) ok v L0 A0 hl (by omega : s < 2 ^ 20)
      have on : wp_L_areChoices_228 G (.ok (nI 1), ρc) (nI l) (nI C) (nI s) σ0 := by
        unfold wp_L_areChoices_228
        rw [nI_add]
        exact nx
      refine t_L_areChoices_149 hO ⟨fun q => absurd q (nI_ge (by omega) (by decide)), fun _ => ⟨hin l hl, ?_⟩⟩
      rw [nI_clamp (by omega), e57]
      refine ⟨_, _, hla, _, _, hon, ?_, ?_⟩
      · intro q
        cases hz : zThen D T 0 (dG D l) s (dN D) 0 with
        | none => exact ⟨fun _ => on, fun q => absurd rfl q⟩
        | some j =>
          obtain ⟨-, j2, j3, j4⟩ := zThen_sp (dN D) 0 j hz
          have j2 : j < dN D := by omega
          have j3 : dG D j = dG D l := j3
          have hj9 := hin j j2
          have e57j : σ0 57 j = nI (dG D j) := (L0.2.2.1 j j2).1
          have honj := l_isOn (σ := σ0) ok v L0 A0 j2 (by omega : s < 2 ^ 20)
          rw [j4] at honj
          refine ⟨fun _ => on, fun _ => ⟨hj9, hin l hl, ?_, ?_⟩⟩
          · show ¬ σ0 57 (nI j).toNatClampNeg = σ0 57 l → _
            rw [nI_clamp (by omega), e57, e57j, j3]
            exact fun q => absurd rfl q
          · intro _
            exact ⟨_, _, honj, fun _ => on, fun q => absurd q z_10⟩
      · intro q
        cases ht : zTk D T l s
        · rw [ht] at q
          exact absurd nI_0 q
        · rw [zThen_l v hrt hl ht]
          exact ⟨fun _ => on, fun q => absurd rfl q⟩
  -- gaps
  have gapsL : ∀ k t, t + k = 6 → sj_J G 13 me_L_areChoices (.ok (nI 1), ρc) 111 [.ref (sj_ad G 56), .int (nI l), .null, .int (nI C), .int (nI t), .null] σ0 [] := by
    intro k
    induction k with
    | zero =>
      intro t ht
      obtain rfl : t = 6 := by omega
      exact t_L_areChoices_111 hO ⟨fun _ => slots 20 0 (by decide), fun q => absurd (nI_le (Nat.le_refl 6) (by decide)) q⟩
    | succ k ih =>
      intro t ht
      refine t_L_areChoices_111 hO ⟨fun q => absurd q (nI_ge (by omega) (by decide)), fun _ => ⟨_, _, k_gaps ok T0 (by omega : t < 6), _, _, l_gaps ok v L0 A0 (b := 1) (by decide) (by omega : t < 2 ^ 20), fun _ => ?_, fun q => absurd rfl q⟩⟩
      rw [nI_add]
      exact ih (t + 1) (by omega)
  -- wishes
  have wishL : ∀ k w, w + k = dW D → sj_J G 13 me_L_areChoices (.ok (nI 1), ρc) 73 [.ref (sj_ad G 56), .int (nI l), .null, .int (nI C), .int (nI w), .null] σ0 [] := by
    intro k
    induction k with
    | zero =>
      intro w hw
      obtain rfl : w = dW D := by omega
      refine t_L_areChoices_73 hO ⟨fun _ => gapsL 6 0 (by decide), fun q => ?_⟩
      rw [L0.2.1] at q
      exact absurd (nI_le (Nat.le_refl _) (by omega)) q
    | succ k ih =>
      intro w hw
      refine t_L_areChoices_73 hO ⟨fun q => ?_, fun _ => ⟨_, _, k_holds ok T0 (by omega : w < dW D), _, _, l_holdsW ok v L0 A0 (by omega : w < dW D), fun _ => ?_, fun q => absurd rfl q⟩⟩
      · rw [L0.2.1] at q
        exact absurd q (nI_ge (by omega) (by omega))
      · rw [nI_add]
        exact ih (w + 1) (by omega)
  -- the moves
  have back : ∀ ρ, (∀ b, b ≠ 62 → ρ b = σ0 b) → (∀ o, o ≠ l → ρ 62 o = σ0 62 o) → sj_st ρ 62 l (nI (T l)) = σ0 := fun ρ e1 e2 => by
    funext b i
    by_cases eb : b = 62
    · subst eb
      by_cases ei : i = l
      · subst ei
        rw [z_ste, (A0 i hl).1]
      · rw [z_sti ei, e2 i ei]
    · rw [z_stn eb, e1 b eb]
  have moves : ∀ k s (ρ : sj_S), s + k = 20 → (∀ b, b ≠ 62 → ρ b = σ0 b) → (∀ o, o ≠ l → ρ 62 o = σ0 62 o) → sj_J G 13 me_L_areChoices (.ok (nI 1), ρc) 21 [.ref (sj_ad G 56), .int (nI l), .int (nI (T l)), .int (nI (q_cnt (fun i => !decide (i = T l) && zRb D (zHd D) (zMv T l i)) s)), .int (nI s), .null] ρ [] := by
    intro k
    induction k with
    | zero =>
      intro s ρ hs e1 e2
      obtain rfl : s = 20 := by omega
      refine t_L_areChoices_21 hO ⟨fun _ => ⟨hin l hl, ?_⟩, fun q => absurd hn1 q⟩
      rw [nI_clamp (by omega), eC, back ρ e1 e2]
      exact wishL (dW D) 0 (by omega)
    | succ k ih =>
      intro s ρ hs e1 e2
      have hT20 := (A0 l hl).2
      have hle : q_cnt (fun i => !decide (i = T l) && zRb D (zHd D) (zMv T l i)) s ≤ s := q_cnt_le _ s
      have e1' : ∀ b, b ≠ 62 → sj_st ρ 62 l (nI s) b = σ0 b := fun b hb => by rw [z_stn hb, e1 b hb]
      have e2' : ∀ o, o ≠ l → sj_st ρ 62 l (nI s) 62 o = σ0 62 o := fun o ho => by rw [z_sti ho, e2 o ho]
      have nx := ih (s + 1) (sj_st ρ 62 l (nI s)) (by omega) e1' e2'
      rw [q_cnt_s] at nx
      refine t_L_areChoices_21 hO ⟨fun q => absurd q (nI_ge (by omega) (by decide)), fun _ => ⟨hin l hl, fun q => ?_, fun q => ?_⟩⟩
      · have es := (nI_eq (by omega) (by omega)).mp q
        unfold wp_L_areChoices_54 wp_L_areChoices_55
        rw [decide_eq_true es, if_neg (by simp)] at nx
        rw [nI_clamp (by omega), nI_add, nI_add]
        exact nx
      · have es : ¬ s = T l := fun e => q (by rw [e])
        rw [decide_eq_false es] at nx
        have Aρ : lA D (zMv T l s) (sj_st ρ 62 l (nI s)) := fun o ho => by
          unfold zMv
          by_cases e : o = l
          · subst e
            rw [z_ste, if_pos rfl]
            exact ⟨rfl, by omega⟩
          · rw [e2' o e, if_neg e]
            exact A0 o ho
        have Lρ : lR D (sj_st ρ 62 l (nI s)) := lM L0 (kM_62 e1')
        have hg := l_good (σ := sj_st ρ 62 l (nI s)) ok v Lρ Aρ
        rw [nI_clamp (by omega)]
        refine ⟨_, _, hg, ?_⟩
        unfold wp_L_areChoices_55
        cases hz : zRb D (zHd D) (zMv T l s)
        · rw [hz, if_neg (by decide)] at nx
          rw [if_pos (show (if false = true then nI 1 else nI 0) = 0 from nI_0), nI_add, nI_add]
          exact nx
        · rw [hz, if_pos (by decide)] at nx
          rw [if_neg (show ¬ (if true = true then nI 1 else nI 0) = 0 by decide), nI_add, nI_add]
          exact nx
  have hm := moves 20 0 σ0 (by decide) (fun _ _ => rfl) (fun _ _ => rfl)
  refine ⟨ρc, c_L_areChoices ok hO ?_, kM_t m0 (kM_q qc), kT_q T0 qc, lQA A0 qc, fun b hb => by rw [qc b (by omega), s0 b (by omega)]⟩
  unfold wp_L_areChoices_0
  rw [hL.1]
  refine ⟨_, _, hnx, hin l hl, ?_⟩
  rw [nI_clamp (by omega), (A0 l hl).1]
  exact hm
end L5
