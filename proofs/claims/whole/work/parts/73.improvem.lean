/-! the reference's improve; the pair -/
abbrev zLK : List Nat := [2, 3, 4, 5, 30, 32, 33, 46, 47, 48, 49, 50, 51, 52, 54, 55, 56, 57, 58, 62, 70, 71, 72, 73, 74, 75, 76]
def zMX (st : zMS) (one other to : Int32) : Prop := st.2.1 ≤ 2 ∧ one = (if st.2.1 = 0 then -1 else nI st.2.2.1) ∧ other = (if st.2.1 = 2 then nI st.2.2.2 else -1) ∧ (st.2.1 = 1 → to = nI st.2.2.2)
section ZIN
variable {G : sj_G} {σ : sj_S} {D : zD} {T : Nat → Nat}
theorem zI2_tr3 {σ1 ρ : sj_S} (hk : ∀ k, k ∈ zLK → σ1 k = σ k) (h : zI2 σ1 ρ) : zI2 σ ρ := by
  obtain ⟨h1, h2, h3, h4⟩ := h
  refine ⟨h1, fun b hb => (h2 b hb).trans (hk b ?_), fun k hq => by rw [h3 k hq, hk 56 (by decide)], by rw [h4, hk 30 (by decide)]⟩
  revert b
  decide
theorem zA_tr3 {σ1 : sj_S} (hk : ∀ k, k ∈ zLK → σ1 k = σ k) (h : zA σ) : zA σ1 := by
  refine zA_of h (fun b hb => hk b ?_) (by rw [hk 56 (by decide)]) (by rw [hk 56 (by decide)]) (by rw [hk 30 (by decide)])
  revert b
  decide
theorem z_stst {κ : sj_S} {a l : Nat} {x y : Int32} : sj_st (sj_st κ a l x) a l y = sj_st κ a l y := by
  funext c
  by_cases q : c = a
  · subst q
    rw [z_sta, z_sta, z_sta]
    funext k
    unfold upd
    by_cases s : k = l
    · rw [if_pos s, if_pos s]
    · rw [if_neg s, if_neg s, if_neg s]
  · rw [z_stn q, z_stn q, z_stn q]
theorem y_improveJ (ok : sj_ok G) {κ : sj_S} (hM : repM D (κ 57)) (v : okD D) (hT : ∀ i, i < dN D → κ 57 (116 + i) = nI (T i) ∧ κ 59 i = nI (T i) ∧ T i < 20) (hU : zUo D (fun _ => false) (κ 60)) {R : sj_R}
    (hend : ∀ one other to, zMX (zW2 D T (dN D)) one other to → sj_J G 7 me_X12_improve R 154 [.ref (sj_ad G 56), .int (nI (zCost D T)), .int (nI (zW2 D T (dN D)).1), .int one, .int other, .int to, .int (nI (dN D)), .null, .null] κ []) :
    sj_J G 7 me_X12_improve R 37 [.ref (sj_ad G 56), .int (nI (zCost D T)), .int (nI (zCost D T)), .int (-1), .int (-1), .int (-1), .int (nI 0), .null, .null] κ [] := by
  have h9 := v.1
  have cT := zCost_lt (T := T) v
  have vin : ∀ x, x < 128 → vp_in (nI x) 128 := fun x hx => z_in hx (by decide)
  have v9 : ∀ x, x < dN D → vp_in (nI x) 9 := fun x hx => z_in (by omega) (by decide)
  have hat : ∀ i, i < dN D → κ 59 i = nI (T i) ∧ T i < 20 := fun i hi => (hT i hi).2
  -- the swaps
  have key2 : ∀ j l one other to, l + j = dN D → zMX (zW2 D T l) one other to → sj_J G 7 me_X12_improve R 154 [.ref (sj_ad G 56), .int (nI (zCost D T)), .int (nI (zW2 D T l).1), .int one, .int other, .int to, .int (nI l), .null, .null] κ [] := by
    intro j
    induction j with
    | zero =>
      intro l one other to hl hx
      have : l = dN D := by omega
      subst this
      exact hend one other to hx
    | succ j ih =>
      intro l one other to hl hx
      have hv := zW2_v (D := D) (T := T) l (by omega)
      have inner : ∀ m k one other to, l + 1 + k + m = dN D → zMX (zW1 D T l (zW2 D T l) k) one other to → sj_J G 7 me_X12_improve R 169 [.ref (sj_ad G 56), .int (nI (zCost D T)), .int (nI (zW1 D T l (zW2 D T l) k).1), .int one, .int other, .int to, .int (nI l), .int (nI (l + 1 + k)), .null] κ [] := by
        intro m
        induction m with
        | zero =>
          intro k one other to hk hx
          have e : zW2 D T (l + 1) = zW1 D T l (zW2 D T l) k := by
            show zW1 D T l (zW2 D T l) (dN D - (l + 1)) = _
            rw [show dN D - (l + 1) = k by omega]
          have h1 := ih (l + 1) one other to (by omega) (by rw [e]; exact hx)
          rw [e] at h1
          refine t_X12_improve_169 ⟨_, _, y_many ok, fun _ => ?_, fun q => ?_⟩
          · rw [nI_add]; exact h1
          · rw [hM.1] at q
            exact absurd (nI_le (by omega) (by omega)) q
        | succ m ihm =>
          intro k one other to hk hx
          have hvk := zW1_v (l := l) hv k (by omega)
          have hle := zSv_le hvk
          generalize eo : l + 1 + k = o at *
          have ho : o < dN D := by omega
          have hlo : l ≠ o := by omega
          have eqs : zW1 D T l (zW2 D T l) (k + 1) = zTry D T (zW1 D T l (zW2 D T l) k) 2 l o (zRb D (zHd D) (zSw T l o)) := by
            show zTry D T (zW1 D T l (zW2 D T l) k) 2 l (l + 1 + k) (zRb D (zHd D) (zSw T l (l + 1 + k))) = _
            rw [eo]
          have nx := fun one other to => ihm (k + 1) one other to (by omega)
          rw [eqs, show l + 1 + (k + 1) = o + 1 by omega] at nx
          generalize zW1 D T l (zW2 D T l) k = st at *
          obtain ⟨t1, t2, t3⟩ := hT l (by omega)
          obtain ⟨u1, u2, u3⟩ := hT o ho
          generalize eτ : sj_st (sj_st κ 59 l (nI (T o))) 59 o (nI (T l)) = τ
          have τn : ∀ c, c ≠ 59 → τ c = κ c := fun c hc => by rw [← eτ, z_stn hc, z_stn hc]
          have hτ : ∀ i, i < dN D → τ 59 i = nI (zSw T l o i) ∧ zSw T l o i < 20 := fun i hi => by
            rw [← eτ, z_sta, z_sta]
            unfold upd zSw
            by_cases e : i = o
            · rw [if_pos e, if_pos e]; exact ⟨rfl, t3⟩
            · rw [if_neg e, if_neg e]
              by_cases e2 : i = l
              · rw [if_pos e2, if_pos e2]; exact ⟨rfl, u3⟩
              · rw [if_neg e2, if_neg e2]; exact hat i hi
          have hir := y_isRight (σ := τ) (T := zSw T l o) ok (by rw [τn 57 (by decide)]; exact hM) v (by rw [τn 60 (by decide)]; exact hU) hτ
          rw [zRb_H (zHu_0 (fun _ _ => rfl))] at hir
          have hco := y_costs (σ := τ) (T := zSw T l o) ok (by rw [τn 57 (by decide)]; exact hM) v hτ
          have cS := zCost_lt (T := zSw T l o) v
          have back : ∀ x2 x3 x4 : Int32, sj_J G 7 me_X12_improve R 169 [.ref (sj_ad G 56), .int (nI (zCost D T)), .int x2, .int x3, .int x4, .int to, .int (nI l), .int (nI (o + 1)), .null] κ [] → wp_X12_improve_239 G R (nI (zCost D T)) x2 x3 x4 to (nI l) (nI o) τ := fun x2 x3 x4 h => by
            unfold wp_X12_improve_239
            rw [nI_add, nI_add, nI_add, nI_clamp (by omega), nI_clamp (by omega), nI_clamp (by omega), nI_clamp (by omega)]
            refine ⟨vin _ (by omega), v9 l (by omega), vin _ (by omega), v9 o ho, ?_⟩
            rw [τn 57 (by decide), t1, u1]
            have e : sj_st (sj_st τ 59 l (nI (T l))) 59 o (nI (T o)) = κ := by
              funext c
              by_cases q : c = 59
              · subst q
                rw [z_sta, z_sta, ← eτ, z_sta, z_sta]
                funext i
                unfold upd
                by_cases e : i = o
                · rw [if_pos e, e]; exact u2.symm
                · rw [if_neg e]
                  by_cases e2 : i = l
                  · rw [if_pos e2, e2]; exact t2.symm
                  · rw [if_neg e2, if_neg e, if_neg e2]
              · rw [z_stn q, z_stn q, τn c q]
            rw [e]
            exact h
          have hskip : zTry D T st 2 l o (zRb D (zHd D) (zSw T l o)) = st → wp_X12_improve_239 G R (nI (zCost D T)) (nI st.1) one other to (nI l) (nI o) τ := fun e => by
            rw [e] at nx
            exact back _ _ _ (nx one other to hx)
          refine t_X12_improve_169 ⟨_, _, y_many ok, fun q => ?_, fun _ => ⟨?_, v9 l (by omega), ?_, v9 o ho, ?_⟩⟩
          · rw [hM.1] at q
            exact absurd q (nI_ge (by omega) (by omega))
          · rw [nI_add]; exact vin _ (by omega)
          · rw [nI_add]; exact vin _ (by omega)
          · rw [nI_add, nI_add, nI_clamp (by omega), nI_clamp (by omega), nI_clamp (by omega), nI_clamp (by omega), t1, u1, eτ]
            refine ⟨_, _, hir, fun q => hskip ?_, fun q => ⟨_, _, hco, fun q2 => hskip ?_, fun q2 => ⟨_, _, hco, ?_⟩⟩⟩
            · cases z : zRb D (zHd D) (zSw T l o)
              · exact zTry_f
              · rw [z] at q; exact absurd q z_10
            · rw [nI_leI (by omega) (by omega)] at q2
              unfold zTry
              rw [zTb2, if_neg (by omega)]
            · rw [nI_leI (by omega) (by omega)] at q2
              have z : zRb D (zHd D) (zSw T l o) = true := by
                cases z : zRb D (zHd D) (zSw T l o)
                · rw [z] at q; exact absurd nI_0 q
                · rfl
              have e : zTry D T st 2 l o (zRb D (zHd D) (zSw T l o)) = (zCost D (zSw T l o), 2, l, o) := by
                unfold zTry
                rw [zTb2, if_pos ⟨z, by omega⟩]
              rw [e] at nx
              exact back _ _ _ (nx (nI l) (nI o) to ⟨by show 2 ≤ 2; omega, by show nI l = if 2 = 0 then -1 else nI l; rw [if_neg (by decide)], by show nI o = if 2 = 2 then nI o else -1; rw [if_pos rfl], fun q => absurd q (by show ¬ 2 = 1; decide)⟩)
      refine t_X12_improve_154 ⟨_, _, y_many ok, fun q => ?_, fun _ => ?_⟩
      · rw [hM.1] at q
        exact absurd q (nI_ge (by omega) (by omega))
      · rw [nI_add]
        exact inner (dN D - (l + 1)) 0 one other to (by omega) hx
  -- one lesson
  have key1 : ∀ j l one to, l + j = dN D → zMX (zS2 D T l) one (-1) to → (zS2 D T l).2.1 ≤ 1 → sj_J G 7 me_X12_improve R 37 [.ref (sj_ad G 56), .int (nI (zCost D T)), .int (nI (zS2 D T l).1), .int one, .int (-1), .int to, .int (nI l), .null, .null] κ [] := by
    intro j
    induction j with
    | zero =>
      intro l one to hl hx _
      have : l = dN D := by omega
      subst this
      refine t_X12_improve_37 ⟨_, _, y_many ok, fun _ => key2 (dN D) 0 one (-1) to (by omega) hx, fun q => ?_⟩
      rw [hM.1] at q
      exact absurd (nI_le (by omega) (by omega)) q
    | succ j ih =>
      intro l one to hl hx h1
      have hv := zS2_v (D := D) (T := T) l (by omega)
      obtain ⟨t1, t2, t3⟩ := hT l (by omega)
      have inner : ∀ m s one to y, s + m = 20 → zMX (zS1 D T l (zS2 D T l) s) one (-1) to → (zS1 D T l (zS2 D T l) s).2.1 ≤ 1 → sj_J G 7 me_X12_improve R 49 [.ref (sj_ad G 56), .int (nI (zCost D T)), .int (nI (zS1 D T l (zS2 D T l) s).1), .int one, .int (-1), .int to, .int (nI l), .int (nI s), .null] (sj_st κ 59 l y) [] := by
        intro m
        induction m with
        | zero =>
          intro s one to y hs hx hk1
          have : s = 20 := by omega
          subst this
          have h2 := ih (l + 1) one to (by omega) hx hk1
          refine t_X12_improve_49 ⟨fun _ => ⟨?_, v9 l (by omega), ?_⟩, fun q => absurd (nI_le (by omega) (by omega)) q⟩
          · rw [nI_add]; exact vin _ (by omega)
          · rw [nI_add, nI_add, nI_clamp (by omega), nI_clamp (by omega), z_stn (by decide), t1, z_stst, ← t2, z_st_self]
            exact h2
        | succ m ihm =>
          intro s one to y hs hx hk1
          have hvs := zS1_v (l := l) (by omega) hv s (by omega)
          have hle := zSv_le hvs
          have eqs : zS1 D T l (zS2 D T l) (s + 1) = zTry D T (zS1 D T l (zS2 D T l) s) 1 l s (!decide (s = T l) && zRb D (zHd D) (zMv T l s)) := rfl
          have nx := fun one to y => ihm (s + 1) one to y (by omega)
          rw [eqs] at nx
          generalize zS1 D T l (zS2 D T l) s = st at *
          have hτ : ∀ i, i < dN D → sj_st κ 59 l (nI s) 59 i = nI (zMv T l s i) ∧ zMv T l s i < 20 := fun i hi => by
            rw [z_sta]
            unfold upd zMv
            by_cases e : i = l
            · rw [if_pos e, if_pos e]; exact ⟨rfl, by omega⟩
            · rw [if_neg e, if_neg e]; exact hat i hi
          have hir := y_isRight (σ := sj_st κ 59 l (nI s)) (T := zMv T l s) ok (by rw [z_stn (by decide)]; exact hM) v (by rw [z_stn (by decide)]; exact hU) hτ
          rw [zRb_H (zHu_0 (fun _ _ => rfl))] at hir
          have hco := y_costs (σ := sj_st κ 59 l (nI s)) (T := zMv T l s) ok (by rw [z_stn (by decide)]; exact hM) v hτ
          have cS := zCost_lt (T := zMv T l s) v
          have hskip : zTry D T st 1 l s (!decide (s = T l) && zRb D (zHd D) (zMv T l s)) = st → wp_X12_improve_122 G R (nI (zCost D T)) (nI st.1) one (-1) to (nI l) (nI s) (sj_st κ 59 l (nI s)) := fun e => by
            rw [e] at nx
            unfold wp_X12_improve_122
            rw [nI_add]
            exact nx one to (nI s) hx hk1
          have hskip2 : zTry D T st 1 l s (!decide (s = T l) && zRb D (zHd D) (zMv T l s)) = st → wp_X12_improve_99 G R (nI (zCost D T)) (nI st.1) one (-1) to (nI l) (nI s) (sj_st κ 59 l (nI s)) := fun e =>
            ⟨fun q => absurd nI_0 q, fun _ => hskip e⟩
          refine t_X12_improve_49 ⟨fun q => absurd q (nI_ge (by omega) (by decide)), fun _ => ⟨v9 l (by omega), ?_, ?_⟩⟩
          · rw [nI_add]; exact vin _ (by omega)
          · rw [nI_add, nI_clamp (by omega), nI_clamp (by omega), z_stn (by decide), t1, z_stst, nI_eq (by omega) (by omega)]
            refine ⟨fun q => hskip2 ?_, fun q => ⟨_, _, hir, fun q2 => hskip2 ?_, fun q2 => ⟨_, _, hco, ?_⟩⟩⟩
            · rw [decide_eq_true q]
              exact zTry_f
            · cases z : zRb D (zHd D) (zMv T l s)
              · rw [Bool.and_false]
                exact zTry_f
              · rw [z] at q2; exact absurd q2 z_10
            · have z : zRb D (zHd D) (zMv T l s) = true := by
                cases z : zRb D (zHd D) (zMv T l s)
                · rw [z] at q2; exact absurd nI_0 q2
                · rfl
              by_cases c : st.1 ≤ zCost D (zMv T l s)
              · rw [if_pos (nI_le c (by omega))]
                refine ⟨fun q => absurd nI_0 q, fun _ => hskip ?_⟩
                unfold zTry
                rw [zTb1, if_neg (by omega)]
              · rw [if_neg (nI_ge (by omega) (by omega))]
                have e : zTry D T st 1 l s (!decide (s = T l) && zRb D (zHd D) (zMv T l s)) = (zCost D (zMv T l s), 1, l, s) := by
                  unfold zTry
                  rw [zTb1, if_pos ⟨by rw [decide_eq_false q, z]; rfl, by omega⟩]
                rw [e] at nx
                refine ⟨fun _ => ⟨_, _, hco, ?_⟩, fun q => absurd q z_10⟩
                unfold wp_X12_improve_122
                rw [nI_add]
                exact nx (nI l) (nI s) (nI s) ⟨by show 1 ≤ 2; omega, by show nI l = if 1 = 0 then -1 else nI l; rw [if_neg (by decide)], by show -1 = if 1 = 2 then nI s else -1; rw [if_neg (by decide)], fun _ => rfl⟩ (by show 1 ≤ 1; omega)
      refine t_X12_improve_37 ⟨_, _, y_many ok, fun q => ?_, fun _ => ?_⟩
      · rw [hM.1] at q
        exact absurd q (nI_ge (by omega) (by omega))
      · have h0 := inner 20 0 one to (κ 59 l) (by omega) hx h1
        rw [z_st_self] at h0
        exact h0
  exact key1 (dN D) 0 (-1) (-1) (by omega) ⟨Nat.zero_le 2, rfl, rfl, fun q => absurd (show (0 : Nat) = 1 from q) (by decide)⟩ (Nat.zero_le 1)
end ZIN
