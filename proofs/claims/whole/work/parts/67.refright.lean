/-! MODEL: hasRoom, isRight -/
section ZM6
variable {G : sj_G} {σ : sj_S} {D : zD} {T : Nat → Nat}
theorem y_hasRoom (ok : sj_ok G) (hM : repM D (σ 57)) (v : okD D) {l f : Nat} (hl : l < dN D) (hf : f ≤ dN D) (h1 : σ 59 l = nI (T l) ∧ T l < 20) (hT : ∀ o, o < f → o ≠ l → σ 59 o = nI (T o) ∧ T o < 20) : sj_C G 4 me_X12_hasRoom [.ref (sj_ad G 56), .int (nI l), .int (nI f)] σ (.ok (if zRm D T l (T l) f then nI 1 else nI 0), σ) := by
  have h9 := v.1
  obtain ⟨-, -, -, m3, m4⟩ := hM.2.2.2.1 l hl
  obtain ⟨-, -, -, vk, vd⟩ := v.2.2.2.1 l hl
  have vin : ∀ x, x < 128 → vp_in (nI x) 128 := fun x hx => z_in hx (by decide)
  refine c_X12_hasRoom ok ?_
  unfold wp_X12_hasRoom_0
  rw [nI_add, nI_clamp (by omega), m3]
  refine ⟨vin _ (by omega), ?_⟩
  by_cases k0 : dKi D l = 0
  · refine t_X12_hasRoom_13 ⟨fun _ => ?_, fun q => absurd (by rw [zk_m1 vk]; exact k0) q⟩
    unfold wp_X12_hasRoom_120 zRm
    rw [decide_eq_true k0]; rfl
  · have ek : zk (dKi D l) = nI (dKi D l - 1) := if_neg k0
    have hro := v.2.2.2.2.2.2.1 (dKi D l - 1) (by omega)
    have hmr := hM.2.2.2.2.2.2.1 (dKi D l - 1) (by omega)
    have nm1 : ¬ zk (dKi D l) = -1 := by rw [zk_m1 vk]; exact k0
    -- one of its slots
    have inner : ∀ (V : Int32) (k : Nat), k ≤ 1 → (zCn D T l (T l + k) f + 1 ≤ dRo D (dKi D l - 1) → sj_J G 4 me_X12_hasRoom (.ok V, σ) 13 [.ref (sj_ad G 56), .int (nI l), .int (nI f), .int (zk (dKi D l)), .int (nI (k + 1)), .null, .null] σ []) → (¬ zCn D T l (T l + k) f + 1 ≤ dRo D (dKi D l - 1) → V = nI 0) → sj_J G 4 me_X12_hasRoom (.ok V, σ) 38 [.ref (sj_ad G 56), .int (nI l), .int (nI f), .int (zk (dKi D l)), .int (nI k), .int (nI 1), .int (nI 0)] σ [] := by
      intro V k hk hgo hno
      have hcb : zCn D T l (T l + k) f ≤ f := q_cnt_le _ f
      have key : ∀ j i, i + j = f → sj_J G 4 me_X12_hasRoom (.ok V, σ) 38 [.ref (sj_ad G 56), .int (nI l), .int (nI f), .int (zk (dKi D l)), .int (nI k), .int (nI (zCn D T l (T l + k) i + 1)), .int (nI i)] σ [] := by
        intro j
        induction j with
        | zero =>
          intro i hi
          have : i = f := by omega
          subst this
          refine t_X12_hasRoom_38 ⟨fun _ => ?_, fun q => absurd (nI_le (by omega) (by omega)) q⟩
          rw [ek, nI_add, nI_clamp (by omega), hmr]
          refine ⟨vin _ (by omega), fun q => ?_, fun q => ?_⟩
          · rw [nI_leI (by omega) (by omega)] at q
            rw [nI_add, ← ek]
            exact hgo q
          · rw [nI_leI (by omega) (by omega)] at q
            rw [hno q]
        | succ j ih =>
          intro i hi
          have hi1 := ih (i + 1) (by omega)
          have hcb2 : zCn D T l (T l + k) i ≤ i := q_cnt_le _ i
          have eq1 : zCn D T l (T l + k) (i + 1) = zCn D T l (T l + k) i + (if (!decide (i = l) && (decide (dKi D i = dKi D l) && zTk D T i (T l + k))) then 1 else 0) := rfl
          obtain ⟨-, -, -, n3, -⟩ := hM.2.2.2.1 i (by omega)
          obtain ⟨-, -, -, wk, -⟩ := v.2.2.2.1 i (by omega)
          have skip : (!decide (i = l) && (decide (dKi D i = dKi D l) && zTk D T i (T l + k))) = false → wp_X12_hasRoom_88 G (.ok V, σ) (nI l) (nI f) (zk (dKi D l)) (nI k) (nI i) (nI (zCn D T l (T l + k) i + 1)) σ := fun z => by
            unfold wp_X12_hasRoom_88 wp_X12_hasRoom_89
            rw [z, if_neg (by decide), Nat.add_zero] at eq1
            rw [eq1] at hi1
            rw [nI_add, nI_add, Nat.add_zero]
            exact hi1
          refine t_X12_hasRoom_38 ⟨fun q => absurd q (nI_ge (by omega) (by omega)), fun _ => ⟨fun q => skip ?_, fun q => ?_⟩⟩
          · rw [nI_eq (by omega) (by omega)] at q
            rw [decide_eq_true q]; rfl
          · rw [nI_eq (by omega) (by omega)] at q
            rw [nI_add, nI_clamp (by omega), n3, zk_eq wk vk]
            refine ⟨vin _ (by omega), fun r => skip ?_, fun r => ⟨z_in (by omega) (by decide), ?_⟩⟩
            · rw [decide_eq_false r]; simp
            · obtain ⟨t1, t2⟩ := hT i (by omega) q
              rw [nI_clamp (by omega), h1.1, nI_add]
              refine ⟨_, _, y_isAt1 (T := T) ok hM v ⟨t1, by omega⟩ (by omega : i < dN D) (by omega), ?_⟩
              unfold wp_X12_hasRoom_89
              have e2 : (if (if zTk D T i (T l + k) then nI 1 else nI 0) = 0 then nI 0 else nI 1) = nI (if (!decide (i = l) && (decide (dKi D i = dKi D l) && zTk D T i (T l + k))) then 1 else 0) := by
                rw [decide_eq_false q, decide_eq_true r]
                cases zTk D T i (T l + k) <;> decide
              rw [e2, nI_add, nI_add, show zCn D T l (T l + k) i + 1 + (if (!decide (i = l) && (decide (dKi D i = dKi D l) && zTk D T i (T l + k))) then 1 else 0) = zCn D T l (T l + k) (i + 1) + 1 by omega]
              exact hi1
      have h0 := key f 0 (by omega)
      exact h0
    have hm36 : σ 57 (nI 36 + nI l).toNatClampNeg = nI (dDb D l) := by rw [nI_add, nI_clamp (by omega)]; exact m4
    have v36 : vp_in (nI 36 + nI l) 128 := by rw [nI_add]; exact vin _ (by omega)
    have e1 : zRm D T l (T l) f = (decide (zCn D T l (T l) f + 1 ≤ dRo D (dKi D l - 1)) && (!decide (dDb D l = 1) || decide (zCn D T l (T l + 1) f + 1 ≤ dRo D (dKi D l - 1)))) := by
      unfold zRm
      rw [decide_eq_false k0]; rfl
    refine t_X12_hasRoom_13 ⟨fun q => absurd q nm1, fun _ => ⟨v36, fun q => ?_, fun _ => ?_⟩⟩
    · rw [hm36] at q
      exact absurd q (nI_nlt (by omega) (by omega))
    · refine inner _ 0 (by decide) (fun c0 => ?_) (fun c0 => ?_)
      · have c0 : zCn D T l (T l) f + 1 ≤ dRo D (dKi D l - 1) := c0
        rw [decide_eq_true c0, Bool.true_and] at e1
        by_cases d1 : dDb D l = 1
        · rw [decide_eq_true d1] at e1
          refine t_X12_hasRoom_13 ⟨fun q => absurd q nm1, fun _ => ⟨v36, fun q => ?_, fun _ => ?_⟩⟩
          · rw [hm36, d1] at q
            exact absurd q (nI_nlt (by decide) (by decide))
          · refine inner _ 1 (by decide) (fun c1 => ?_) (fun c1 => ?_)
            · refine t_X12_hasRoom_13 ⟨fun q => absurd q nm1, fun _ => ⟨v36, fun _ => ?_, fun q => ?_⟩⟩
              · unfold wp_X12_hasRoom_120
                rw [e1, decide_eq_true c1]; rfl
              · rw [hm36, d1] at q
                exact absurd (nI_lt (by decide) (by decide)) q
            · rw [e1, decide_eq_false c1]; rfl
        · have d0 : dDb D l = 0 := by omega
          rw [decide_eq_false d1] at e1
          refine t_X12_hasRoom_13 ⟨fun q => absurd q nm1, fun _ => ⟨v36, fun _ => ?_, fun q => ?_⟩⟩
          · unfold wp_X12_hasRoom_120
            rw [e1]; rfl
          · rw [hm36, d0] at q
            exact absurd (nI_lt (by decide) (by decide)) q
      · have c0 : ¬ zCn D T l (T l) f + 1 ≤ dRo D (dKi D l - 1) := c0
        rw [e1, decide_eq_false c0]; rfl
/-- a lesson of a right table, as the reference looks at it -/
def zRl (D : zD) (H : Nat → Bool) (T : Nat → Nat) (l : Nat) : Bool := zSt D H l (T l) && (zRm D T l (T l) (dN D) && !q_any (fun o => !zPr D H l (T l) o (T o)) l)
theorem zRl_rb {H : Nat → Bool} (hT : ∀ l, l < dN D → T l < 20) : (!q_any (fun l => !zRl D H T l) (dN D)) = zRb D H T := by
  rw [Bool.eq_iff_iff, zRb_iff, Bool.not_eq_true', q_any_f]
  refine forall_congr' (fun l => imp_congr_right (fun hl => ?_))
  rw [Bool.not_eq_false']
  unfold zRl
  rw [Bool.and_eq_true, Bool.and_eq_true, Bool.not_eq_true', q_any_f]
  constructor
  · rintro ⟨a1, a2, a3⟩
    refine ⟨hT l hl, a1, a2, fun o ho => ?_⟩
    have := a3 o ho
    rw [Bool.not_eq_false'] at this
    exact this
  · rintro ⟨-, a1, a2, a3⟩
    refine ⟨a1, a2, fun o ho => ?_⟩
    rw [a3 o ho]; rfl
theorem y_isRight (ok : sj_ok G) (hM : repM D (σ 57)) (v : okD D) {U : Nat → Bool} (hU : zUo D U (σ 60)) (hT : ∀ l, l < dN D → σ 59 l = nI (T l) ∧ T l < 20) : sj_C G 6 me_X12_isRight [.ref (sj_ad G 56)] σ (.ok (if zRb D (zHu D U) T then nI 1 else nI 0), σ) := by
  have h9 := v.1
  refine c_X12_isRight ok ?_
  unfold wp_X12_isRight_0
  rw [← zRl_rb (fun l hl => (hT l hl).2)]
  have key : ∀ j i, i + j = dN D → q_any (fun l => !zRl D (zHu D U) T l) i = false → sj_J G 6 me_X12_isRight (.ok (if !q_any (fun l => !zRl D (zHu D U) T l) (dN D) then nI 1 else nI 0), σ) 2 [.ref (sj_ad G 56), .int (nI i), .null] σ [] := by
    intro j
    induction j with
    | zero =>
      intro i hi q
      have : i = dN D := by omega
      subst this
      refine t_X12_isRight_2 ⟨_, _, y_many ok, fun _ => ?_, fun r => ?_⟩
      · rw [q]; rfl
      · rw [hM.1] at r
        exact absurd (nI_le (by omega) (by omega)) r
    | succ j ih =>
      intro i hi q
      have eq1 : q_any (fun l => !zRl D (zHu D U) T l) (i + 1) = (q_any (fun l => !zRl D (zHu D U) T l) i || !zRl D (zHu D U) T i) := rfl
      rw [q, Bool.false_or] at eq1
      have hend : zRl D (zHu D U) T i = false → ((.ok (if !q_any (fun l => !zRl D (zHu D U) T l) (dN D) then nI 1 else nI 0), σ) : sj_R) = (.ok (nI 0), σ) := fun z => by
        rw [z] at eq1
        rw [q_any_mono (n := dN D) (by rw [eq1]; rfl) (by omega)]; rfl
      have hr := y_hasRoom (T := T) (l := i) (f := dN D) ok hM v (by omega) (Nat.le_refl _) (hT i (by omega)) (fun o ho _ => hT o ho)
      rw [← hM.1] at hr
      refine t_X12_isRight_2 ⟨_, _, y_many ok, fun r => ?_, fun _ => ⟨_, _, y_canStand (T := T) ok hM v hU (by omega : i < dN D) (hT i (by omega)), fun r => hend ?_, fun r => ⟨_, _, y_many ok, _, _, hr, fun r2 => ?_, fun r2 => hend ?_⟩⟩⟩
      · rw [hM.1] at r
        exact absurd r (nI_ge (by omega) (by omega))
      · unfold zRl
        cases z : zSt D (zHu D U) i (T i)
        · rfl
        · rw [z] at r; exact absurd r z_10
      · have z1 : zSt D (zHu D U) i (T i) = true := by
          cases z : zSt D (zHu D U) i (T i)
          · rw [z] at r; exact absurd nI_0 r
          · rfl
        have z2 : zRm D T i (T i) (dN D) = true := by
          cases z : zRm D T i (T i) (dN D)
          · rw [z] at r2; exact absurd nI_0 r2
          · rfl
        have ez : zRl D (zHu D U) T i = !q_any (fun o => !zPr D (zHu D U) i (T i) o (T o)) i := by
          unfold zRl
          rw [z1, z2]; rfl
        rw [ez] at eq1 hend
        have key2 : ∀ m o, o + m = i → q_any (fun o => !zPr D (zHu D U) i (T i) o (T o)) o = false → sj_J G 6 me_X12_isRight (.ok (if !q_any (fun l => !zRl D (zHu D U) T l) (dN D) then nI 1 else nI 0), σ) 34 [.ref (sj_ad G 56), .int (nI i), .int (nI o)] σ [] := by
          intro m
          induction m with
          | zero =>
            intro o ho z
            have : o = i := by omega
            subst this
            refine t_X12_isRight_34 ⟨fun _ => ?_, fun s => absurd (nI_le (by omega) (by omega)) s⟩
            rw [nI_add]
            exact ih (o + 1) (by omega) (by rw [eq1, z]; rfl)
          | succ m ihm =>
            intro o ho z
            have eq2 : q_any (fun o => !zPr D (zHu D U) i (T i) o (T o)) (o + 1) = (q_any (fun o => !zPr D (zHu D U) i (T i) o (T o)) o || !zPr D (zHu D U) i (T i) o (T o)) := rfl
            rw [z, Bool.false_or] at eq2
            refine t_X12_isRight_34 ⟨fun s => absurd s (nI_ge (by omega) (by omega)), fun _ => ⟨_, _, y_canStandBoth (T := T) ok hM v hU (by omega : i < dN D) (by omega : o < dN D) (hT i (by omega)) (hT o (by omega)), fun s => ?_, fun s => hend ?_⟩⟩
            · rw [nI_add]
              refine ihm (o + 1) (by omega) ?_
              rw [eq2]
              cases z3 : zPr D (zHu D U) i (T i) o (T o)
              · rw [z3] at s; exact absurd nI_0 s
              · rfl
            · rw [q_any_mono (n := i) (i := o + 1) ?_ (by omega)]
              · rfl
              · rw [eq2]
                cases z3 : zPr D (zHu D U) i (T i) o (T o)
                · rfl
                · rw [z3] at s; exact absurd s z_10
        exact key2 i 0 (by omega) rfl
      · unfold zRl
        cases z : zRm D T i (T i) (dN D)
        · simp
        · rw [z] at r2; exact absurd r2 z_10
  exact key (dN D) 0 (by omega) rfl
theorem zHu_0 {U : Nat → Bool} (h : ∀ w, w < dW D → U w = false) : ∀ w, w < dW D → zHu D U w = zHd D w := fun w hw => by
  unfold zHu zHd
  rw [h w hw]; simp
theorem zHard_H (v : okD D) : ∀ w, w < dW D → bt (zHard D (dW D)) w = zHd D w := fun w hw => by
  have h12 := v.2.1
  unfold zHd
  rw [zHard_bt (by omega) (dW D) (by omega), decide_eq_true hw]; rfl
theorem zRu_H {H H' : Nat → Bool} {τ : sj_S} {b : Nat} (h : ∀ w, w < dW D → H w = H' w) (r : zRu D H τ b) : zRu D H' τ b := by
  refine ⟨r.1, fun l hl => ?_⟩
  obtain ⟨r1, r2, r3, r4, r5, r6, r7, r8, r9, r10⟩ := r.2 l hl
  have e : ∀ s f, zWd D H s f (dW D) = zWd D H' s f (dW D) := fun s f => q_any_congr (dW D) (fun w hw => by rw [h w hw])
  have e2 : ∀ i, zOb D H l i (dW D) = zOb D H' l i (dW D) := fun i => by
    unfold zOb
    rw [q_any_congr (dW D) (fun w hw => by rw [h w hw])]
  exact ⟨fun i hi => by rw [← e2]; exact r1 i hi, r2, r3, r4, fun o ho => by rw [← e]; exact r5 o ho, fun o ho => by rw [← e]; exact r6 o ho, fun o ho => by rw [← e]; exact r7 o ho, fun o ho => by rw [← e]; exact r8 o ho, r9, r10⟩
end ZM6
