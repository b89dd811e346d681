/-! RULES: what the class's Rules hold, and take() -/
def zOr (c : Bool) (x : Int32) (o : Nat) : Int32 := if c then x ||| (nI 1 <<< (nI o &&& 31)) else x
theorem zOr_bt {c : Bool} {x : Int32} {o i : Nat} (ho : o < 32) (hi : i < 32) : bt (zOr c x o) i = (bt x i || (c && decide (i = o))) := by
  unfold zOr
  cases c
  · simp
  · rw [if_pos rfl, b_or, z_shl1 ho hi]; simp
def zWd (D : zD) (H : Nat → Bool) (s : Nat) (f : Nat → Nat → Bool) (m : Nat) : Bool := q_any (fun w => H w && decide (dSo D w = s) && f (dA D w) (dB D w)) m
def zBoth (l o a b : Nat) : Bool := (decide (a = l) && decide (b = o)) || (decide (a = o) && decide (b = l))
def zOb (D : zD) (H : Nat → Bool) (l i m : Nat) : Bool := (decide (dKi D l = 0) || decide (0 < dRo D (dKi D l - 1))) && (!(decide (dDb D l = 1) && decide (i % 4 = 3)) && !q_any (fun w => H w && decide (dSo D w ≤ 3) && !zF1 D (fun _ => i) w l) m)
def zRuL (D : zD) (H : Nat → Bool) (m : Nat) (τ : sj_S) (b l : Nat) : Prop :=
  (∀ i, i < 32 → bt (τ (b + 1) l) i = (decide (i < 20) && zOb D H l i m)) ∧ τ (b + 2) l = (if dDb D l = 1 then nI 3 else nI 1) ∧ τ (b + 3) l = nI (dDb D l) ∧
  (∀ o, o < 32 → bt (τ (b + 4) l) o = (decide (o < dN D) && !decide (o = l) && zClash D l o)) ∧
  (∀ o, o < 32 → bt (τ (b + 5) l) o = zWd D H 4 (zBoth l o) m) ∧
  (∀ o, o < 32 → bt (τ (b + 6) l) o = ((decide (o < dN D) && !decide (o = l) && zLike D l o) || zWd D H 5 (zBoth l o) m)) ∧
  (∀ o, o < 32 → bt (τ (b + 7) l) o = zWd D H 6 (fun a c => decide (a = o) && decide (c = l)) m) ∧
  (∀ o, o < 32 → bt (τ (b + 8) l) o = zWd D H 6 (fun a c => decide (a = l) && decide (c = o)) m) ∧
  (∀ o, o < 32 → bt (τ (b + 9) l) o = (decide (o < dN D) && !decide (o = l) && (!decide (dKi D l = 0) && decide (dKi D o = dKi D l)))) ∧
  τ (b + 10) l = (if dKi D l = 0 then nI 9 else nI (dRo D (dKi D l - 1)))
def zRu (D : zD) (H : Nat → Bool) (τ : sj_S) (b : Nat) : Prop := τ b 0 = nI (dN D) ∧ ∀ l, l < dN D → zRuL D H (dW D) τ b l
section ZRU
variable {G : sj_G} {σ : sj_S} {D : zD} {T : Nat → Nat} {b : Nat}
def zCmp (D : zD) (σ : sj_S) (b l o : Nat) : sj_S := sj_st (sj_st (sj_st σ (b + 4) l (zOr (zClash D l o) (σ (b + 4) l) o)) (b + 6) l (zOr (zLike D l o) (σ (b + 6) l) o)) (b + 9) l (zOr (!decide (dKi D l = 0) && decide (dKi D o = dKi D l)) (σ (b + 9) l) o)
theorem zk_eq {a c : Nat} (ha : a ≤ 3) (hc : c ≤ 3) : (zk a = zk c) = (a = c) := by
  have h : ∀ a, a < 4 → ∀ c, c < 4 → ((zk a = zk c) ↔ (a = c)) := by decide +kernel
  exact propext (h a (by omega) c (by omega))
theorem zk_m1 {a : Nat} (ha : a ≤ 3) : (zk a = -1) = (a = 0) := by
  have h : ∀ a, a < 4 → ((zk a = -1) ↔ (a = 0)) := by decide +kernel
  exact propext (h a (by omega))
theorem b_lt (hb : b = 6 ∨ b = 18) {k : Nat} (hk : k < 12) (h2 : 0 < k) : b + k ≠ 2 ∧ b + k ≠ 3 := by omega
theorem z_compare (ok : sj_ok G) (hC : repC D (σ 2)) (v : okD D) (hb : b = 6 ∨ b = 18) {l o : Nat} (hl : l < dN D) (ho : o < dN D) : sj_C G 3 me_X7_compare [.ref (sj_ad G b), .ref (sj_ad G 1), .int (nI l), .int (nI o)] σ (.ok 0, zCmp D σ b l o) := by
  have h9 := v.1
  obtain ⟨g0, g1, g2, g3, -⟩ := hC.2.2.2.1 l hl
  obtain ⟨f0, f1, f2, f3, -⟩ := hC.2.2.2.1 o ho
  obtain ⟨vg, vt, vs, vk, -⟩ := v.2.2.2.1 l hl
  obtain ⟨wg, wt, ws, wk, -⟩ := v.2.2.2.1 o ho
  have rd : ∀ (τ : sj_S) (q k : Nat), τ 2 = σ 2 → q < dN D → k < 5 → sj_C G 2 me_X8_ofLesson [.ref (sj_ad G 1), .int (nI q), .int (nI k)] τ (.ok (σ 2 (3 + q * 5 + k)), τ) := fun τ q k e hq hk => by
    have h := z_ofLesson (σ := τ) ok (l := q) (k := k) (by omega) hk
    rw [e] at h
    exact h
  have hin : vp_in (nI l) 9 := z_in (by omega) (by decide)
  have kl : (nI l).toNatClampNeg = l := nI_clamp (by omega)
  -- the last step
  have s3 : ∀ τ : sj_S, τ 2 = σ 2 → wp_X7_compare_86 G (.ok 0, sj_st τ (b + 9) l (zOr (!decide (dKi D l = 0) && decide (dKi D o = dKi D l)) (τ (b + 9) l) o)) b (nI l) (nI o) τ := by
    intro τ e
    have e1 := rd τ l 3 e hl (by decide)
    have e2 := rd τ o 3 e ho (by decide)
    rw [g3] at e1
    rw [f3] at e2
    refine ⟨_, _, e1, fun q => ?_, fun q => ⟨_, _, e2, fun _ => ⟨hin, hin⟩, ?_⟩⟩
    · rw [zk_m1 vk] at q
      unfold wp_X7_compare_123
      rw [decide_eq_true q]
      show _ = ((.ok 0, τ) : sj_R)
      unfold zOr
      rw [if_neg (by simp), z_st_self]
    · rw [zk_m1 vk] at q
      unfold wp_X7_compare_123
      rw [kl, decide_eq_false q, Bool.not_false, Bool.true_and]
      simp only [zk_eq wk vk]
      unfold zOr
      by_cases r : dKi D o = dKi D l
      · rw [if_pos r, decide_eq_true r, if_pos rfl]
      · rw [if_neg r, decide_eq_false r, if_neg (by decide), z_st_self]
  have s2 : ∀ (τ : sj_S), τ 2 = σ 2 → wp_X7_compare_54 G (.ok 0, sj_st (sj_st τ (b + 6) l (zOr (zLike D l o) (τ (b + 6) l) o)) (b + 9) l (zOr (!decide (dKi D l = 0) && decide (dKi D o = dKi D l)) (τ (b + 9) l) o)) b (nI l) (nI o) (if dG D o = dG D l then nI 1 else nI 0) τ := by
    intro τ e
    have e1 := rd τ o 2 e ho (by decide)
    have e2 := rd τ l 2 e hl (by decide)
    rw [f2] at e1
    rw [g2] at e2
    have n2 : ∀ (x : Int32), sj_st τ (b + 6) l x 2 = σ 2 := fun x => by rw [z_stn (by omega)]; exact e
    have n9 : ∀ (x : Int32), sj_st τ (b + 6) l x (b + 9) l = τ (b + 9) l := fun x => by rw [z_stn (by omega)]
    by_cases q : dG D o = dG D l
    · rw [if_pos q]
      refine ⟨fun r => absurd r z_10, fun _ => ⟨_, _, e1, _, _, e2, fun _ => ⟨hin, hin⟩, ?_⟩⟩
      have c2 : (nI (dSu D o) = nI (dSu D l)) = (dSu D o = dSu D l) := by rw [nI_eq (by omega) (by omega)]
      simp only [c2]
      have el : zLike D l o = decide (dSu D o = dSu D l) := by
        unfold zLike
        rw [decide_eq_true q.symm, Bool.true_and]
        exact decide_eq_decide.mpr ⟨fun h => h.symm, fun h => h.symm⟩
      rw [el, kl]
      by_cases r : dSu D o = dSu D l
      · rw [if_pos r, decide_eq_true r]
        have h := s3 (sj_st τ (b + 6) l (zOr true (τ (b + 6) l) o)) (n2 _)
        rw [n9] at h
        exact h
      · rw [if_neg r, decide_eq_false r]
        have h := s3 τ e
        have ez : sj_st τ (b + 6) l (zOr false (τ (b + 6) l) o) = τ := by unfold zOr; rw [if_neg (by decide), z_st_self]
        rw [ez]
        exact h
    · rw [if_neg q]
      refine ⟨fun _ => ?_, fun r => absurd nI_0 r⟩
      have el : zLike D l o = false := by
        unfold zLike
        rw [decide_eq_false (fun r => q r.symm), Bool.false_and]
      rw [el]
      have h := s3 τ e
      have ez : sj_st τ (b + 6) l (zOr false (τ (b + 6) l) o) = τ := by unfold zOr; rw [if_neg (by decide), z_st_self]
      rw [ez]
      exact h
  have e1 := rd σ o 0 rfl ho (by decide)
  have e2 := rd σ l 0 rfl hl (by decide)
  have e3 := rd σ o 1 rfl ho (by decide)
  have e4 := rd σ l 1 rfl hl (by decide)
  rw [f0] at e1
  rw [g0] at e2
  rw [f1] at e3
  rw [g1] at e4
  have c1 : (nI (dG D o) = nI (dG D l)) = (dG D o = dG D l) := by rw [nI_eq (by omega) (by omega)]
  have c2 : (nI (dTe D o) = nI (dTe D l)) = (dTe D o = dTe D l) := by rw [nI_eq (by omega) (by omega)]
  have n6 : ∀ (x : Int32), sj_st σ (b + 4) l x (b + 6) l = σ (b + 6) l := fun x => by rw [z_stn (by omega)]
  have n9 : ∀ (x : Int32), sj_st σ (b + 4) l x (b + 9) l = σ (b + 9) l := fun x => by rw [z_stn (by omega)]
  have n2 : ∀ (x : Int32), sj_st σ (b + 4) l x 2 = σ 2 := fun x => by rw [z_stn (by omega)]
  refine c_X7_compare ok hb ⟨_, _, e1, _, _, e2, ?_⟩
  simp only [c1]
  by_cases q : dG D o = dG D l
  · refine ⟨fun _ => ⟨hin, hin, ?_⟩, fun r => ?_⟩
    · have h := s2 (sj_st σ (b + 4) l (zOr true (σ (b + 4) l) o)) (n2 _)
      rw [n6, n9] at h
      have ec : zClash D l o = true := by unfold zClash; rw [decide_eq_true q.symm]; rfl
      unfold zCmp
      rw [ec, kl]
      exact h
    · rw [if_pos q] at r
      exact absurd r z_10
  · refine ⟨fun r => ?_, fun _ => ⟨_, _, e3, _, _, e4, fun _ => ⟨hin, hin⟩, ?_⟩⟩
    · rw [if_neg q] at r
      exact absurd nI_0 r
    · simp only [c2]
      unfold zCmp
      by_cases r : dTe D o = dTe D l
      · have h := s2 (sj_st σ (b + 4) l (zOr true (σ (b + 4) l) o)) (n2 _)
        rw [n6, n9] at h
        have ec : zClash D l o = true := by unfold zClash; rw [decide_eq_true r.symm, Bool.or_true]
        rw [ec, kl, if_pos r]
        exact h
      · have h := s2 σ rfl
        have ec : zClash D l o = false := by unfold zClash; rw [decide_eq_false (fun s => q s.symm), decide_eq_false (fun s => r s.symm)]; rfl
        have ez : sj_st σ (b + 4) l (zOr false (σ (b + 4) l) o) = σ := by unfold zOr; rw [if_neg (by decide), z_st_self]
        rw [ec, ez, if_neg r]
        exact h
/-! ### takeLesson -/
def zCmps (D : zD) (σ : sj_S) (b l : Nat) : Nat → sj_S
  | 0 => σ
  | o + 1 => if o = l then zCmps D σ b l o else zCmp D (zCmps D σ b l o) b l o
theorem zCmp_n {l o c : Nat} (h : c ≠ b + 4) (h2 : c ≠ b + 6) (h3 : c ≠ b + 9) : zCmp D σ b l o c = σ c := by
  unfold zCmp
  rw [z_stn h3, z_stn h2, z_stn h]
theorem zCmps_n {l c : Nat} (h : c ≠ b + 4) (h2 : c ≠ b + 6) (h3 : c ≠ b + 9) : ∀ o, zCmps D σ b l o c = σ c := by
  intro o
  induction o with
  | zero => rfl
  | succ o ih =>
    show (if o = l then zCmps D σ b l o else zCmp D (zCmps D σ b l o) b l o) c = σ c
    split
    · exact ih
    · rw [zCmp_n h h2 h3, ih]
theorem zCmp_i {l o c j : Nat} (h : j ≠ l) : zCmp D σ b l o c j = σ c j := by
  have e : ∀ (τ : sj_S) (a : Nat) (x : Int32), sj_st τ a l x c j = τ c j := fun τ a x => by
    by_cases q : c = a
    · subst q; exact z_sti h
    · rw [z_stn q]
  unfold zCmp
  rw [e, e, e]
theorem zCmps_i {l c j : Nat} (h : j ≠ l) : ∀ o, zCmps D σ b l o c j = σ c j := by
  intro o
  induction o with
  | zero => rfl
  | succ o ih =>
    show (if o = l then zCmps D σ b l o else zCmp D (zCmps D σ b l o) b l o) c j = σ c j
    split
    · exact ih
    · rw [zCmp_i h, ih]
theorem zCmps_bt {l : Nat} (h4 : σ (b + 4) l = nI 0) (h6 : σ (b + 6) l = nI 0) (h9 : σ (b + 9) l = nI 0) : ∀ o, o ≤ 31 → ∀ i, i < 32 →
    bt (zCmps D σ b l o (b + 4) l) i = (decide (i < o) && !decide (i = l) && zClash D l i) ∧ bt (zCmps D σ b l o (b + 6) l) i = (decide (i < o) && !decide (i = l) && zLike D l i) ∧ bt (zCmps D σ b l o (b + 9) l) i = (decide (i < o) && !decide (i = l) && (!decide (dKi D l = 0) && decide (dKi D i = dKi D l))) := by
  intro o
  induction o with
  | zero =>
    intro _ i hi
    show bt (σ (b + 4) l) i = _ ∧ bt (σ (b + 6) l) i = _ ∧ bt (σ (b + 9) l) i = _
    rw [h4, h6, h9, z_bn _ _ hi]
    simp
  | succ o ih =>
    intro ho i hi
    obtain ⟨i1, i2, i3⟩ := ih (by omega) i hi
    by_cases e : o = l
    · have eq : zCmps D σ b l (o + 1) = zCmps D σ b l o := if_pos e
      rw [eq, i1, i2, i3]
      have e2 : (decide (i < o) && !decide (i = l)) = (decide (i < o + 1) && !decide (i = l)) := by
        by_cases r : i = l
        · rw [decide_eq_true r]; simp
        · rw [decide_eq_false r]
          congr 1
          exact decide_eq_decide.mpr (by omega)
      rw [e2]
      exact ⟨rfl, rfl, rfl⟩
    · have eq : zCmps D σ b l (o + 1) = zCmp D (zCmps D σ b l o) b l o := if_neg e
      have e3 : ∀ (P : Nat → Bool), ((decide (i < o) && !decide (i = l) && P i) || (P o && decide (i = o))) = (decide (i < o + 1) && !decide (i = l) && P i) := by
        intro P
        by_cases r : i = o
        · subst r
          rw [decide_eq_false e, decide_eq_false (by omega), decide_eq_true (by omega : i < i + 1)]
          simp
        · rw [decide_eq_false r, Bool.and_false, Bool.or_false]
          congr 2
          exact decide_eq_decide.mpr (by omega)
      rw [eq]
      unfold zCmp
      refine ⟨?_, ?_, ?_⟩
      · rw [z_stn (by omega), z_stn (by omega), z_ste, zOr_bt (by omega) hi, i1]
        exact e3 (zClash D l)
      · rw [z_stn (by omega), z_ste, zOr_bt (by omega) hi, i2]
        exact e3 (zLike D l)
      · rw [z_ste, zOr_bt (by omega) hi, i3]
        exact e3 (fun i => !decide (dKi D l = 0) && decide (dKi D i = dKi D l))
def zTL0 (D : zD) (σ : sj_S) (b l : Nat) : sj_S :=
  let r : Int32 := if dKi D l = 0 then nI 9 else nI (dRo D (dKi D l - 1))
  sj_st (sj_st (sj_st (sj_st (sj_st (sj_st (sj_st (sj_st (sj_st (sj_st σ (b + 10) l r) (b + 2) l (if dDb D l = 1 then nI 3 else nI 1)) (b + 3) l (nI (dDb D l))) (b + 1) l (if r = 0 then nI 0 else if dDb D l = 1 then nI 489335 else nI 1048575)) (b + 4) l (nI 0)) (b + 5) l (nI 0)) (b + 6) l (nI 0)) (b + 7) l (nI 0)) (b + 8) l (nI 0)) (b + 9) l (nI 0)
def zTL (D : zD) (σ : sj_S) (b l : Nat) : sj_S := zCmps D (zTL0 D σ b l) b l (dN D)
theorem zTL_n {l c : Nat} (h : ∀ k, 1 ≤ k → k ≤ 10 → c ≠ b + k) : zTL D σ b l c = σ c := by
  unfold zTL
  rw [zCmps_n (h 4 (by decide) (by decide)) (h 6 (by decide) (by decide)) (h 9 (by decide) (by decide))]
  unfold zTL0
  rw [z_stn (h 9 (by decide) (by decide)), z_stn (h 8 (by decide) (by decide)), z_stn (h 7 (by decide) (by decide)), z_stn (h 6 (by decide) (by decide)), z_stn (h 5 (by decide) (by decide)), z_stn (h 4 (by decide) (by decide)), z_stn (h 1 (by decide) (by decide)), z_stn (h 3 (by decide) (by decide)), z_stn (h 2 (by decide) (by decide)), z_stn (h 10 (by decide) (by decide))]
theorem zTL_i {l c j : Nat} (h : j ≠ l) : zTL D σ b l c j = σ c j := by
  have e : ∀ (τ : sj_S) (a : Nat) (x : Int32), sj_st τ a l x c j = τ c j := fun τ a x => by
    by_cases q : c = a
    · subst q; exact z_sti h
    · rw [z_stn q]
  unfold zTL
  rw [zCmps_i h]
  unfold zTL0
  rw [e, e, e, e, e, e, e, e, e, e]
theorem z_takeLesson (ok : sj_ok G) (hC : repC D (σ 2)) (v : okD D) (hb : b = 6 ∨ b = 18) (h0 : σ b 0 = nI (dN D)) {l : Nat} (hl : l < dN D) : sj_C G 4 me_X7_takeLesson [.ref (sj_ad G b), .ref (sj_ad G 1), .int (nI l)] σ (.ok 0, zTL D σ b l) := by
  have h9 := v.1
  obtain ⟨-, -, -, g3, g4⟩ := hC.2.2.2.1 l hl
  obtain ⟨-, -, -, vk, vd⟩ := v.2.2.2.1 l hl
  have r3 := z_ofLesson (σ := σ) ok (l := l) (k := 3) (by omega) (by decide)
  have r4 := z_ofLesson (σ := σ) ok (l := l) (k := 4) (by omega) (by decide)
  rw [g3] at r3
  rw [g4] at r4
  have hin : vp_in (nI l) 9 := z_in (by omega) (by decide)
  have kl : (nI l).toNatClampNeg = l := nI_clamp (by omega)
  have ed : (if nI (dDb D l) = nI 1 then nI 1 else nI 0) = nI (dDb D l) := by
    rcases (by omega : dDb D l = 0 ∨ dDb D l = 1) with e | e <;> rw [e] <;> decide
  have ez : (nI (dDb D l) = 0) = (¬ dDb D l = 1) := by
    rcases (by omega : dDb D l = 0 ∨ dDb D l = 1) with e | e <;> rw [e] <;> simp <;> decide
  have loop : ∀ τ : sj_S, τ 2 = σ 2 → τ b 0 = nI (dN D) → sj_J G 4 me_X7_takeLesson (.ok 0, zCmps D τ b l (dN D)) 153 [.ref (sj_ad G b), .ref (sj_ad G 1), .int (nI l), .null, .null, .int (nI 0)] τ [] := by
    intro τ e2 e0
    have key : ∀ j i, i + j = dN D → sj_J G 4 me_X7_takeLesson (.ok 0, zCmps D τ b l (dN D)) 153 [.ref (sj_ad G b), .ref (sj_ad G 1), .int (nI l), .null, .null, .int (nI i)] (zCmps D τ b l i) [] := by
      intro j
      induction j with
      | zero =>
        intro i hi
        have : i = dN D := by omega
        subst this
        refine t_X7_takeLesson_153 hb ⟨fun _ => rfl, fun q => ?_⟩
        rw [zCmps_n (by omega) (by omega) (by omega), e0] at q
        exact absurd (nI_le (by omega) (by omega)) q
      | succ j ih =>
        intro i hi
        have h1 := ih (i + 1) (by omega)
        have hn : zCmps D τ b l (i + 1) = if i = l then zCmps D τ b l i else zCmp D (zCmps D τ b l i) b l i := rfl
        refine t_X7_takeLesson_153 hb ⟨fun q => ?_, fun _ => ⟨fun q => ?_, fun q => ⟨_, z_compare ok (by rw [zCmps_n (by omega) (by omega) (by omega), e2]; exact hC) v hb hl (by omega : i < dN D), ?_⟩⟩⟩
        · rw [zCmps_n (by omega) (by omega) (by omega), e0] at q
          exact absurd q (nI_ge (by omega) (by omega))
        · rw [nI_eq (by omega) (by omega)] at q
          rw [hn, if_pos q] at h1
          unfold wp_X7_takeLesson_176
          rw [nI_add]
          exact h1
        · rw [nI_eq (by omega) (by omega)] at q
          rw [hn, if_neg q] at h1
          unfold wp_X7_takeLesson_176
          rw [nI_add]
          exact h1
    exact key (dN D) 0 (by omega)
  have fin : ∀ r : Int32, r = (if dKi D l = 0 then nI 9 else nI (dRo D (dKi D l - 1))) → wp_X7_takeLesson_44 G (.ok 0, zTL D σ b l) b (nI l) (nI (dDb D l)) r (nI l) σ := by
    intro r er
    subst er
    unfold wp_X7_takeLesson_44 wp_X7_takeLesson_60 wp_X7_takeLesson_76 wp_X7_takeLesson_107
    refine ⟨hin, hin, hin, hin, hin, hin, hin, hin, hin, hin, hin, ?_⟩
    rw [kl]
    have hq := loop (zTL0 D σ b l) (by unfold zTL0; rw [z_stn (by omega), z_stn (by omega), z_stn (by omega), z_stn (by omega), z_stn (by omega), z_stn (by omega), z_stn (by omega), z_stn (by omega), z_stn (by omega), z_stn (by omega)]) (by unfold zTL0; rw [z_stn (by omega), z_stn (by omega), z_stn (by omega), z_stn (by omega), z_stn (by omega), z_stn (by omega), z_stn (by omega), z_stn (by omega), z_stn (by omega), z_stn (by omega)]; exact h0)
    have t1 : (if nI (dDb D l) = 0 then nI 1 else nI 3) = if dDb D l = 1 then nI 3 else nI 1 := by
      simp only [ez]
      by_cases q : dDb D l = 1 <;> simp [q]
    have t2 : (if nI (dDb D l) = 0 then nI 0 else nI 1) = nI (dDb D l) := by
      rcases (by omega : dDb D l = 0 ∨ dDb D l = 1) with e | e <;> rw [e] <;> decide
    have t3 : (if nI (dDb D l) = 0 then nI 1048575 else nI 489335) = if dDb D l = 1 then nI 489335 else nI 1048575 := by
      simp only [ez]
      by_cases q : dDb D l = 1 <;> simp [q]
    rw [t1, t2, t3, z_stn (by omega), z_stn (by omega), z_ste]
    exact hq
  refine c_X7_takeLesson ok hb ⟨_, _, r3, _, _, r4, ?_⟩
  rw [ed]
  refine ⟨fun q => ?_, fun q => ?_⟩
  · rw [zk_m1 vk] at q
    have er : zk (dKi D l) = nI (dKi D l - 1) := if_neg q
    have hr := z_roomsOf (σ := σ) ok (t := dKi D l - 1) (by omega)
    rw [(hC.2.2.2.2.2.2.1 (dKi D l - 1) (by omega))] at hr
    rw [er]
    exact ⟨_, _, hr, fin _ (by rw [if_neg q])⟩
  · rw [zk_m1 vk] at q
    exact fin _ (by rw [if_pos q])
theorem zTL_ru {H : Nat → Bool} (v : okD D) {l : Nat} (hl : l < dN D) : zRuL D H 0 (zTL D σ b l) b l := by
  have h9 := v.1
  obtain ⟨-, -, -, vk, vd⟩ := v.2.2.2.1 l hl
  have e0 : ∀ c, c ≠ b + 4 → c ≠ b + 6 → c ≠ b + 9 → zTL D σ b l c = zTL0 D σ b l c := fun c h1 h2 h3 => zCmps_n h1 h2 h3 _
  have hbt := zCmps_bt (D := D) (σ := zTL0 D σ b l) (b := b) (l := l) (by unfold zTL0; rw [z_stn (by omega), z_stn (by omega), z_stn (by omega), z_stn (by omega), z_stn (by omega), z_ste]) (by unfold zTL0; rw [z_stn (by omega), z_stn (by omega), z_stn (by omega), z_ste]) (by unfold zTL0; rw [z_ste]) (dN D) (by omega)
  have b0 : ∀ i, i < 32 → bt (nI 0) i = false := fun i hi => by rw [z_bn _ _ hi]; simp
  refine ⟨fun i hi => ?_, ?_, ?_, fun o ho => (hbt o ho).1, fun o ho => ?_, fun o ho => ?_, fun o ho => ?_, fun o ho => ?_, fun o ho => (hbt o ho).2.2, ?_⟩
  · rw [e0 _ (by omega) (by omega) (by omega)]
    unfold zTL0
    rw [z_stn (by omega), z_stn (by omega), z_stn (by omega), z_stn (by omega), z_stn (by omega), z_stn (by omega), z_ste]
    have m1 : ∀ i, i < 32 → bt (nI 489335) i = (decide (i < 20) && !decide (i % 4 = 3)) := by decide +kernel
    have m2 : ∀ i, i < 32 → bt (nI 1048575) i = decide (i < 20) := by decide +kernel
    have hq : (if dDb D l = 1 then nI 489335 else nI 1048575) = (if dDb D l = 1 then nI 489335 else nI 1048575) := rfl
    have hopen : bt (if dDb D l = 1 then nI 489335 else nI 1048575) i = (decide (i < 20) && !(decide (dDb D l = 1) && decide (i % 4 = 3))) := by
      by_cases q : dDb D l = 1
      · rw [if_pos q, m1 i hi, decide_eq_true q, Bool.true_and]
      · rw [if_neg q, m2 i hi, decide_eq_false q]; simp
    have hob : zOb D H l i 0 = ((decide (dKi D l = 0) || decide (0 < dRo D (dKi D l - 1))) && !(decide (dDb D l = 1) && decide (i % 4 = 3))) := by
      unfold zOb q_any
      simp
    rw [hob]
    by_cases q : dKi D l = 0
    · rw [if_pos q, if_neg (by decide), hopen, decide_eq_true q]; simp
    · rw [if_neg q, decide_eq_false q, Bool.false_or]
      have hr := v.2.2.2.2.2.2.1 (dKi D l - 1) (by omega)
      by_cases r : dRo D (dKi D l - 1) = 0
      · rw [r, if_pos nI_0, b0 i hi]; simp
      · rw [if_neg (by rw [z_eq0 (by omega)]; exact r), hopen, decide_eq_true (by omega : 0 < dRo D (dKi D l - 1))]; simp
  · rw [e0 _ (by omega) (by omega) (by omega)]
    unfold zTL0
    rw [z_stn (by omega), z_stn (by omega), z_stn (by omega), z_stn (by omega), z_stn (by omega), z_stn (by omega), z_stn (by omega), z_stn (by omega), z_ste]
  · rw [e0 _ (by omega) (by omega) (by omega)]
    unfold zTL0
    rw [z_stn (by omega), z_stn (by omega), z_stn (by omega), z_stn (by omega), z_stn (by omega), z_stn (by omega), z_stn (by omega), z_ste]
  · rw [e0 _ (by omega) (by omega) (by omega)]
    unfold zTL0
    rw [z_stn (by omega), z_stn (by omega), z_stn (by omega), z_stn (by omega), z_ste, b0 o ho]
    rfl
  · have h := (hbt o ho).2.1
    have ez : zWd D H 5 (zBoth l o) 0 = false := rfl
    rw [ez, Bool.or_false]
    exact h
  · rw [e0 _ (by omega) (by omega) (by omega)]
    unfold zTL0
    rw [z_stn (by omega), z_stn (by omega), z_ste, b0 o ho]
    rfl
  · rw [e0 _ (by omega) (by omega) (by omega)]
    unfold zTL0
    rw [z_stn (by omega), z_ste, b0 o ho]
    rfl
  · rw [e0 _ (by omega) (by omega) (by omega)]
    unfold zTL0
    rw [z_stn (by omega), z_stn (by omega), z_stn (by omega), z_stn (by omega), z_stn (by omega), z_stn (by omega), z_stn (by omega), z_stn (by omega), z_stn (by omega), z_ste]
theorem zRuL_of {H : Nat → Bool} {m l : Nat} {τ τ' : sj_S} (h : zRuL D H m τ b l) (e : ∀ k, 1 ≤ k → k ≤ 10 → τ' (b + k) l = τ (b + k) l) : zRuL D H m τ' b l := by
  unfold zRuL at h ⊢
  rw [e 1 (by decide) (by decide), e 2 (by decide) (by decide), e 3 (by decide) (by decide), e 4 (by decide) (by decide), e 5 (by decide) (by decide), e 6 (by decide) (by decide), e 7 (by decide) (by decide), e 8 (by decide) (by decide), e 9 (by decide) (by decide), e 10 (by decide) (by decide)]
  exact h
end ZRU
