/-! P59, THE LAW 1: its rows, next, isOn, holds, isRight, isGood -/
def lR (D : zD) (σ : sj_S) : Prop := σ 56 13 = nI (dN D) ∧ σ 56 14 = nI (dW D) ∧
  (∀ l, l < dN D → σ 57 l = nI (dG D l) ∧ σ 58 l = nI (dTe D l) ∧ σ 59 l = nI (dSu D l) ∧ σ 60 l = zk (dKi D l) ∧ σ 61 l = nI (1 + dDb D l)) ∧
  (∀ w, w < dW D → σ 63 w = nI (dSo D w) ∧ σ 64 w = nI (dA D w) ∧ σ 65 w = nI (dB D w) ∧ σ 66 w = nI (dWe D w)) ∧ ∀ k, k < 3 → σ 67 k = nI (dRo D k)
/-- the row at -/
def lA (D : zD) (T : Nat → Nat) (σ : sj_S) : Prop := ∀ l, l < dN D → σ 62 l = nI (T l) ∧ T l < 20
theorem lR_e {D : zD} {σ σ' : sj_S} (h : lR D σ) (e : ∀ b, b ∈ [57, 58, 59, 60, 61, 63, 64, 65, 66, 67] → σ' b = σ b) (e13 : σ' 56 13 = σ 56 13) (e14 : σ' 56 14 = σ 56 14) : lR D σ' := by
  unfold lR at h ⊢
  rw [e13, e14, e 57 (by decide), e 58 (by decide), e 59 (by decide), e 60 (by decide), e 61 (by decide), e 63 (by decide), e 64 (by decide), e 65 (by decide), e 66 (by decide), e 67 (by decide)]
  exact h
theorem lA_e {D : zD} {T : Nat → Nat} {σ σ' : sj_S} (h : lA D T σ) (e : σ' 62 = σ 62) : lA D T σ' := by
  unfold lA at h ⊢
  rw [e]
  exact h
theorem l_cex {p : Nat → Bool} : ∀ n, 0 < q_cnt p n → ∃ i, i < n ∧ p i = true := by
  intro n
  induction n with
  | zero => intro h; exact absurd h (Nat.lt_irrefl 0)
  | succ n ih =>
    intro h
    rw [q_cnt_s] at h
    cases hp : p n
    · rw [hp, if_neg (by decide)] at h
      obtain ⟨i, h1, h2⟩ := ih h
      exact ⟨i, by omega, h2⟩
    · exact ⟨n, by omega, hp⟩
section L1
variable {G : sj_G} {σ : sj_S} {D : zD} {T : Nat → Nat}
theorem l_word (y : Int32) : ∃ m, m < 2 ^ 20 ∧ (y.toUInt32 >>> ((nI 16).toUInt32 &&& Int32.toUInt32 31)).toInt32 = nI m := by
  obtain ⟨m, hm, em, -⟩ := z_word (z := (y.toUInt32 >>> ((nI 16).toUInt32 &&& Int32.toUInt32 31)).toInt32) (f := fun i => bt y (16 + i)) (fun i hi => by
    rw [b_ushr 16 (by decide)]
    by_cases h : i < 20
    · rw [decide_eq_true h]; rfl
    · rw [decide_eq_false h]
      show bt y (16 + i) = false
      exact BitVec.getLsbD_of_ge _ _ (by omega))
  exact ⟨m, hm, em⟩
theorem l_next (ok : sj_ok G) {n : Nat} (h0 : 0 < n) (hn : n < 2 ^ 20) : ∃ v x, v < n ∧ sj_C G 2 me_L_next [.ref (sj_ad G 56), .int (nI n)] σ (.ok (nI v), sj_st σ 56 0 x) := by
  obtain ⟨y, ey⟩ : ∃ y, y = ((σ 56 0) * (nI 1103515245)) + (nI 12345) := ⟨_, rfl⟩
  obtain ⟨m, hm, em⟩ := l_word y
  refine ⟨m % n, y, Nat.mod_lt _ h0, c_L_next ok ?_⟩
  unfold wp_L_next_0
  rw [← ey, em, z_rem (by omega) h0 (by omega)]
  exact ⟨nI_ne0 h0 (by omega), rfl⟩
theorem l_isOn (ok : sj_ok G) (v : okD D) (hL : lR D σ) (hA : lA D T σ) {l i : Nat} (hl : l < dN D) (hi : i < 2 ^ 20) : sj_C G 2 me_L_isOn [.ref (sj_ad G 56), .int (nI l), .int (nI i)] σ (.ok (if zTk D T l i then nI 1 else nI 0), σ) := by
  have h9 := v.1
  obtain ⟨-, -, -, -, vd⟩ := v.2.2.2.1 l hl
  obtain ⟨a1, a2⟩ := hA l hl
  obtain ⟨-, -, -, -, r5⟩ := hL.2.2.1 l hl
  have hin : vp_in (nI l) 9 := z_in (by omega) (by decide)
  have e : (if nI i < nI (T l) then nI 0 else if nI (T l + (1 + dDb D l)) ≤ nI i then nI 0 else nI 1) = (if zTk D T l i then nI 1 else nI 0) := by
    by_cases h1 : i < T l
    · rw [if_pos (nI_lt h1 (by omega)), if_neg (by rw [zTk_or]; omega)]
    · rw [if_neg (nI_nlt (by omega) (by omega))]
      by_cases h2 : T l + (1 + dDb D l) ≤ i
      · rw [if_pos (nI_le h2 (by omega)), if_neg (by rw [zTk_or]; omega)]
      · rw [if_neg (nI_ge (by omega) (by omega)), if_pos (by rw [zTk_or]; omega)]
  refine c_L_isOn ok ⟨hin, fun _ => ⟨hin, hin⟩, ?_⟩
  unfold wp_L_isOn_32
  rw [nI_clamp (by omega), a1, r5, nI_add, e]
  exact ⟨rfl, z_01 _⟩
theorem l_holdsW (ok : sj_ok G) (v : okD D) (hL : lR D σ) (hA : lA D T σ) {w : Nat} (hw : w < dW D) : sj_C G 3 me_L_holds [.ref (sj_ad G 56), .int (nI w)] σ (.ok (if zFul D T w then nI 1 else nI 0), σ) := by
  have h9 := v.1
  have h12 := v.2.1
  obtain ⟨w1, w2, w3, w4, w5, w6, w7⟩ := v.2.2.2.2.1 w hw
  obtain ⟨q1, q2, q3, q4⟩ := hL.2.2.2.1 w hw
  have hwi : vp_in (nI w) 12 := z_in (by omega) (by decide)
  have eqs : ∀ k, k < 8 → (nI (dSo D w) = nI k ↔ dSo D w = k) := fun k hk => nI_eq (by omega) (by omega)
  have eq0 : nI (dSo D w) = 0 ↔ dSo D w = 0 := by rw [← nI_0]; exact eqs 0 (by decide)
  -- behind the loop
  have fin : (dSo D w = 0 → zAny D 1 (dA D w) T (dB D w) (dN D) = false) → (dSo D w = 1 → zAny D 0 (dA D w) T (dB D w) (dN D) = false) → sj_J G 3 me_L_holds (.ok (if zFul D T w then nI 1 else nI 0), σ) 17 [.ref (sj_ad G 56), .int (nI w), .int (nI (dA D w)), .int (nI (dB D w)), .int (nI (dN D))] σ [] := by
    intro n0 n1
    refine t_L_holds_17 ⟨fun _ => ⟨hwi, ?_, ?_⟩, fun q => ?_⟩
    · rw [nI_clamp (by omega), q1]
      intro h2
      have h2 : 2 ≤ dSo D w := by
        by_cases e : 2 ≤ dSo D w
        · exact e
        · exact absurd h2 (nI_ge (by omega) (by decide))
      refine ⟨hwi, fun n2 => ⟨hwi, fun n3 => ?_, fun e3 => ?_⟩, fun e2 => ?_⟩
      · have n2' : ¬ dSo D w = 2 := fun e => n2 ((eqs 2 (by decide)).mpr e)
        have n3' : ¬ dSo D w = 3 := fun e => n3 ((eqs 3 (by decide)).mpr e)
        obtain ⟨wa, wb, wc⟩ := w7 (by omega)
        have ia : vp_in (nI (dA D w)) 9 := z_in (by omega) (by decide)
        have ib : vp_in (nI (dB D w)) 9 := z_in (by omega) (by decide)
        obtain ⟨a1, a2⟩ := hA _ wa
        obtain ⟨b1, b2⟩ := hA _ wb
        refine ⟨hwi, fun _ => hwi, fun _ _ => ⟨ia, ib⟩, fun _ _ => ⟨ia, ib⟩, fun _ => ⟨ia, ib⟩, ?_⟩
        unfold wp_L_holds_255
        rw [nI_clamp (by omega), nI_clamp (by omega), a1, b1, pk_div (by omega) (by decide) (by decide), pk_div (by omega) (by decide) (by decide)]
        have e : (if nI (dSo D w) = nI 4 then (if nI (T (dA D w) / 4) = nI (T (dB D w) / 4) then nI 1 else nI 0) else (if nI (dSo D w) = nI 5 then (if nI (T (dA D w) / 4) = nI (T (dB D w) / 4) then nI 0 else nI 1) else (if nI (T (dB D w)) ≤ nI (T (dA D w)) then nI 0 else nI 1))) = (if zFul D T w then nI 1 else nI 0) := by
          have ez : zFul D T w = (if dSo D w = 4 then decide (T (dA D w) / 4 = T (dB D w) / 4) else if dSo D w = 5 then !decide (T (dA D w) / 4 = T (dB D w) / 4) else decide (T (dA D w) < T (dB D w))) := by
            unfold zFul
            rw [if_neg (show ¬ dSo D w = 0 by omega), if_neg (show ¬ dSo D w = 1 by omega), if_neg n2', if_neg n3']
          rw [ez]
          by_cases e4 : dSo D w = 4
          · rw [if_pos ((eqs 4 (by decide)).mpr e4), if_pos e4]
            by_cases e : T (dA D w) / 4 = T (dB D w) / 4
            · rw [if_pos (by rw [e]), decide_eq_true e]; rfl
            · rw [if_neg (fun q => e ((nI_eq (by omega) (by omega)).mp q)), decide_eq_false e]; rfl
          · rw [if_neg (fun q => e4 ((eqs 4 (by decide)).mp q)), if_neg e4]
            by_cases e5 : dSo D w = 5
            · rw [if_pos ((eqs 5 (by decide)).mpr e5), if_pos e5]
              by_cases e : T (dA D w) / 4 = T (dB D w) / 4
              · rw [if_pos (by rw [e]), decide_eq_true e]; rfl
              · rw [if_neg (fun q => e ((nI_eq (by omega) (by omega)).mp q)), decide_eq_false e]; rfl
            · rw [if_neg (fun q => e5 ((eqs 5 (by decide)).mp q)), if_neg e5]
              by_cases e : T (dA D w) < T (dB D w)
              · rw [if_neg (nI_ge e (by omega)), decide_eq_true e]; rfl
              · rw [if_pos (nI_le (by omega) (by omega)), decide_eq_false e]; rfl
        rw [e]
        exact ⟨rfl, z_01 _⟩
      · have e3' : dSo D w = 3 := (eqs 3 (by decide)).mp e3
        obtain ⟨wa, wb⟩ := w6 e3'
        obtain ⟨a1, a2⟩ := hA _ wa
        refine ⟨z_in (by omega) (by decide), ?_⟩
        unfold wp_L_holds_160
        rw [nI_clamp (by omega), a1]
        have e : (if nI (T (dA D w)) = nI (dB D w) then nI 1 else nI 0) = (if zFul D T w then nI 1 else nI 0) := by
          have ez : zFul D T w = decide (T (dA D w) = dB D w) := by
            unfold zFul
            rw [if_neg (show ¬ dSo D w = 0 by omega), if_neg (show ¬ dSo D w = 1 by omega), if_neg (show ¬ dSo D w = 2 by omega), if_pos e3']
          rw [ez]
          by_cases e : T (dA D w) = dB D w
          · rw [if_pos (by rw [e]), decide_eq_true e]; rfl
          · rw [if_neg (fun q => e ((nI_eq (by omega) (by omega)).mp q)), decide_eq_false e]; rfl
        rw [e]
        exact ⟨rfl, z_01 _⟩
      · have e2' : dSo D w = 2 := (eqs 2 (by decide)).mp e2
        obtain ⟨wa, wb⟩ := w5 e2'
        obtain ⟨a1, a2⟩ := hA _ wa
        refine ⟨z_in (by omega) (by decide), ?_⟩
        unfold wp_L_holds_134
        rw [nI_clamp (by omega), a1, pk_div (by omega) (by decide) (by decide)]
        have e : (if nI (T (dA D w) / 4) = nI (dB D w) then nI 0 else nI 1) = (if zFul D T w then nI 1 else nI 0) := by
          have ez : zFul D T w = !decide (T (dA D w) / 4 = dB D w) := by
            unfold zFul
            rw [if_neg (show ¬ dSo D w = 0 by omega), if_neg (show ¬ dSo D w = 1 by omega), if_pos e2']
          rw [ez]
          by_cases e : T (dA D w) / 4 = dB D w
          · rw [if_pos (by rw [e]), decide_eq_true e]; rfl
          · rw [if_neg (fun q => e ((nI_eq (by omega) (by omega)).mp q)), decide_eq_false e]; rfl
        rw [e]
        exact ⟨rfl, z_01 _⟩
    · rw [nI_clamp (by omega), q1]
      intro h2
      have h2 : dSo D w < 2 := by
        by_cases e : 2 ≤ dSo D w
        · exact absurd (nI_le e (by omega)) h2
        · omega
      have e : zFul D T w = true := by
        unfold zFul
        by_cases e0 : dSo D w = 0
        · rw [if_pos e0, n0 e0]; rfl
        · rw [if_neg e0, if_pos (by omega), n1 (by omega)]; rfl
      rw [e]; rfl
    · rw [hL.1] at q
      exact absurd (nI_le (Nat.le_refl _) (by omega)) q
  have key : ∀ k l, l + k = dN D → (dSo D w = 0 → ∀ o, o < l → dTe D o = dA D w → zTk D T o (dB D w) = false) → (dSo D w = 1 → ∀ o, o < l → dG D o = dA D w → zTk D T o (dB D w) = false) →
      sj_J G 3 me_L_holds (.ok (if zFul D T w then nI 1 else nI 0), σ) 17 [.ref (sj_ad G 56), .int (nI w), .int (nI (dA D w)), .int (nI (dB D w)), .int (nI l)] σ [] := by
    intro k
    induction k with
    | zero =>
      intro l hl h0 h1
      obtain rfl : l = dN D := by omega
      refine fin (fun e => ?_) (fun e => ?_)
      · cases q : zAny D 1 (dA D w) T (dB D w) (dN D)
        · rfl
        · obtain ⟨o, o1, o2, o3⟩ := (zAny_iff _).mp q
          rw [h0 e o o1 o2] at o3
          cases o3
      · cases q : zAny D 0 (dA D w) T (dB D w) (dN D)
        · rfl
        · obtain ⟨o, o1, o2, o3⟩ := (zAny_iff _).mp q
          rw [h1 e o o1 o2] at o3
          cases o3
    | succ k ih =>
      intro l hl h0 h1
      have hlN : l < dN D := by omega
      obtain ⟨r1, r2, -, -, -⟩ := hL.2.2.1 l hlN
      obtain ⟨g4, t6, -, -, -⟩ := v.2.2.2.1 l hlN
      have hli : vp_in (nI l) 9 := z_in (by omega) (by decide)
      have hB : dB D w < 2 ^ 20 := by
        by_cases q0 : dSo D w = 0
        · have := (w3 q0).2; omega
        · by_cases q1 : dSo D w = 1
          · have := (w4 q1).2; omega
          · by_cases q2 : dSo D w = 2
            · have := (w5 q2).2; omega
            · by_cases q3 : dSo D w = 3
              · have := (w6 q3).2; omega
              · have := (w7 (by omega)).2.1; omega
      have hAb : dA D w < 2 ^ 20 := by
        by_cases q0 : dSo D w = 0
        · have := (w3 q0).1; omega
        · by_cases q1 : dSo D w = 1
          · have := (w4 q1).1; omega
          · by_cases q2 : dSo D w = 2
            · have := (w5 q2).1; omega
            · by_cases q3 : dSo D w = 3
              · have := (w6 q3).1; omega
              · have := (w7 (by omega)).1; omega
      have hon := l_isOn (σ := σ) ok v hL hA hlN hB
      have on : (dSo D w = 0 → dTe D l = dA D w → zTk D T l (dB D w) = false) → (dSo D w = 1 → dG D l = dA D w → zTk D T l (dB D w) = false) → wp_L_holds_89 G (.ok (if zFul D T w then nI 1 else nI 0), σ) (nI w) (nI (dA D w)) (nI (dB D w)) (nI l) σ := fun g0 g1 => by
        unfold wp_L_holds_89
        rw [nI_add]
        refine ih (l + 1) (by omega) (fun e o ho => ?_) (fun e o ho => ?_)
        · by_cases q : o = l
          · rw [q]; exact g0 e
          · exact h0 e o (by omega)
        · by_cases q : o = l
          · rw [q]; exact g1 e
          · exact h1 e o (by omega)
      have hit : ∀ b, (b = 1 ∧ dSo D w = 0 ∧ dTe D l = dA D w) ∨ (b = 0 ∧ dSo D w = 1 ∧ dG D l = dA D w) → zTk D T l (dB D w) = true → wp_L_holds_87 G (.ok (if zFul D T w then nI 1 else nI 0), σ) σ := fun b hb ht => by
        have e : zFul D T w = false := by
          unfold zFul
          rcases hb with ⟨-, e0, e1⟩ | ⟨-, e0, e1⟩
          · rw [if_pos e0, (zAny_iff (D := D) (b := 1) (p := dA D w) (T := T) (i := dB D w) (dN D)).mpr ⟨l, hlN, (show dP D 1 l = dA D w from e1), ht⟩]; rfl
          · rw [if_neg (by omega), if_pos e0, (zAny_iff (D := D) (b := 0) (p := dA D w) (T := T) (i := dB D w) (dN D)).mpr ⟨l, hlN, (show dP D 0 l = dA D w from e1), ht⟩]; rfl
        unfold wp_L_holds_87
        rw [e]; rfl
      have w56 : (dSo D w = 0 → dTe D l = dA D w → zTk D T l (dB D w) = false) → wp_L_holds_56 G (.ok (if zFul D T w then nI 1 else nI 0), σ) (nI w) (nI (dA D w)) (nI (dB D w)) (nI l) σ := fun g0 => by
        refine ⟨hwi, ?_, ?_⟩
        · rw [nI_clamp (by omega), q1]
          exact fun q => on g0 (fun e => absurd ((eqs 1 (by decide)).mpr e) q)
        · rw [nI_clamp (by omega), nI_clamp (by omega), q1, r1]
          intro e
          have e1 := (eqs 1 (by decide)).mp e
          refine ⟨hli, fun q => on g0 (fun _ e => absurd (by rw [e]) q), fun q => ?_⟩
          have hg := (nI_eq (by omega) (by omega)).mp q
          cases ht : zTk D T l (dB D w)
          · rw [ht] at hon
            exact ⟨_, _, hon, fun _ => on g0 (fun _ _ => ht), fun q => absurd z_00 q⟩
          · rw [ht] at hon
            exact ⟨_, _, hon, fun q => absurd q z_10, fun _ => hit 0 (Or.inr ⟨rfl, e1, hg⟩) ht⟩
      refine t_L_holds_17 ⟨fun q => ?_, fun _ => ⟨hwi, ?_, ?_⟩⟩
      · rw [hL.1] at q
        exact absurd q (nI_ge (by omega) (by omega))
      · rw [nI_clamp (by omega), q1]
        exact fun q => w56 (fun e => absurd (eq0.mpr e) q)
      · rw [nI_clamp (by omega), nI_clamp (by omega), q1, r2]
        intro e
        have e0 := eq0.mp e
        refine ⟨hli, fun q => w56 (fun _ e => absurd (by rw [e]) q), fun q => ?_⟩
        have hg := (nI_eq (by omega) (by omega)).mp q
        cases ht : zTk D T l (dB D w)
        · rw [ht] at hon
          exact ⟨_, _, hon, fun q => absurd z_00 q, fun _ => w56 (fun _ _ => ht)⟩
        · rw [ht] at hon
          exact ⟨_, _, hon, fun _ => hit 1 (Or.inl ⟨rfl, e0, hg⟩) ht, fun q => absurd q z_10⟩
  refine c_L_holds ok ⟨hwi, hwi, ?_⟩
  rw [nI_clamp (by omega), q2, q3]
  exact key (dN D) 0 (by omega) (fun _ o ho => absurd ho (Nat.not_lt_zero o)) (fun _ o ho => absurd ho (Nat.not_lt_zero o))
end L1
