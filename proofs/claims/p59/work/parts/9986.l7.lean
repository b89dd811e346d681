/-! P59, THE LAW 7: substitutes -/
/-- the law's row of those who are ill -/
def lI (D : zD) (σ : sj_S) : Prop := ∀ t d, t < 6 → d < 5 → σ 68 (5 * t + d) = if (dIll D t).testBit d then nI 1 else nI 0
theorem z_setNb5t : ∀ x, x < 32 → ∀ d, d < 5 → ∀ o, o < 5 → (zSetN x d true).testBit o = if o = d then true else x.testBit o := by decide +kernel
theorem z_setNb5f : ∀ x, x < 32 → ∀ d, d < 5 → ∀ o, o < 5 → (zSetN x d false).testBit o = if o = d then false else x.testBit o := by decide +kernel
theorem z_setNb5 {x d o : Nat} (hx : x < 32) (hd : d < 5) (ho : o < 5) (b : Bool) : (zSetN x d b).testBit o = if o = d then b else x.testBit o := by
  cases b
  · exact z_setNb5f x hx d hd o ho
  · exact z_setNb5t x hx d hd o ho
theorem zSm_eq {f : Nat → Nat} : ∀ k i a, zSm f k i a = a + zSumN (fun j => f (i + j)) k := by
  intro k
  induction k with
  | zero => intro i a; rfl
  | succ k ih =>
    intro i a
    have hs : ∀ k, zSumN (fun j => f (i + j)) (k + 1) = f i + zSumN (fun j => f (i + 1 + j)) k := by
      intro k
      induction k with
      | zero => show 0 + f (i + 0) = f i + 0; rw [Nat.add_zero]; omega
      | succ k ihk =>
        show zSumN (fun j => f (i + j)) (k + 1) + f (i + (k + 1)) = f i + (zSumN (fun j => f (i + 1 + j)) k + f (i + 1 + k))
        rw [ihk, show i + (k + 1) = i + 1 + k by omega]
        omega
    show zSm f k (i + 1) (a + f i) = _
    rw [ih, hs]
    omega
/-- the plan of a slot -/
abbrev lC (D : zD) (T : Nat → Nat) (s : Nat) : Nat → Nat → Bool := zCC D T s
abbrev lG (D : zD) (T : Nat → Nat) (s : Nat) : Nat → Nat := zGg (zCC D T s) (zNm9 D T s)
theorem zNe_o {D : zD} {T : Nat → Nat} {s l : Nat} (h : dN D ≤ l) : zNe D T s l = false := by
  unfold zNe
  rw [decide_eq_false (by omega)]; rfl
theorem zNe_9 {D : zD} {T : Nat → Nat} {s : Nat} (h9 : dN D ≤ 9) : q_cnt (zNe D T s) (dN D) = zNm9 D T s := by
  have h : ∀ k, q_cnt (zNe D T s) (dN D + k) = q_cnt (zNe D T s) (dN D) := by
    intro k
    induction k with
    | zero => rfl
    | succ k ih =>
      rw [← Nat.add_assoc, q_cnt_s, ih, zNe_o (by omega)]
      rfl
  unfold zNm9
  rw [← h (9 - dN D), show dN D + (9 - dN D) = 9 by omega]
theorem q_cnt_lt {P : Nat → Bool} {i n : Nat} (hi : i < n) (hp : P i = true) : q_cnt P i < q_cnt P n := by
  have h := q_cnt_mono (S := P) (i := i + 1) n (by omega)
  rw [q_cnt_s, hp, if_pos rfl] at h
  omega
/-- with all teachers knowing all subjects -/
theorem lCap {D : zD} {T : Nat → Nat} {s l t : Nat} (v : okD D) (hTc : ∀ t, t < 6 → dTch D t = 63) (hl : l < dN D) (ht : t < 6) : zCap D T s l t = zFit D T s t := by
  have h6 : ∀ s, s < 6 → (63 : Nat).testBit s = true := by decide
  unfold zCap
  rw [hTc t ht, h6 _ (v.2.2.2.1 l hl).2.2.1, Bool.true_and]
theorem lCt_sum {f : Nat → Nat} : ∀ m k, zSumN (fun t => q_cnt (fun i => decide (f i = t)) m) k = q_cnt (fun i => decide (f i < k)) m := by
  intro m
  induction m with
  | zero =>
    intro k
    induction k with
    | zero => rfl
    | succ k ih => show zSumN _ k + 0 = 0; rw [ih]; rfl
  | succ m ihm =>
    intro k
    have hs : ∀ k, zSumN (fun t => q_cnt (fun i => decide (f i = t)) (m + 1)) k = zSumN (fun t => q_cnt (fun i => decide (f i = t)) m) k + (if f m < k then 1 else 0) := by
      intro k
      induction k with
      | zero => rfl
      | succ k ih =>
        show zSumN (fun t => q_cnt (fun i => decide (f i = t)) (m + 1)) k + q_cnt (fun i => decide (f i = k)) (m + 1) = zSumN (fun t => q_cnt (fun i => decide (f i = t)) m) k + q_cnt (fun i => decide (f i = k)) m + _
        rw [ih, q_cnt_s]
        by_cases e : f m = k
        · rw [decide_eq_true e, if_pos rfl, if_neg (by omega : ¬ f m < k), if_pos (by omega : f m < k + 1)]
          omega
        · rw [decide_eq_false e, if_neg (by decide : ¬ (false = true))]
          by_cases q : f m < k
          · rw [if_pos q, if_pos (by omega : f m < k + 1)]
            omega
          · rw [if_neg q, if_neg (by omega : ¬ f m < k + 1)]
            omega
    rw [hs, ihm, q_cnt_s]
    by_cases q : f m < k
    · rw [if_pos q, decide_eq_true q, if_pos rfl]
    · rw [if_neg q, decide_eq_false q, if_neg (by decide)]
theorem lTakes {D : zD} {T : Nat → Nat} {s : Nat} : zSumN (fun t => zTq D T t s) 6 = zSv2 D T s := by
  have e : zSumN (fun t => zTq D T t s) 6 = zSumN (fun t => q_cnt (fun i => decide (lG D T s i = t)) (zNm9 D T s)) 6 := zSumN_congr 6 (fun t ht => (zTakes1 ht (zNm9 D T s)).symm)
  rw [e, lCt_sum]
  exact zCt_m
theorem lSum_swap {f : Nat → Nat → Nat} : ∀ n m, zSumN (fun t => zSumN (fun s => f t s) n) m = zSumN (fun s => zSumN (fun t => f t s) m) n := by
  intro n m
  induction m with
  | zero =>
    induction n with
    | zero => rfl
    | succ n ih => show 0 = _ + 0; rw [← ih]; rfl
  | succ m ih =>
    have h : ∀ n, zSumN (fun s => zSumN (fun t => f t s) (m + 1)) n = zSumN (fun s => zSumN (fun t => f t s) m) n + zSumN (fun s => f m s) n := by
      intro n
      induction n with
      | zero => rfl
      | succ n ihn =>
        show zSumN (fun s => zSumN (fun t => f t s) (m + 1)) n + (zSumN (fun t => f t n) m + f m n) = zSumN (fun s => zSumN (fun t => f t s) m) n + zSumN (fun t => f t n) m + (zSumN (fun s => f m s) n + f m n)
        rw [ihn]
        omega
    show zSumN (fun t => zSumN (fun s => f t s) n) m + zSumN (fun s => f m s) n = _
    rw [ih, h]
section L7
variable {G : sj_G} {σ : sj_S} {D : zD} {T : Nat → Nat}
theorem l_canTake (ok : sj_ok G) (v : okD D) (hL : lR D σ) (hA : lA D T σ) (hI : lI D σ) {t s : Nat} (ht : t < 6) (hs : s < 20) : sj_C G 3 me_L_canTake [.ref (sj_ad G 56), .int (nI t), .int (nI s)] σ (.ok (if zFit D T s t then nI 1 else nI 0), σ) := by
  have h9 := v.1
  have ecell : nI 5 * nI t + nI s / nI 4 = nI (5 * t + s / 4) := by rw [pk_mul, pk_div (by omega) (by decide) (by decide), nI_add]
  have hcell := hI t (s / 4) ht (by omega)
  have key : (dIll D t).testBit (s / 4) = false → ∀ k l, l + k = dN D → zAny D 1 t T s l = false → sj_J G 3 me_L_canTake (.ok (if zFit D T s t then nI 1 else nI 0), σ) 19 [.ref (sj_ad G 56), .int (nI t), .int (nI s), .int (nI l)] σ [] := by
    intro hi k
    induction k with
    | zero =>
      intro l hl ha
      obtain rfl : l = dN D := by omega
      refine t_L_canTake_19 ⟨fun _ => ?_, fun q => ?_⟩
      · have e : zFit D T s t = true := by
          unfold zFit
          rw [ha, hi]; rfl
        rw [e]; rfl
      · rw [hL.1] at q
        exact absurd (nI_le (Nat.le_refl _) (by omega)) q
    | succ k ih =>
      intro l hl ha
      have hlN : l < dN D := by omega
      obtain ⟨-, c2, -, -, -⟩ := hL.2.2.1 l hlN
      have t6 := (v.2.2.2.1 l hlN).2.1
      have ez : zAny D 1 t T s (l + 1) = (zAny D 1 t T s l || (decide (dTe D l = t) && zTk D T l s)) := rfl
      have on : (decide (dTe D l = t) && zTk D T l s) = false → wp_L_canTake_48 G (.ok (if zFit D T s t then nI 1 else nI 0), σ) (nI t) (nI s) (nI l) σ := fun q => by
        unfold wp_L_canTake_48
        rw [nI_add]
        exact ih (l + 1) (by omega) (by rw [ez, ha, q]; rfl)
      refine t_L_canTake_19 ⟨fun q => ?_, fun _ => ⟨z_in (by omega) (by decide), ?_, ?_⟩⟩
      · rw [hL.1] at q
        exact absurd q (nI_ge (by omega) (by omega))
      · rw [nI_clamp (by omega), c2]
        exact fun q => on (by rw [decide_eq_false (fun e => q (by rw [e]))]; rfl)
      · rw [nI_clamp (by omega), c2]
        intro q
        have e := (nI_eq (by omega) (by omega)).mp q
        have hon := l_isOn (σ := σ) ok v hL hA hlN (by omega : s < 2 ^ 20)
        cases hk : zTk D T l s
        · rw [hk] at hon
          exact ⟨_, _, hon, fun _ => on (by rw [hk, Bool.and_false]), fun q => absurd z_00 q⟩
        · rw [hk] at hon
          refine ⟨_, _, hon, fun q => absurd q z_10, fun _ => ?_⟩
          have e2 : zFit D T s t = false := by
            unfold zFit
            rw [(zAny_iff (D := D) (b := 1) (p := t) (T := T) (i := s) (dN D)).mpr ⟨l, hlN, (show dP D 1 l = t from e), hk⟩, Bool.not_true, Bool.false_and]
          rw [e2]; rfl
  refine c_L_canTake ok ?_
  unfold wp_L_canTake_0
  rw [ecell, nI_clamp (by omega), hcell]
  refine ⟨z_in (by omega) (by decide), fun q => ?_, fun q => ?_⟩
  · cases hi : (dIll D t).testBit (s / 4)
    · exact key hi (dN D) 0 (by omega) rfl
    · rw [hi] at q
      exact absurd q z_10
  · cases hi : (dIll D t).testBit (s / 4)
    · rw [hi] at q
      exact absurd nI_0 q
    · have e : zFit D T s t = false := by
        unfold zFit
        rw [hi]
        simp
      rw [e]; rfl
theorem l_mostOf (ok : sj_ok G) (v : okD D) (hTc : ∀ t, t < 6 → dTch D t = 63) (hL : lR D σ) (hA : lA D T σ) (hI : lI D σ) {s : Nat} (hs : s < 20) : ∀ n l dep u (S : Nat → Bool), l + n = dN D → n + 12 ≤ dep → u < 64 → (∀ t, t < 6 → S t = !u.testBit t) →
    sj_C G dep me_L_mostOf [.ref (sj_ad G 56), .int (nI s), .int (nI l), .int (nI u)] σ (.ok (nI (zMx (zCC D T s) (zNm9 D T s - q_cnt (zNe D T s) l) (q_cnt (zNe D T s) l) S)), σ) := by
  have h9 := v.1
  intro n
  induction n with
  | zero =>
    intro l dep u S hl hd hu hS
    obtain rfl : l = dN D := by omega
    refine c_L_mostOf (dd := dep - 1) ok (by omega) (by omega) ⟨fun q => ?_, fun _ => ?_⟩
    · rw [hL.1] at q
      exact absurd rfl q
    · rw [zNe_9 h9, Nat.sub_self]
      rfl
  | succ n ih =>
    intro l dep u S hl hd hu hS
    have hlN : l < dN D := by omega
    obtain ⟨-, c2, -, -, -⟩ := hL.2.2.1 l hlN
    have t6 := (v.2.2.2.1 l hlN).2.1
    have ecell : nI 5 * nI (dTe D l) + nI s / nI 4 = nI (5 * dTe D l + s / 4) := by rw [pk_mul, pk_div (by omega) (by decide) (by decide), nI_add]
    have hcell := hI (dTe D l) (s / 4) t6 (by omega)
    have hon := l_isOn (σ := σ) ok v hL hA hlN (by omega : s < 2 ^ 20)
    have hrec := ih (l + 1) (dep - 1) u S (by omega) (by omega) hu hS
    have hne : zNe D T s l = (zTk D T l s && (dIll D (dTe D l)).testBit (s / 4)) := by
      unfold zNe
      rw [decide_eq_true hlN, Bool.true_and]
    have enext : q_cnt (zNe D T s) (l + 1) = q_cnt (zNe D T s) l + (if zNe D T s l then 1 else 0) := rfl
    have hml : ¬ nI l = σ 56 13 := by
      rw [hL.1]
      exact fun q => absurd ((nI_eq (by omega) (by omega)).mp q) (by omega)
    cases hz : zNe D T s l
    · -- not needed
      rw [hz, if_neg (by decide), Nat.add_zero] at enext
      rw [enext] at hrec
      refine c_L_mostOf (dd := dep - 1) ok (by omega) (by omega) ⟨fun _ => ?_, fun q => absurd q hml⟩
      rw [nI_add]
      refine ⟨_, _, hrec, _, _, hon, fun _ => rfl, fun q => ⟨z_in (by omega) (by decide), ?_⟩⟩
      rw [nI_clamp (by omega), c2, ecell, nI_clamp (by omega), hcell]
      have hk : zTk D T l s = true := by
        cases hk : zTk D T l s
        · rw [hk] at q; exact absurd nI_0 q
        · rfl
      rw [hne, hk, Bool.true_and] at hz
      rw [hz]
      exact ⟨z_in (by omega) (by decide), fun q => absurd nI_0 q, fun _ => rfl⟩
    · -- needed
      rw [hz, if_pos rfl] at enext
      rw [enext] at hrec
      have hidx := q_cnt_lt (P := zNe D T s) (n := dN D) hlN hz
      rw [zNe_9 h9] at hidx
      generalize eidx : q_cnt (zNe D T s) l = idx at *
      obtain ⟨m', em⟩ : ∃ m', zNm9 D T s - idx = m' + 1 := ⟨zNm9 D T s - idx - 1, by omega⟩
      rw [show zNm9 D T s - (idx + 1) = m' by omega] at hrec
      rw [em, zMx_s]
      rw [hne, Bool.and_eq_true] at hz
      have hz2 : zNe D T s l = true := by rw [hne, hz.1, hz.2]; rfl
      have hm9 : zNm9 D T s ≤ 9 := q_cnt_le _ 9
      have loop : ∀ k t a, t + k = 6 → a ≤ 10 → sj_J G dep me_L_mostOf (.ok (nI (zMf (zMxV (zCC D T s) S idx (zMx (zCC D T s) m' (idx + 1))) k t a)), σ) 56 [.ref (sj_ad G 56), .int (nI s), .int (nI l), .int (nI u), .int (nI a), .int (nI t)] σ [] := by
        intro k
        induction k with
        | zero =>
          intro t a ht ha
          obtain rfl : t = 6 := by omega
          exact t_L_mostOf_56 (dd := dep - 1) (by omega) (by omega) ⟨fun _ => rfl, fun q => absurd (nI_le (Nat.le_refl 6) (by decide)) q⟩
        | succ k ihk =>
          intro t a ht ha
          have ht6 : t < 6 := by omega
          have hbit : (((nI u >>> (nI t &&& 31)) &&& nI 1) = 0) ↔ u.testBit t = false := by rw [z_bit (by omega), z_bn _ _ (by omega)]
          have ev : ∀ x, zMxV (zCC D T s) S idx (zMx (zCC D T s) m' (idx + 1)) t = x → sj_J G dep me_L_mostOf (.ok (nI (zMf (zMxV (zCC D T s) S idx (zMx (zCC D T s) m' (idx + 1))) k (t + 1) (if a < x then x else a))), σ) 56 [.ref (sj_ad G 56), .int (nI s), .int (nI l), .int (nI u), .int (nI (if a < x then x else a)), .int (nI (t + 1))] σ [] → sj_J G dep me_L_mostOf (.ok (nI (zMf (zMxV (zCC D T s) S idx (zMx (zCC D T s) m' (idx + 1))) k (t + 1) (if a < zMxV (zCC D T s) S idx (zMx (zCC D T s) m' (idx + 1)) t then zMxV (zCC D T s) S idx (zMx (zCC D T s) m' (idx + 1)) t else a))), σ) 56 [.ref (sj_ad G 56), .int (nI s), .int (nI l), .int (nI u), .int (nI (if a < x then x else a)), .int (nI (t + 1))] σ [] := fun x hx h => by rw [hx]; exact h
          have skip : zMxV (zCC D T s) S idx (zMx (zCC D T s) m' (idx + 1)) t = 0 → wp_L_mostOf_105 G (.ok (nI (zMf (zMxV (zCC D T s) S idx (zMx (zCC D T s) m' (idx + 1))) (k + 1) t a)), σ) dep (dep - 1) (nI s) (nI l) (nI u) (nI a) (nI t) σ := fun h0 => by
            have h := ev 0 h0 (ihk (t + 1) _ (by omega) (by rw [if_neg (Nat.not_lt_zero a)]; exact ha))
            rw [if_neg (Nat.not_lt_zero a)] at h
            unfold wp_L_mostOf_105
            rw [nI_add]
            exact h
          have hct := l_canTake (σ := σ) ok v hL hA hI ht6 hs
          have hcap : zCC D T s idx t = zFit D T s t := by
            rw [← eidx, zCC_eq (by omega) hz2, lCap v hTc hlN ht6]
          refine t_L_mostOf_56 (dd := dep - 1) (by omega) (by omega) ⟨fun q => absurd q (nI_ge (by omega) (by decide)), fun _ => ⟨fun q => skip ?_, fun q => ⟨_, _, hct, fun q2 => skip ?_, fun q2 => ?_⟩⟩⟩
          · unfold zMxV
            rw [hS t ht6]
            cases hb : u.testBit t
            · exact absurd (hbit.mpr hb) q
            · rfl
          · unfold zMxV
            rw [hcap]
            cases hf : zFit D T s t
            · rw [Bool.and_false]; rfl
            · rw [hf] at q2
              exact absurd q2 z_10
          · have hf : zFit D T s t = true := by
              cases hf : zFit D T s t
              · rw [hf] at q2; exact absurd nI_0 q2
              · rfl
            have hb := hbit.mp q
            have hrec2 := ih (l + 1) (dep - 1) (u ||| 2 ^ t) (zRmv S t) (by omega) (by omega) (by
              have h : ∀ t, t < 6 → 2 ^ t < 2 ^ 6 := by decide
              exact Nat.or_lt_two_pow (n := 6) hu (h t ht6)) (fun x hx => by
              unfold zRmv
              rw [hS x hx, zS_bit]
              by_cases e : x = t
              · subst e
                rw [decide_eq_true rfl]
                simp
              · rw [decide_eq_false e, decide_eq_false (fun q => e q.symm)]
                simp)
            rw [enext, show zNm9 D T s - (idx + 1) = m' by omega] at hrec2
            have ex : zMxV (zCC D T s) S idx (zMx (zCC D T s) m' (idx + 1)) t = 1 + zMx (zCC D T s) m' (idx + 1) (zRmv S t) := by
              unfold zMxV
              rw [hcap, hf, hS t ht6, hb]
              rfl
            have hle := zMx_n (C := zCC D T s) m' (idx + 1) (zRmv S t)
            rw [nI_add, z_set1 (by omega)]
            refine ⟨_, _, hrec2, ?_⟩
            have h := ev _ ex (ihk (t + 1) _ (by omega) (by split <;> omega))
            have em2 : (if nI a < nI 1 + nI (zMx (zCC D T s) m' (idx + 1) (zRmv S t)) then nI 1 + nI (zMx (zCC D T s) m' (idx + 1) (zRmv S t)) else nI a) = nI (if a < 1 + zMx (zCC D T s) m' (idx + 1) (zRmv S t) then 1 + zMx (zCC D T s) m' (idx + 1) (zRmv S t) else a) := by
              rw [nI_add]
              by_cases q : a < 1 + zMx (zCC D T s) m' (idx + 1) (zRmv S t)
              · rw [if_pos q, if_pos (nI_lt q (by omega))]
              · rw [if_neg q, if_neg (nI_nlt (by omega) (by omega))]
            unfold wp_L_mostOf_105
            rw [em2, nI_add]
            exact h
      refine c_L_mostOf (dd := dep - 1) ok (by omega) (by omega) ⟨fun _ => ?_, fun q => absurd q hml⟩
      rw [nI_add]
      refine ⟨_, _, hrec, _, _, hon, fun q => ?_, fun _ => ⟨z_in (by omega) (by decide), ?_⟩⟩
      · rw [hz.1] at q
        exact absurd q z_10
      · rw [nI_clamp (by omega), c2, ecell, nI_clamp (by omega), hcell, hz.2]
        refine ⟨z_in (by omega) (by decide), fun _ => loop 6 0 _ (by decide) ?_, fun q => absurd q z_10⟩
        have := zMx_n (C := zCC D T s) m' (idx + 1) S
        omega
end L7
