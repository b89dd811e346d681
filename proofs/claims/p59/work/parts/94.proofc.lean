/-! FINDER 5: the proof that there is no right table -/
def zKq (D : zD) (U : Nat → Bool) (w o : Nat) : Bool := zHd D o && !(decide (o = w) || (decide (o < w) && U o))
def zPf (D : zD) (U : Nat → Bool) (n : Nat) : Prop := ∀ w, w < n → (U w = true ↔ zHd D w = true ∧ ∀ T, ¬ zRi D (zKq D U w) T)
theorem zKq_congr {D : zD} {U V : Nat → Bool} {w : Nat} (h : ∀ o, o < w → U o = V o) : zKq D U w = zKq D V w := by
  funext o
  unfold zKq
  by_cases q : o < w
  · rw [h o q]
  · rw [decide_eq_false q]; rfl
theorem zPf_uni {D : zD} {U V : Nat → Bool} : ∀ n, zPf D U n → zPf D V n → ∀ w, w < n → U w = V w := by
  intro n
  induction n with
  | zero => intro _ _ w hw; exact absurd hw (Nat.not_lt_zero w)
  | succ n ih =>
    intro h g w hw
    have hlt := ih (fun w hw => h w (by omega)) (fun w hw => g w (by omega))
    by_cases e : w = n
    · subst e
      rw [Bool.eq_iff_iff, h w hw, g w hw, zKq_congr hlt]
    · exact hlt w (by omega)
theorem zPf_s {D : zD} {U : Nat → Bool} {n : Nat} (b : Bool) (h : zPf D U n) (hb : b = true ↔ zHd D n = true ∧ ∀ T, ¬ zRi D (zKq D U n) T) : zPf D (fun o => if o = n then b else U o) (n + 1) := by
  intro w hw
  have e : zKq D (fun o => if o = n then b else U o) w = zKq D U w := zKq_congr (fun o ho => if_neg (by omega))
  rw [e]
  by_cases q : w = n
  · subst q
    show (if w = w then b else U w) = true ↔ _
    rw [if_pos rfl]
    exact hb
  · show (if w = n then b else U w) = true ↔ _
    rw [if_neg q]
    exact h w (by omega)
def zPl (P : Nat → Bool) (f : Nat → Int32) (n : Nat) : Prop := ∀ i, i < n → P i = true → f (q_cnt P i) = nI i
theorem zPl_at {P : Nat → Bool} {n : Nat} : ∀ k, k < q_cnt P n → ∃ i, i < n ∧ P i = true ∧ q_cnt P i = k := by
  induction n with
  | zero => intro k hk; exact absurd hk (Nat.not_lt_zero k)
  | succ n ih =>
    intro k hk
    rw [q_cnt_s] at hk
    by_cases q : k < q_cnt P n
    · obtain ⟨i, h1, h2, h3⟩ := ih k q
      exact ⟨i, by omega, h2, h3⟩
    · cases hp : P n
      · rw [hp, if_neg (by decide)] at hk; omega
      · rw [hp, if_pos rfl] at hk
        exact ⟨n, by omega, hp, by omega⟩
theorem zPl_eq {P Q : Nat → Bool} {f g : Nat → Int32} {n : Nat} (h : ∀ i, i < n → P i = Q i) (hf : zPl P f n) (hg : zPl Q g n) : ∀ k, k < q_cnt P n → f k = g k := by
  intro k hk
  obtain ⟨i, h1, h2, h3⟩ := zPl_at k hk
  have e : q_cnt P i = q_cnt Q i := q_cnt_congr i (fun o ho => h o (by omega))
  have a := hf i h1 h2
  have b := hg i h1 (by rw [← h i h1]; exact h2)
  rw [h3] at a
  rw [← e, h3] at b
  rw [a, b]
section ZPC
variable {G : sj_G} {σ : sj_S} {D : zD} {r : Nat}
def zFkp (σ σ' : sj_S) : Prop := (∀ x, (x < 18 ∨ x = 29 ∨ 35 < x) → σ' x = σ x) ∧ ∀ k, k ≠ 7 → k ≠ 3 → σ' 30 k = σ 30 k
theorem zFkp_t {a b c : sj_S} (h : zFkp a b) (g : zFkp b c) : zFkp a c := ⟨fun x hx => (g.1 x hx).trans (h.1 x hx), fun k hk h3 => (g.2 k hk h3).trans (h.2 k hk h3)⟩
theorem zFkp_r : zFkp σ σ := ⟨fun _ _ => rfl, fun _ _ _ => rfl⟩
theorem z_seekProof (ok : sj_ok G) (hC : repC D (σ 2)) (v : okD D) (hr : r + 12 < 2 ^ 27) (hd : zRd σ r) : ∃ (σ' : sj_S) (U : Nat → Bool), sj_C G 122 me_X4_seekProof [.ref (sj_ad G 30), .ref (sj_ad G 1)] σ (.ok 0, σ') ∧ zFkp σ σ' ∧ (∃ r', r ≤ r' ∧ r' ≤ r + 12 ∧ zRd σ' r') ∧
    zPf D U (dW D) ∧ σ' 30 3 = nI (q_cnt (zHu D U) (dW D)) ∧ zPl (zHu D U) (σ' 32) (dW D) := by
  have h12 := v.2.1
  -- the wishes are listed
  have lst : ∀ (x : Int32) (P : Nat → Bool), (∀ w, w < dW D → bt x w = P w) → ∀ k i (ρ : sj_S), i + k = dW D → ρ 2 = σ 2 → ρ 30 3 = nI (q_cnt P i) → zPl P (ρ 32) i →
      ∃ ρ' : sj_S, (∀ R : sj_R, R = (.ok 0, ρ') → sj_J G 122 me_X4_seekProof R 70 [.ref (sj_ad G 30), .ref (sj_ad G 1), .int x, .int (nI i)] ρ []) ∧ (∀ y, y ≠ 30 → y ≠ 32 → ρ' y = ρ y) ∧ (∀ k, k ≠ 3 → ρ' 30 k = ρ 30 k) ∧ ρ' 30 3 = nI (q_cnt P (dW D)) ∧ zPl P (ρ' 32) (dW D) := by
    intro x P hx k
    induction k with
    | zero =>
      intro i ρ hi h2 h3 hl
      obtain rfl : i = dW D := by omega
      refine ⟨ρ, fun R hR => t_X4_seekProof_70 ⟨_, _, z_wishTotal ok, fun _ => hR, fun q => ?_⟩, fun _ _ _ => rfl, fun _ _ => rfl, h3, hl⟩
      rw [h2, hC.2.1] at q
      exact absurd (nI_le (Nat.le_refl _) (by omega)) q
    | succ k ih =>
      intro i ρ hi h2 h3 hl
      have hc : q_cnt P i ≤ i := q_cnt_le _ _
      have kc : (nI (q_cnt P i)).toNatClampNeg = q_cnt P i := nI_clamp (by omega)
      have hw := hx i (by omega)
      have nl : ¬ ρ 2 1 ≤ nI i := by rw [h2, hC.2.1]; exact nI_ge (by omega) (by omega)
      cases hp : P i
      · have e1 : q_cnt P (i + 1) = q_cnt P i := by rw [q_cnt_s, hp, if_neg (by decide)]; omega
        obtain ⟨ρ', m1, m2⟩ := ih (i + 1) ρ (by omega) h2 (by rw [e1]; exact h3) (fun j hj hpj => by
          by_cases e : j = i
          · subst e; rw [hp] at hpj; cases hpj
          · exact hl j (by omega) hpj)
        refine ⟨ρ', fun R hR => t_X4_seekProof_70 ⟨_, _, z_wishTotal ok, fun q => absurd q nl, fun _ => ⟨fun _ => by rw [h3]; exact z_in (by omega) (by decide), ?_⟩⟩, m2⟩
        rw [if_pos (show ((x >>> (nI i &&& 31)) &&& nI 1) = 0 by rw [z_bit (by omega), hw, hp])]
        unfold wp_X4_seekProof_106
        rw [nI_add]
        exact m1 R hR
      · have e1 : q_cnt P (i + 1) = q_cnt P i + 1 := by rw [q_cnt_s, hp, if_pos rfl]
        obtain ⟨ρ', m1, m2, m3, m4⟩ := ih (i + 1) (sj_st (sj_st ρ 32 (q_cnt P i) (nI i)) 30 3 (nI (q_cnt P i + 1))) (by omega) (by rw [z_stn (by decide), z_stn (by decide)]; exact h2) (by rw [z_ste, e1]) (fun j hj hpj => by
          rw [z_stn (by decide)]
          by_cases e : j = i
          · subst e; rw [z_ste]
          · have hlt : q_cnt P j ≠ q_cnt P i := by
              have a := q_cnt_mono (S := P) (i := j + 1) i (by omega)
              have b : q_cnt P (j + 1) = q_cnt P j + 1 := by rw [q_cnt_s, hpj, if_pos rfl]
              omega
            rw [z_sti hlt]
            exact hl j (by omega) hpj)
        refine ⟨ρ', fun R hR => t_X4_seekProof_70 ⟨_, _, z_wishTotal ok, fun q => absurd q nl, fun _ => ⟨fun _ => by rw [h3]; exact z_in (by omega) (by decide), ?_⟩⟩, fun y h1 h2 => by rw [m2 y h1 h2, z_stn h1, z_stn h2], fun k hk => by rw [m3 k hk, z_sti hk, z_stn (by decide)], m4⟩
        rw [if_neg (show ¬ ((x >>> (nI i &&& 31)) &&& nI 1) = 0 by rw [z_bit (by omega), hw, hp]; decide), h3, kc]
        unfold wp_X4_seekProof_106
        rw [nI_add, nI_add]
        exact m1 R hR
  -- wish by wish
  have key : ∀ k i (ρ : sj_S) (x : Int32) (U : Nat → Bool) (q : Nat), i + k = dW D → q + k < 2 ^ 27 → ρ 2 = σ 2 → zRd ρ q → zPf D U i → (∀ w, w < dW D → bt x w = (zHd D w && !(decide (w < i) && U w))) →
      ∃ (ρ' : sj_S) (V : Nat → Bool) (q' : Nat), (∀ R : sj_R, R = (.ok 0, ρ') → sj_J G 122 me_X4_seekProof R 7 [.ref (sj_ad G 30), .ref (sj_ad G 1), .int x, .int (nI i)] ρ []) ∧ zFkp ρ ρ' ∧ q ≤ q' ∧ q' ≤ q + k ∧ zRd ρ' q' ∧ zPf D V (dW D) ∧ ρ' 30 3 = nI (q_cnt (zHu D V) (dW D)) ∧ zPl (zHu D V) (ρ' 32) (dW D) := by
    intro k
    induction k with
    | zero =>
      intro i ρ x U q hi hq h2 hd hU hx
      obtain rfl : i = dW D := by omega
      obtain ⟨ρ', m1, m2, m3, m4, m5⟩ := lst x (zHu D U) (fun w hw => by
        rw [hx w hw, decide_eq_true hw, Bool.true_and]
        rfl) (dW D) 0 (sj_st ρ 30 3 (nI 0)) (by omega) (by rw [z_stn (by decide)]; exact h2) z_ste (fun j hj => absurd hj (Nat.not_lt_zero j))
      refine ⟨ρ', U, q, fun R hR => t_X4_seekProof_7 ⟨_, _, z_wishTotal ok, fun _ => m1 R hR, fun y => ?_⟩, ⟨fun y hy => by rw [m2 y (by omega) (by omega), z_stn (by omega)], fun k hk h3 => by rw [m3 k h3, z_sti h3]⟩, Nat.le_refl _, by omega, ⟨by rw [m3 7 (by decide), z_sti (by decide)]; exact hd.1, by rw [m2 33 (by decide) (by decide), z_stn (by decide)]; exact hd.2⟩, hU, m4, m5⟩
      rw [h2, hC.2.1] at y
      exact absurd (nI_le (Nat.le_refl _) (by omega)) y
    | succ k ih =>
      intro i ρ x U q hi hq h2 hd hU hx
      have nl : ¬ ρ 2 1 ≤ nI i := by rw [h2, hC.2.1]; exact nI_ge (by omega) (by omega)
      have hxi : bt x i = zHd D i := by
        rw [hx i (by omega), decide_eq_false (Nat.lt_irrefl i)]
        simp
      have hxb : ∀ w, w < dW D → bt (x &&& ((nI 1 <<< (nI i &&& 31)) ^^^ (-1))) w = zKq D U i w := fun w hw => by
        rw [b_and, b_xor, b_m1 w (by omega), Bool.xor_true, z_shl1 (by omega) (by omega), hx w hw]
        unfold zKq
        rw [Bool.not_or, Bool.and_assoc, Bool.and_comm (!decide (w = i))]
      cases hh : zHd D i
      · -- not hard
        obtain ⟨ρ', V, q', n1, n2, n3, n4, n5⟩ := ih (i + 1) ρ x (fun o => if o = i then false else U o) q (by omega) (by omega) h2 hd (zPf_s false hU (by rw [hh]; simp)) (fun w hw => by
          rw [hx w hw]
          show _ = (zHd D w && !(decide (w < i + 1) && (if w = i then false else U w)))
          by_cases e : w = i
          · subst e; rw [if_pos rfl, hh]; rfl
          · rw [if_neg e, decide_eq_decide.mpr (by omega : w < i + 1 ↔ w < i)])
        refine ⟨ρ', V, q', fun R hR => t_X4_seekProof_7 ⟨_, _, z_wishTotal ok, fun y => absurd y nl, fun _ => ⟨fun _ => ?_, fun y => ?_⟩⟩, n2, n3, by omega, n5⟩
        · unfold wp_X4_seekProof_57
          rw [nI_add]
          exact n1 R hR
        · exact absurd (show ((x >>> (nI i &&& 31)) &&& nI 1) = 0 by rw [z_bit (by omega), hxi, hh]) y
      · -- hard: is there a right table without it?
        obtain ⟨τ, t1, t2, t3⟩ := z_take18 (σ := ρ) (H := zKq D U i) ok (by rw [h2]; exact hC) v hxb
        obtain ⟨b, ρ1, c1, c2, c3, ⟨q1, r1, r2, r3, r4⟩, c5, c6⟩ := z_isSolvable ok v (r := q) (fun o ho i hi hoi => hoi) (by omega) t2 (by rw [t3 30 (by omega)]; exact hd.1) (by rw [t3 33 (by omega)]; exact hd.2)
        have fk : zFkp ρ ρ1 := ⟨fun y hy => by rw [c2 y (by omega) (by omega) (by omega) (by omega) (by omega), t3 y (by omega)], fun k hk _ => by rw [c3 k hk, t3 30 (by omega)]⟩
        have hb : (!b) = true ↔ zHd D i = true ∧ ∀ T, ¬ zRi D (zKq D U i) T := by
          rw [hh]
          cases hb : b
          · exact ⟨fun _ => ⟨rfl, fun T hT => (c6 hb).1 T ⟨hT, fun l hl => zRi_ob v hT hl⟩⟩, fun _ => rfl⟩
          · obtain ⟨T, hT, -⟩ := c5 hb
            exact ⟨fun y => (by cases y), fun y => absurd hT.1 (y.2 T)⟩
        obtain ⟨ρ', V, q', n1, n2, n3, n4, n5⟩ := ih (i + 1) ρ1 (if (if b then nI 1 else nI 0) = 0 then x &&& ((nI 1 <<< (nI i &&& 31)) ^^^ (-1)) else x) (fun o => if o = i then !b else U o) q1 (by omega) (by omega) (by rw [fk.1 2 (by omega)]; exact h2) ⟨r3, r4⟩ (zPf_s (!b) hU hb) (fun w hw => by
          show _ = (zHd D w && !(decide (w < i + 1) && (if w = i then !b else U w)))
          cases b
          · rw [if_pos (show (if false = true then nI 1 else nI 0) = 0 from z_00), hxb w hw]
            unfold zKq
            by_cases e : w = i
            · subst e
              rw [if_pos rfl, decide_eq_true rfl, decide_eq_true (by omega : w < w + 1)]; rfl
            · rw [if_neg e, decide_eq_false e, decide_eq_decide.mpr (by omega : w < i + 1 ↔ w < i)]; rfl
          · rw [if_neg (show ¬ (if true = true then nI 1 else nI 0) = 0 from z_10), hx w hw]
            by_cases e : w = i
            · subst e
              rw [if_pos rfl, decide_eq_false (Nat.lt_irrefl w)]; simp
            · rw [if_neg e, decide_eq_decide.mpr (by omega : w < i + 1 ↔ w < i)])
        refine ⟨ρ', V, q', fun R hR => t_X4_seekProof_7 ⟨_, _, z_wishTotal ok, fun y => absurd y nl, fun _ => ⟨fun y => ?_, fun _ => ⟨_, t1, _, _, c1, ?_⟩⟩⟩, zFkp_t fk n2, by omega, by omega, n5⟩
        · rw [z_bit (by omega), hxi, hh] at y
          cases y
        · unfold wp_X4_seekProof_56 wp_X4_seekProof_57
          rw [nI_add]
          exact n1 R hR
  obtain ⟨ρ', V, q', n1, n2, n3, n4, n5, n6, n7, n8⟩ := key (dW D) 0 σ (zHard D (dW D)) (fun _ => false) r (by omega) (by omega) rfl hd (fun w hw => absurd hw (Nat.not_lt_zero w)) (fun w hw => by rw [zHard_H v w hw]; simp)
  exact ⟨ρ', V, c_X4_seekProof ok ⟨_, _, z_hardWishes ok hC v, n1 _ rfl⟩, n2, ⟨q', n3, by omega, n5⟩, n6, n7, n8⟩
end ZPC
