/-! P59, THE LAW 4: rooms -/
theorem q_cnt_or1 {A : Nat → Bool} {x : Nat} : ∀ m, q_cnt (fun c => A c || decide (x = c)) m ≤ q_cnt A m + (if x < m then 1 else 0) := by
  intro m
  induction m with
  | zero => exact Nat.zero_le _
  | succ m ih =>
    rw [q_cnt_s, q_cnt_s]
    by_cases e : x = m
    · subst e
      rw [if_neg (Nat.lt_irrefl _)] at ih
      rw [if_pos (by omega : x < x + 1), decide_eq_true rfl, Bool.or_true, if_pos rfl]
      cases A x <;> simp <;> omega
    · rw [decide_eq_false e, Bool.or_false]
      by_cases q : x < m
      · rw [if_pos q] at ih
        rw [if_pos (by omega : x < m + 1)]
        omega
      · rw [if_neg q] at ih
        rw [if_neg (by omega : ¬ x < m + 1)]
        omega
theorem q_cnt_img {P : Nat → Bool} {f : Nat → Nat} {m : Nat} : ∀ n, q_cnt (fun c => q_any (fun i => P i && decide (f i = c)) n) m ≤ q_cnt P n := by
  intro n
  induction n with
  | zero =>
    refine Nat.le_trans (Nat.le_of_eq (q_cnt_congr (r := fun _ => false) m (fun i _ => rfl))) ?_
    have h : ∀ m, q_cnt (fun _ => false) m = 0 := by
      intro m
      induction m with
      | zero => rfl
      | succ m ih => rw [q_cnt_s, ih]; rfl
    rw [h]
    exact Nat.zero_le _
  | succ n ih =>
    rw [q_cnt_s]
    cases hp : P n
    · rw [if_neg (by decide), Nat.add_zero]
      refine Nat.le_trans (q_cnt_mon m (fun c _ hc => ?_)) ih
      have hc : (q_any (fun i => P i && decide (f i = c)) n || (P n && decide (f n = c))) = true := hc
      rw [hp, Bool.false_and, Bool.or_false] at hc
      exact hc
    · rw [if_pos rfl]
      have h1 : q_cnt (fun c => q_any (fun i => P i && decide (f i = c)) (n + 1)) m = q_cnt (fun c => q_any (fun i => P i && decide (f i = c)) n || decide (f n = c)) m := q_cnt_congr m (fun c _ => by
        show (q_any (fun i => P i && decide (f i = c)) n || (P n && decide (f n = c))) = _
        rw [hp, Bool.true_and])
      rw [h1]
      have h2 := q_cnt_or1 (A := fun c => q_any (fun i => P i && decide (f i = c)) n) (x := f n) m
      have : (if f n < m then 1 else 0) ≤ 1 := by split <;> omega
      omega
theorem q_cnt_all : ∀ m, q_cnt (fun _ => true) m = m := by
  intro m
  induction m with
  | zero => rfl
  | succ m ih => rw [q_cnt_s, ih]; rfl
/-- as many as values are met -/
theorem q_cnt_onto {P : Nat → Bool} {f : Nat → Nat} {n r : Nat} (h : ∀ k, k < r → ∃ i, i < n ∧ P i = true ∧ f i = k) : r ≤ q_cnt P n := by
  have h1 := q_cnt_img (P := P) (f := f) (m := r) n
  have h2 : q_cnt (fun _ => true) r ≤ q_cnt (fun c => q_any (fun i => P i && decide (f i = c)) n) r := q_cnt_mon r (fun c hc _ => by
    obtain ⟨i, i1, i2, i3⟩ := h c hc
    exact (q_any_iff n).mpr ⟨i, i1, by rw [i2, decide_eq_true i3]; rfl⟩)
  rw [q_cnt_all] at h2
  omega
theorem zGi_o {D : zD} {T : Nat → Nat} {s o : Nat} {g : Nat → Nat} (h : T o ≠ s) : ∀ i, zGi D T s g i o = g o := by
  intro i
  induction i with
  | zero => rfl
  | succ i ih =>
    rw [zGi_keep ?_, ih]
    by_cases e : o = i
    · exact Or.inr (by rw [← e]; exact h)
    · exact Or.inl e
theorem zGi_up {D : zD} {T : Nat → Nat} {s o : Nat} {g : Nat → Nat} : ∀ k, zGi D T s g (o + 1 + k) o = zGi D T s g (o + 1) o := by
  intro k
  induction k with
  | zero => rfl
  | succ k ih =>
    rw [show o + 1 + (k + 1) = o + 1 + k + 1 by omega, zGi_keep (Or.inl (by omega)), ih]
theorem zGo_up {D : zD} {T : Nat → Nat} {s o : Nat} (h : T o < s) : ∀ k, zGo D T (s + k) o = zGo D T s o := by
  intro k
  induction k with
  | zero => rfl
  | succ k ih =>
    show zGi D T (s + k) (zGo D T (s + k)) (dN D) o = _
    rw [zGi_o (by omega), ih]
/-- what is given stays -/
theorem zGi_fin {D : zD} {T : Nat → Nat} {s i o : Nat} (hs : s < 20) (hi : i ≤ dN D) (h : T o < s ∨ (T o = s ∧ o < i)) : zGi D T s (zGo D T s) i o = zGo D T 20 o := by
  rcases h with h | ⟨h1, h2⟩
  · rw [zGi_o (by omega), show 20 = s + (20 - s) by omega, zGo_up h]
  · have e1 : zGo D T 20 o = zGo D T (s + 1) o := by rw [show 20 = s + 1 + (19 - s) by omega, zGo_up (by omega)]
    rw [e1]
    show _ = zGi D T s (zGo D T s) (dN D) o
    rw [show i = o + 1 + (i - (o + 1)) by omega, zGi_up, show dN D = o + 1 + (dN D - (o + 1)) by omega, zGi_up]
theorem zGo_lr {D : zD} {T : Nat → Nat} {l : Nat} (hl : l < dN D) (h20 : T l < 20) (hk : dKi D l ≠ 0) : zGo D T 20 l = zLr D T (zGi D T (T l) (zGo D T (T l)) l) l := by
  rw [← zGi_fin (D := D) (T := T) (s := T l) (i := l + 1) (o := l) h20 hl (Or.inr ⟨rfl, by omega⟩)]
  show (if T l = T l ∧ dKi D l ≠ 0 then (fun o => if o = l then zLr D T (zGi D T (T l) (zGo D T (T l)) l) l else zGi D T (T l) (zGo D T (T l)) l o) else _) l = _
  rw [if_pos ⟨rfl, hk⟩]
  exact if_pos rfl
theorem zLr_us {D : zD} {T g : Nat → Nat} {l : Nat} : (∀ k, k < zLr D T g l → zUs D T g l k (dN D) = true) ∧ (zLr D T g l < 3 → zUs D T g l (zLr D T g l) (dN D) = false) := by
  unfold zLr
  cases q0 : zUs D T g l 0 (dN D)
  · rw [if_pos rfl]
    exact ⟨fun k hk => absurd hk (Nat.not_lt_zero k), fun _ => q0⟩
  · cases q1 : zUs D T g l 1 (dN D)
    · rw [if_neg (by decide), if_pos rfl]
      refine ⟨fun k hk => ?_, fun _ => q1⟩
      rw [show k = 0 by omega]; exact q0
    · cases q2 : zUs D T g l 2 (dN D)
      · rw [if_neg (by decide), if_neg (by decide), if_pos rfl]
        refine ⟨fun k hk => ?_, fun _ => q2⟩
        rcases (by omega : k = 0 ∨ k = 1) with e | e <;> subst e
        · exact q0
        · exact q1
      · rw [if_neg (by decide), if_neg (by decide), if_neg (by decide)]
        refine ⟨fun k hk => ?_, fun h => absurd h (by decide)⟩
        rcases (by omega : k = 0 ∨ k = 1 ∨ k = 2) with e | e | e <;> subst e
        · exact q0
        · exact q1
        · exact q2
theorem zRv_tk {D : zD} {T : Nat → Nat} {l o : Nat} (ho : zRv D T l o = true) : o ≠ l ∧ dKi D o = dKi D l ∧ zTk D T o (T l) = true ∧ (T o < T l ∨ (T o = T l ∧ o < l)) := by
  unfold zRv zAhd zMt at ho
  rw [Bool.and_eq_true, Bool.or_eq_true, Bool.and_eq_true, Bool.and_eq_true, Bool.or_eq_true, Bool.and_eq_true, decide_eq_true_eq, decide_eq_true_eq, decide_eq_true_eq, decide_eq_true_eq, decide_eq_true_eq] at ho
  obtain ⟨ha, hkk, hm⟩ := ho
  refine ⟨fun e => by subst e; omega, hkk, ?_, ha⟩
  rw [zTk_td]
  rcases hm with hm | ⟨-, hm⟩
  · exact hm
  · unfold zTd at hm ⊢
    rw [Bool.or_eq_true, Bool.and_eq_true, decide_eq_true_eq, decide_eq_true_eq, decide_eq_true_eq] at hm ⊢
    omega
/-- rooms there are -/
theorem kRoom_lt {D : zD} {T : Nat → Nat} (r : zRi D (zHd D) T) {l : Nat} (hl : l < dN D) (hk : dKi D l ≠ 0) : zGo D T 20 l < dRo D (dKi D l - 1) := by
  have h1 := (zRm_iff.mp (r l hl).2.2.1 hk).1
  rw [zGo_lr hl (r l hl).1 hk]
  have h2 : zLr D T (zGi D T (T l) (zGo D T (T l)) l) l ≤ q_cnt (fun o => !decide (o = l) && (decide (dKi D o = dKi D l) && zTk D T o (T l))) (dN D) := q_cnt_onto (f := zGi D T (T l) (zGo D T (T l)) l) (fun k hk => by
    obtain ⟨o, h1, h2⟩ := (q_any_iff (dN D)).mp (zLr_us.1 k hk)
    rw [Bool.and_eq_true, decide_eq_true_eq] at h2
    obtain ⟨a1, a2, a3, -⟩ := zRv_tk h2.1
    exact ⟨o, h1, by rw [decide_eq_false a1, decide_eq_true a2, a3]; rfl, h2.2⟩)
  unfold zCn at h1
  omega
/-- lessons that meet have unlike rooms -/
theorem kRoom_ne {D : zD} {T : Nat → Nat} (v : okD D) (r : zRi D (zHd D) T) {l o : Nat} (hl : l < dN D) (ho : o < dN D) (hk : dKi D l ≠ 0) (hv : zRv D T l o = true) : zGo D T 20 o ≠ zGo D T 20 l := by
  have h3 := zLr_lt (g := zGi D T (T l) (zGo D T (T l)) l) v r hl hk
  have hu := zLr_us.2 h3
  obtain ⟨-, -, -, ha⟩ := zRv_tk hv
  rw [zGo_lr hl (r l hl).1 hk, ← zGi_fin (i := l) (r l hl).1 (by omega) ha]
  intro e
  have := q_any_f.mp hu o ho
  rw [hv, decide_eq_true e] at this
  cases this
theorem kMeet {D : zD} {T : Nat → Nat} {l o : Nat} : zMeet D T l o = zMt (dDb D l) (T l) (dDb D o) (T o) := by
  rw [Bool.eq_iff_iff]
  unfold zMeet zMt zTd
  rw [Bool.or_eq_true, Bool.and_eq_true, zTk_or, zTk_or]
  simp only [Bool.or_eq_true, Bool.and_eq_true, decide_eq_true_eq]
  omega
theorem kRoom_ne2 {D : zD} {T : Nat → Nat} (v : okD D) (r : zRi D (zHd D) T) {l o : Nat} (hl : l < dN D) (ho : o < dN D) (hne : o ≠ l) (hk : dKi D l ≠ 0) (he : dKi D o = dKi D l) (hm : zMeet D T l o = true) : zGo D T 20 o ≠ zGo D T 20 l := by
  rw [kMeet] at hm
  by_cases ha : T o < T l ∨ (T o = T l ∧ o < l)
  · refine kRoom_ne v r hl ho hk ?_
    unfold zRv zAhd
    rw [Bool.and_eq_true, Bool.or_eq_true, Bool.and_eq_true, Bool.and_eq_true, decide_eq_true_eq, decide_eq_true_eq, decide_eq_true_eq, decide_eq_true_eq]
    exact ⟨ha, he, hm⟩
  · refine fun e => kRoom_ne v r ho hl (by rw [he]; exact hk) ?_ e.symm
    unfold zRv zAhd
    rw [Bool.and_eq_true, Bool.or_eq_true, Bool.and_eq_true, Bool.and_eq_true, decide_eq_true_eq, decide_eq_true_eq, decide_eq_true_eq, decide_eq_true_eq]
    exact ⟨by omega, he.symm, by rw [zMt_comm]; exact hm⟩
section L4
variable {G : sj_G} {σ : sj_S} {D : zD} {T : Nat → Nat}
theorem zk_0 : ∀ K, K < 4 → (zk K = -1 ↔ K = 0) := by decide +kernel
theorem zk_e : ∀ K, K < 4 → ∀ L, L < 4 → (zk K = zk L ↔ K = L) := by decide +kernel
theorem zk_n : ∀ K, K < 4 → ¬ K = 0 → zk K = nI (K - 1) := by decide +kernel
theorem lQ {σ' : sj_S} (hL : lR D σ) (q : kQ σ σ') : lR D σ' := lR_e hL (fun b hb => q b (by
  have : ∀ b, b ∈ [57, 58, 59, 60, 61, 63, 64, 65, 66, 67] → 45 < b := by decide
  have := this b hb
  omega)) (by rw [q 56 (by omega)]) (by rw [q 56 (by omega)])
theorem lQA {σ' : sj_S} (hA : lA D T σ) (q : kQ σ σ') : lA D T σ' := lA_e hA (q 62 (by omega))
theorem l_areRooms (ok : sj_ok G) (hO : sj_ad G 70 = sj_ad G 0) (h : kT D T σ) (hL : lR D σ) (hA : lA D T σ) : ∃ σ', sj_C G 11 me_L_areRooms [.ref (sj_ad G 56)] σ (.ok (nI 1), σ') ∧ kQ σ σ' := by
  have v := h.1
  have h9 := v.1
  have hrt := h.2.2.2.2
  have hin : ∀ l, l < dN D → vp_in (nI l) 9 := fun l hl => z_in (by omega) (by decide)
  have cell : ∀ l, l < dN D → ∀ ρ, kQ σ ρ → ρ 60 l = zk (dKi D l) ∧ ρ 62 l = nI (T l) ∧ ρ 61 l = nI (1 + dDb D l) ∧ dKi D l < 4 ∧ dDb D l ≤ 1 ∧ T l < 20 := fun l hl ρ q => by
    obtain ⟨-, -, -, a4, a5⟩ := hL.2.2.1 l hl
    obtain ⟨-, -, -, b4, b5⟩ := v.2.2.2.1 l hl
    rw [q 60 (by omega), q 61 (by omega), q 62 (by omega)]
    exact ⟨a4, (hA l hl).1, a5, by omega, b5, (hA l hl).2⟩
  -- the lessons ahead of one
  have inner : ∀ l, l < dN D → ∀ k o (ρ : sj_S), o + k = l → kQ σ ρ → (∀ ρ, kQ σ ρ → ∃ σ', sj_J G 11 me_L_areRooms (.ok (nI 1), σ') 2 [.ref (sj_ad G 56), .int (nI (l + 1)), .null, .null, .null] ρ [] ∧ kQ σ σ') →
      ∃ σ', sj_J G 11 me_L_areRooms (.ok (nI 1), σ') 60 [.ref (sj_ad G 56), .int (nI l), .int (if dKi D l = 0 then -1 else nI (zGo D T 20 l)), .int (nI o), .null] ρ [] ∧ kQ σ σ' := by
    intro l hl k
    induction k with
    | zero =>
      intro o ρ ho q hnx
      obtain rfl : o = l := by omega
      obtain ⟨σ', e1, e2⟩ := hnx ρ q
      refine ⟨σ', t_L_areRooms_60 hO ⟨fun _ => ?_, fun q => absurd (nI_le (Nat.le_refl _) (by omega)) q⟩, e2⟩
      rw [nI_add]
      exact e1
    | succ k ih =>
      intro o ρ ho q hnx
      have hoN : o < dN D := by omega
      obtain ⟨c60, c62, c61, ck, cd, c20⟩ := cell l hl ρ q
      obtain ⟨d60, d62, d61, dk, dd, d20⟩ := cell o hoN ρ q
      have start : ∀ σ', wp_L_areRooms_114 G (.ok (nI 1), σ') (nI l) (if dKi D l = 0 then -1 else nI (zGo D T 20 l)) (nI o) (if zMeet D T l o then nI 1 else nI 0) ρ → sj_J G 11 me_L_areRooms (.ok (nI 1), σ') 60 [.ref (sj_ad G 56), .int (nI l), .int (if dKi D l = 0 then -1 else nI (zGo D T 20 l)), .int (nI o), .null] ρ [] := fun σ' hw => by
        refine t_L_areRooms_60 hO ⟨fun q => absurd q (nI_ge (by omega) (by omega)), fun _ => ⟨hin l hl, hin o hoN, hin o hoN, fun _ => ⟨hin o hoN, hin l hl, hin l hl⟩, ?_⟩⟩
        rw [nI_clamp (by omega), nI_clamp (by omega), c62, c61, d62, d61, nI_add, nI_add, l_meet cd dd c20 d20]
        exact hw
      by_cases k0 : dKi D l = 0
      · obtain ⟨σ', e1, e2⟩ := ih (o + 1) ρ (by omega) q hnx
        refine ⟨σ', start σ' ⟨hin l hl, fun _ => ?_, ?_⟩, e2⟩
        · unfold wp_L_areRooms_160
          rw [nI_add]
          exact e1
        · rw [nI_clamp (by omega), c60]
          exact fun q => absurd ((zk_0 _ ck).mpr k0) q
      · have n0 : ¬ ρ 60 (nI l).toNatClampNeg = -1 := by
          rw [nI_clamp (by omega), c60]
          exact fun q => k0 ((zk_0 _ ck).mp q)
        by_cases ke : dKi D o = dKi D l
        · cases hm : zMeet D T l o
          · obtain ⟨σ', e1, e2⟩ := ih (o + 1) ρ (by omega) q hnx
            refine ⟨σ', start σ' ⟨hin l hl, fun q => absurd q n0, fun _ => ⟨hin o hoN, hin l hl, ?_, fun _ => ⟨fun _ => ?_, fun q => ?_⟩⟩⟩, e2⟩
            · rw [nI_clamp (by omega), nI_clamp (by omega), c60, d60]
              exact fun q => absurd ((zk_e _ dk _ ck).mpr ke) q
            · unfold wp_L_areRooms_160
              rw [nI_add]
              exact e1
            · rw [hm] at q
              exact absurd nI_0 q
          · obtain ⟨ρ', hr, hq⟩ := k_roomOf (σ := ρ) ok (kT_q h q) hoN
            have hne := kRoom_ne2 v hrt hl hoN (by omega) k0 ke hm
            obtain ⟨σ', e1, e2⟩ := ih (o + 1) ρ' (by omega) (kQ_t q hq) hnx
            have lt1 := kRoom_lt hrt hl k0
            have lt2 := kRoom_lt hrt hoN (by rw [ke]; exact k0)
            have ro1 := v.2.2.2.2.2.2.1 (dKi D l - 1) (by omega)
            have ro2 := v.2.2.2.2.2.2.1 (dKi D o - 1) (by omega)
            refine ⟨σ', start σ' ⟨hin l hl, fun q => absurd q n0, fun _ => ⟨hin o hoN, hin l hl, ?_, fun _ => ⟨fun q => ?_, fun _ => ⟨_, _, hr, fun _ => ?_, fun q => ?_⟩⟩⟩⟩, e2⟩
            · rw [nI_clamp (by omega), nI_clamp (by omega), c60, d60]
              exact fun q => absurd ((zk_e _ dk _ ck).mpr ke) q
            · rw [hm] at q
              exact absurd q z_10
            · unfold wp_L_areRooms_160
              rw [nI_add]
              exact e1
            · rw [if_neg (by rw [ke]; exact k0), if_neg k0] at q
              exact absurd ((nI_eq (by omega) (by omega)).mp q) hne
        · obtain ⟨σ', e1, e2⟩ := ih (o + 1) ρ (by omega) q hnx
          refine ⟨σ', start σ' ⟨hin l hl, fun q => absurd q n0, fun _ => ⟨hin o hoN, hin l hl, fun _ => ?_, ?_⟩⟩, e2⟩
          · unfold wp_L_areRooms_160
            rw [nI_add]
            exact e1
          · rw [nI_clamp (by omega), nI_clamp (by omega), c60, d60]
            exact fun q => absurd ((zk_e _ dk _ ck).mp q) ke
  have key : ∀ k l (ρ : sj_S), l + k = dN D → kQ σ ρ → ∃ σ', sj_J G 11 me_L_areRooms (.ok (nI 1), σ') 2 [.ref (sj_ad G 56), .int (nI l), .null, .null, .null] ρ [] ∧ kQ σ σ' := by
    intro k
    induction k with
    | zero =>
      intro l ρ hl q
      obtain rfl : l = dN D := by omega
      refine ⟨ρ, t_L_areRooms_2 hO ⟨fun _ => rfl, fun x => ?_⟩, q⟩
      rw [q 56 (by omega), hL.1] at x
      exact absurd (nI_le (Nat.le_refl _) (by omega)) x
    | succ k ih =>
      intro l ρ hl q
      have hlN : l < dN D := by omega
      obtain ⟨ρ', hr, hq⟩ := k_roomOf (σ := ρ) ok (kT_q h q) hlN
      have q' := kQ_t q hq
      obtain ⟨c60, c62, c61, ck, cd, c20⟩ := cell l hlN ρ' q'
      obtain ⟨σ', e1, e2⟩ := inner l hlN l 0 ρ' (by omega) q' (fun ρ2 q2 => ih (l + 1) ρ2 (by omega) q2)
      refine ⟨σ', t_L_areRooms_2 hO ⟨fun x => ?_, fun _ => ⟨_, _, hr, hin l hlN, ?_, ?_⟩⟩, e2⟩
      · rw [q 56 (by omega), hL.1] at x
        exact absurd x (nI_ge (by omega) (by omega))
      · rw [nI_clamp (by omega), c60]
        intro x
        have k0 : ¬ dKi D l = 0 := fun e => x ((zk_0 _ ck).mpr e)
        have lt1 := kRoom_lt hrt hlN k0
        have ro1 := v.2.2.2.2.2.2.1 (dKi D l - 1) (by omega)
        have er : ρ' 67 (dKi D l - 1) = nI (dRo D (dKi D l - 1)) := by rw [q' 67 (by omega)]; exact hL.2.2.2.2 _ (by omega)
        rw [if_neg k0, zk_n _ ck k0]
        refine ⟨fun y => absurd y (nI_pos (by omega)), fun _ => ⟨hin l hlN, z_in (by omega) (by decide), ?_, ?_⟩⟩
        · rw [nI_clamp (by omega), er]
          intro _
          unfold wp_L_areRooms_58
          rw [if_neg k0] at e1
          exact e1
        · rw [nI_clamp (by omega), er]
          exact fun y => absurd (nI_lt lt1 (by omega)) y
      · rw [nI_clamp (by omega), c60]
        intro x
        have k0 := (zk_0 _ ck).mp x
        rw [if_pos k0]
        refine ⟨fun _ => ?_, fun y => absurd rfl y⟩
        unfold wp_L_areRooms_58
        rw [if_pos k0] at e1
        exact e1
  obtain ⟨σ', e1, e2⟩ := key (dN D) 0 σ (by omega) (kQ_r σ)
  exact ⟨σ', c_L_areRooms ok hO e1, e2⟩
end L4
