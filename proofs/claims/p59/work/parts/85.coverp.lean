/-! COVER 4: the pairs ill, substitute, takes -/
def zSm (f : Nat → Nat) : Nat → Nat → Nat → Nat
  | 0, _, a => a
  | k + 1, i, a => zSm f k (i + 1) (a + f i)
theorem q_cnt_pos {N P : Nat → Bool} : ∀ n, q_cnt (fun l => N l && P (q_cnt N l)) n = q_cnt P (q_cnt N n) := by
  intro n
  induction n with
  | zero => rfl
  | succ n ih =>
    show q_cnt (fun l => N l && P (q_cnt N l)) n + (if (N n && P (q_cnt N n)) then 1 else 0) = q_cnt P (q_cnt N (n + 1))
    rw [ih, q_cnt_s]
    cases h : N n
    · rfl
    · show _ = q_cnt P (q_cnt N n + 1)
      rw [q_cnt_s]
      rfl
theorem q_cnt_not {P : Nat → Bool} : ∀ n, q_cnt (fun i => !P i) n + q_cnt P n = n := by
  intro n
  induction n with
  | zero => rfl
  | succ n ih =>
    rw [q_cnt_s, q_cnt_s]
    cases P n
    · simp only [Bool.not_false, if_true]
      simp
      omega
    · simp only [Bool.not_true, if_true]
      simp
      omega
theorem q_cnt_out {P : Nat → Bool} {n : Nat} : ∀ k, (∀ i, n ≤ i → P i = false) → q_cnt P (n + k) = q_cnt P n := by
  intro k h
  induction k with
  | zero => rfl
  | succ k ih =>
    show q_cnt P (n + k) + (if P (n + k) then 1 else 0) = _
    rw [ih, h (n + k) (by omega)]
    rfl
theorem zNe_out {D : zD} {T : Nat → Nat} {s : Nat} (v : okD D) : ∀ i, 9 ≤ i → zNe D T s i = false := fun i hi => by
  have h9 := v.1
  unfold zNe
  rw [decide_eq_false (by omega)]
  rfl
def zSv2 (D : zD) (T : Nat → Nat) (s : Nat) : Nat := zMx (zCC D T s) (zNm9 D T s) 0 (fun _ => true)
theorem zSv2_le {D : zD} {T : Nat → Nat} {s : Nat} : zSv2 D T s ≤ zNm9 D T s := zMx_n _ _ _
theorem zCt_m {C : Nat → Nat → Bool} {m : Nat} : zCt (zGg C m) m = zMx C m 0 (fun _ => true) := by
  have h := zG_due (C := C) (m := m) m (Nat.le_refl m)
  rw [Nat.sub_self] at h
  exact h
def zIl (D : zD) (T : Nat → Nat) (b : Bool) (s : Nat) : Nat := if b then zNm9 D T s - zSv2 D T s else zNm9 D T s
section ZVQ
variable {G : sj_G} {σ : sj_S} {D : zD} {T : Nat → Nat}
theorem z_bitsOf (ok : sj_ok G) {z : Int32} {f : Nat → Bool} (h : ∀ i, i < 32 → bt z i = (decide (i < 9) && f i)) : sj_C G 2 me_J6_bitCount_0f7a4 [.int z] σ (.ok (nI (q_cnt f 9)), σ) := by
  obtain ⟨m, h1, rfl, h2⟩ := z_word (f := fun i => decide (i < 9) && f i) (fun i hi => by
    rw [h i hi]
    by_cases q : i < 9
    · rw [decide_eq_true (by omega : i < 20)]; rfl
    · rw [decide_eq_false q]
      simp)
  have hb := z_bitCount (σ := σ) ok h1
  have e : q_cnt (fun i => m.testBit i) 20 = q_cnt f 9 := by
    rw [q_cnt_congr (r := fun i => decide (i < 9) && f i) 20 h2]
    have := q_cnt_out (P := fun i => decide (i < 9) && f i) (n := 9) 11 (fun i hi => by
      show (decide (i < 9) && f i) = false
      rw [decide_eq_false (by omega)]
      rfl)
    rw [show (20 : Nat) = 9 + 11 from rfl, this]
    exact q_cnt_congr 9 (fun i hi => by
      show (decide (i < 9) && f i) = f i
      rw [decide_eq_true hi]
      rfl)
  rw [e] at hb
  exact hb
theorem z_ilCount (ok : sj_ok G) (v : okD D) {s : Nat} {ρ : sj_S} (h : zVP D T s ρ) (b : Bool) : sj_C G 2 me_J6_bitCount_0f7a4 [.int (if (if b then nI 1 else nI 0) = 0 then ρ 41 1 else ρ 41 2)] ρ (.ok (nI (zIl D T b s)), ρ) := by
  obtain ⟨⟨h1, -⟩, -, h3, -⟩ := h
  cases b
  · rw [if_pos (show (if false = true then nI 1 else nI 0) = 0 from nI_0)]
    refine z_bitsOf (f := zNe D T s) ok (fun i hi => ?_)
    rw [h1 i hi]
    by_cases q : i < 9
    · rw [decide_eq_true q]; rfl
    · rw [decide_eq_false q, zNe_out v i (by omega)]; rfl
  · rw [if_neg (show ¬ (if true = true then nI 1 else nI 0) = 0 by decide)]
    have hb := z_bitsOf (σ := ρ) (z := ρ 41 2) ok h3
    have e : q_cnt (fun i => zNe D T s i && !decide (zGg (zCC D T s) (zNm9 D T s) (q_cnt (zNe D T s) i) < 6)) 9 = zIl D T true s := by
      rw [q_cnt_pos (N := zNe D T s) (P := fun k => !decide (zGg (zCC D T s) (zNm9 D T s) k < 6)) 9]
      have h1 := q_cnt_not (P := fun k => decide (zGg (zCC D T s) (zNm9 D T s) k < 6)) (q_cnt (zNe D T s) 9)
      have h2 : zCt (zGg (zCC D T s) (zNm9 D T s)) (zNm9 D T s) = zSv2 D T s := zCt_m
      have h2 : q_cnt (fun k => decide (zGg (zCC D T s) (zNm9 D T s) k < 6)) (q_cnt (zNe D T s) 9) = zSv2 D T s := h2
      show _ = zNm9 D T s - zSv2 D T s
      have h3 : zNm9 D T s = q_cnt (zNe D T s) 9 := rfl
      omega
    rw [e] at hb
    exact hb
theorem zI2_f2 {σ' : sj_S} (h : zA σ) (hf : ∀ b, b ∈ zKP → b ≠ 56 → σ' b = σ b) (hk : ∀ k, k ∈ [3, 7, 21, 22, 26, 27, 29] → σ' 56 k = σ 56 k) : zI2 σ σ' := by
  have e1 : ∀ b, b ∈ [2, 3, 4, 5, 32, 57, 58, 62] → b ∈ zKP ∧ b ≠ 56 := by decide
  have e2 : ∀ b, b ∈ [33, 46, 47, 48, 49, 50, 51, 52, 54, 55, 70, 71, 72, 73, 74, 75, 76] → b ∈ zKP ∧ b ≠ 56 := by decide
  have e3 : ∀ k, k ∈ [21, 22, 26, 27, 29] → k ∈ [3, 7, 21, 22, 26, 27, 29] := by decide
  exact ⟨zA_of h (fun b hb => hf b (e1 b hb).1 (e1 b hb).2) (hk 3 (by decide)) (hk 7 (by decide)) (by rw [hf 30 (by decide) (by decide)]), fun b hb => hf b (e2 b hb).1 (e2 b hb).2, fun k hk2 => hk k (e3 k hk2), by rw [hf 30 (by decide) (by decide)]⟩
def zVF (σ ρ : sj_S) : Prop := ∀ b, b ≠ 41 → b ≠ 42 → b ≠ 43 → ρ b = σ b
theorem z_illL (ok : sj_ok G) (hC : repC D (σ 2)) (v : okD D) (hT : repT (dN D) T (σ 3)) {d : Nat} (hd : d < 5) (b : Bool) : ∀ k i a (ρ : sj_S), i + k = 4 * d + 4 → zVF σ ρ → ∃ ρ', sj_J G 43 me_X11_ill (.ok (nI (zSm (zIl D T b) k i a)), ρ') 17 [.ref (sj_ad G 0), .int (nI d), .int (if b then nI 1 else nI 0), .int (nI a), .int (nI i)] ρ [] ∧ zVF σ ρ' := by
  intro k
  induction k with
  | zero =>
    intro i a ρ hi hf
    refine ⟨ρ, t_X11_ill_17 ⟨fun _ => rfl, fun q => ?_⟩, hf⟩
    rw [nI_add, pk_mul] at q
    exact absurd (nI_le (by omega) (by omega)) q
  | succ k ih =>
    intro i a ρ hi hf
    obtain ⟨ρ1, h1, h2, h3⟩ := z_coverPlan (σ := ρ) (D := D) (T := T) (s := i) ok (by rw [hf 2 (by decide) (by decide) (by decide)]; exact hC) v (by rw [hf 3 (by decide) (by decide) (by decide)]; exact hT) (by omega)
    obtain ⟨ρ', g1, g2⟩ := ih (i + 1) (a + zIl D T b i) ρ1 (by omega) (fun c n1 n2 n3 => by rw [h2 c n1 n2 n3]; exact hf c n1 n2 n3)
    refine ⟨ρ', t_X11_ill_17 ⟨fun q => ?_, fun _ => ⟨_, h1, ?_⟩⟩, g2⟩
    · rw [nI_add, pk_mul] at q
      exact absurd q (nI_ge (by omega) (by omega))
    · unfold wp_X11_ill_62
      refine ⟨_, _, z_ilCount ok v h3 b, ?_⟩
      rw [nI_add, nI_add]
      exact g1
theorem zVF_K {ρ : sj_S} (h : zVF σ ρ) : ∀ b, b ∈ zKP → ρ b = σ b := fun b hb => by
  have : ∀ b, b ∈ zKP → b ≠ 41 ∧ b ≠ 42 ∧ b ≠ 43 := by decide
  obtain ⟨h1, h2, h3⟩ := this b hb
  exact h b h1 h2 h3
theorem zPL_I {τ κ ρ : sj_S} (h : zA σ) (hτ : zVF σ τ) (f1 : ∀ b, b ≠ 59 → b ≠ 60 → κ b = sj_st τ 56 0 (nI 0) b) (hρ : zPF κ ρ) : zI2 σ ρ ∧ ρ 56 0 = nI 0 := by
  refine ⟨zI2_f2 h (fun b hb hne => ?_) (fun k hk => ?_), ?_⟩
  · have : ∀ b, b ∈ zKP → b ≠ 66 ∧ b ≠ 67 ∧ b ≠ 68 ∧ b ≠ 59 ∧ b ≠ 60 := by decide
    obtain ⟨n1, n2, n3, n4, n5⟩ := this b hb
    rw [hρ.1 b hne n1 n2 n3, f1 b n4 n5, z_stn hne]
    exact zVF_K hτ b hb
  · have : ∀ k, k ∈ [3, 7, 21, 22, 26, 27, 29] → k ≠ 15 ∧ k ≠ 16 ∧ k ≠ 0 := by decide
    obtain ⟨n1, n2, n3⟩ := this k hk
    rw [hρ.2 k n1 n2, f1 56 (by decide) (by decide), z_sti n3, zVF_K hτ 56 (by decide)]
  · rw [hρ.2 0 (by decide) (by decide), f1 56 (by decide) (by decide), z_ste]
def zTkr (D : zD) (T : Nat → Nat) (s l : Nat) : Int32 := if zNe D T s l = true ∧ zGg (zCC D T s) (zNm9 D T s) (q_cnt (zNe D T s) l) < 6 then nI (zGg (zCC D T s) (zNm9 D T s) (q_cnt (zNe D T s) l)) else -1
theorem zNd_of {N : Nat → Bool} {k : Nat} (hk : k < q_cnt N 9) : zNd N k < 9 ∧ N (zNd N k) = true ∧ q_cnt N (zNd N k) = k := by
  obtain ⟨i, h1, h2, h3⟩ := q_cnt_find 9 hk
  have := zNd_eq h1 h2
  rw [h3] at this
  rw [this]
  exact ⟨h1, h2, h3⟩
theorem zTakes1 {C : Nat → Nat → Bool} {m t : Nat} (ht : t < 6) : ∀ k, q_cnt (fun i => decide (zGg C m i = t)) k = if zGS C m k t = true then 0 else 1 := by
  intro k
  induction k with
  | zero => rfl
  | succ k ih =>
    rw [q_cnt_s, ih, zGS_s]
    unfold zRmv
    by_cases e : zGg C m k = t
    · have hv := (zG_val (C := C) (m := m) (k + 1) k (by omega) (by omega)).2
      have hS : zGS C m k t = true := by
        rw [← zG_VS, zVS_iff]
        intro j hj
        rw [← e]
        exact hv j hj
      rw [hS, e]
      simp
    · rw [decide_eq_false e, decide_eq_false (fun q => e q.symm)]
      simp
def zTq (D : zD) (T : Nat → Nat) (t s : Nat) : Nat := if zGS (zCC D T s) (zNm9 D T s) (zNm9 D T s) t = true then 0 else 1
theorem z_takesL (ok : sj_ok G) (hC : repC D (σ 2)) (v : okD D) (hT : repT (dN D) T (σ 3)) {t : Nat} (ht : t < 6) : ∀ k i a (ρ : sj_S), i + k = 20 → zVF σ ρ → ∃ ρ', sj_J G 43 me_X11_takes (.ok (nI (zSm (zTq D T t) k i a)), ρ') 15 [.ref (sj_ad G 0), .int (nI t), .int (nI a), .int (nI i)] ρ [] ∧ zVF σ ρ' := by
  intro k
  induction k with
  | zero =>
    intro i a ρ hi hf
    exact ⟨ρ, t_X11_takes_15 ⟨fun _ => rfl, fun q => absurd (nI_le (by omega) (by omega)) q⟩, hf⟩
  | succ k ih =>
    intro i a ρ hi hf
    obtain ⟨ρ1, h1, h2, h3⟩ := z_coverPlan (σ := ρ) (D := D) (T := T) (s := i) ok (by rw [hf 2 (by decide) (by decide) (by decide)]; exact hC) v (by rw [hf 3 (by decide) (by decide) (by decide)]; exact hT) (by omega)
    obtain ⟨ρ', g1, g2⟩ := ih (i + 1) (a + zTq D T t i) ρ1 (by omega) (fun c n1 n2 n3 => by rw [h2 c n1 n2 n3]; exact hf c n1 n2 n3)
    refine ⟨ρ', t_X11_takes_15 ⟨fun q => absurd q (nI_ge (by omega) (by omega)), fun _ => ⟨_, h1, ?_⟩⟩, g2⟩
    have e : (((ρ1 41 3) >>> (nI t &&& 31)) &&& nI 1) ^^^ nI 1 = nI (zTq D T t i) := by
      rw [z_bitv (by omega), h3.2.2.2 t ht]
      unfold zTq
      cases zGS (zCC D T i) (zNm9 D T i) (zNm9 D T i) t <;> decide
    rw [e, nI_add, nI_add]
    exact g1
end ZVQ
