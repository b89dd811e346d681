/-! COVER 4: the pairs ill, substitute, takes -/
def zSm (f : Nat → Nat) : Nat → Nat → Nat → Nat
  | 0, _, a => a
  | k + 1, i, a => zSm f k (i + 1) (a + f i)
theorem q_cnt_pos {N P : Nat → Bool} : ∀ n, q_cnt (fun l => N l && P (q_cnt N l)) n = q_cnt P (q_cnt N n) := by
  intro n
  induction n with
  | zero => rfl
  | succ n ih =>
    show q_cnt (fun l => N l && P (q_cnt N l)) n + (if (N n && P (q_cnt N n)) then 1 else 0) = q_cnt P (q_cnt N (n + 1))
    rw [ih, q_cnt_s]
    cases h : N n
    · rfl
    · show _ = q_cnt P (q_cnt N n + 1)
      rw [q_cnt_s]
      rfl
theorem q_cnt_not {P : Nat → Bool} : ∀ n, q_cnt (fun i => !P i) n + q_cnt P n = n := by
  intro n
  induction n with
  | zero => rfl
  | succ n ih =>
    rw [q_cnt_s, q_cnt_s]
    cases P n
    · simp only [Bool.not_false, if_true]
      simp
      omega
    · simp only [Bool.not_true, if_true]
      simp
      omega
theorem q_cnt_out {P : Nat → Bool} {n : Nat} : ∀ k, (∀ i, n ≤ i → P i = false) → q_cnt P (n + k) = q_cnt P n := by
  intro k h
  induction k with
  | zero => rfl
  | succ k ih =>
    show q_cnt P (n + k) + (if P (n + k) then 1 else 0) = _
    rw [ih, h (n + k) (by omega)]
    rfl
theorem zNe_out {D : zD} {T : Nat → Nat} {s : Nat} (v : okD D) : ∀ i, 9 ≤ i → zNe D T s i = false := fun i hi => by
  have h9 := v.1
  unfold zNe
  rw [decide_eq_false (by omega)]
  rfl
def zSv2 (D : zD) (T : Nat → Nat) (s : Nat) : Nat := zMx (zCC D T s) (zNm9 D T s) 0 (fun _ => true)
theorem zSv2_le {D : zD} {T : Nat → Nat} {s : Nat} : zSv2 D T s ≤ zNm9 D T s := zMx_n _ _ _
theorem zCt_m {C : Nat → Nat → Bool} {m : Nat} : zCt (zGg C m) m = zMx C m 0 (fun _ => true) := by
  have h := zG_due (C := C) (m := m) m (Nat.le_refl m)
  rw [Nat.sub_self] at h
  exact h
/-- how many of a slot count -/
def zIl (D : zD) (T : Nat → Nat) (b : Bool) (s : Nat) : Nat := if b then zNm9 D T s - zSv2 D T s else zNm9 D T s
section ZVQ
variable {G : sj_G} {σ : sj_S} {D : zD} {T : Nat → Nat}
theorem z_bitsOf (ok : sj_ok G) {z : Int32} {f : Nat → Bool} (h : ∀ i, i < 32 → bt z i = (decide (i < 9) && f i)) : sj_C G 2 me_J6_bitCount_0f7a4 [.int z] σ (.ok (nI (q_cnt f 9)), σ) := by
  obtain ⟨m, h1, rfl, h2⟩ := z_word (f := fun i => decide (i < 9) && f i) (fun i hi => by
    rw [h i hi]
    by_cases q : i < 9
    · rw [decide_eq_true (by omega : i < 20)]; rfl
    · rw [decide_eq_false q]
      simp)
  have hb := z_bitCount (σ := σ) ok h1
  have e : q_cnt (fun i => m.testBit i) 20 = q_cnt f 9 := by
    rw [q_cnt_congr (r := fun i => decide (i < 9) && f i) 20 h2]
    have := q_cnt_out (P := fun i => decide (i < 9) && f i) (n := 9) 11 (fun i hi => by
      show (decide (i < 9) && f i) = false
      rw [decide_eq_false (by omega)]
      rfl)
    rw [show (20 : Nat) = 9 + 11 from rfl, this]
    exact q_cnt_congr 9 (fun i hi => by
      show (decide (i < 9) && f i) = f i
      rw [decide_eq_true hi]
      rfl)
  rw [e] at hb
  exact hb
theorem z_ilCount (ok : sj_ok G) (v : okD D) {s : Nat} {ρ : sj_S} (h : zVP D T s ρ) (b : Bool) : sj_C G 2 me_J6_bitCount_0f7a4 [.int (if (if b then nI 1 else nI 0) = 0 then ρ 41 1 else ρ 41 2)] ρ (.ok (nI (zIl D T b s)), ρ) := by
  obtain ⟨⟨h1, -⟩, -, h3, -⟩ := h
  cases b
  · rw [if_pos (show (if false = true then nI 1 else nI 0) = 0 from nI_0)]
    refine z_bitsOf (f := zNe D T s) ok (fun i hi => ?_)
    rw [h1 i hi]
    by_cases q : i < 9
    · rw [decide_eq_true q]; rfl
    · rw [decide_eq_false q, zNe_out v i (by omega)]; rfl
  · rw [if_neg (show ¬ (if true = true then nI 1 else nI 0) = 0 by decide)]
    have hb := z_bitsOf (σ := ρ) (z := ρ 41 2) ok h3
    have e : q_cnt (fun i => zNe D T s i && !decide (zGg (zCC D T s) (zNm9 D T s) (q_cnt (zNe D T s) i) < 6)) 9 = zIl D T true s := by
      rw [q_cnt_pos (N := zNe D T s) (P := fun k => !decide (zGg (zCC D T s) (zNm9 D T s) k < 6)) 9]
      have h1 := q_cnt_not (P := fun k => decide (zGg (zCC D T s) (zNm9 D T s) k < 6)) (q_cnt (zNe D T s) 9)
      have h2 : zCt (zGg (zCC D T s) (zNm9 D T s)) (zNm9 D T s) = zSv2 D T s := zCt_m
      have h2 : q_cnt (fun k => decide (zGg (zCC D T s) (zNm9 D T s) k < 6)) (q_cnt (zNe D T s) 9) = zSv2 D T s := h2
      show _ = zNm9 D T s - zSv2 D T s
      have h3 : zNm9 D T s = q_cnt (zNe D T s) 9 := rfl
      omega
    rw [e] at hb
    exact hb
theorem zI2_f2 {σ' : sj_S} (h : zA σ) (hf : ∀ b, b ∈ zKP → b ≠ 56 → σ' b = σ b) (hk : ∀ k, k ∈ [3, 7, 21, 22, 26, 27, 29] → σ' 56 k = σ 56 k) : zI2 σ σ' := by
  have e1 : ∀ b, b ∈ [2, 3, 4, 5, 32, 57, 58, 62] → b ∈ zKP ∧ b ≠ 56 := by decide
  have e2 : ∀ b, b ∈ [33, 46, 47, 48, 49, 50, 51, 52, 54, 55, 70, 71, 72, 73, 74, 75, 76] → b ∈ zKP ∧ b ≠ 56 := by decide
  have e3 : ∀ k, k ∈ [21, 22, 26, 27, 29] → k ∈ [3, 7, 21, 22, 26, 27, 29] := by decide
  exact ⟨zA_of h (fun b hb => hf b (e1 b hb).1 (e1 b hb).2) (hk 3 (by decide)) (hk 7 (by decide)) (by rw [hf 30 (by decide) (by decide)]), fun b hb => hf b (e2 b hb).1 (e2 b hb).2, fun k hk2 => hk k (e3 k hk2), by rw [hf 30 (by decide) (by decide)]⟩
/-- frames of the three calls -/
def zVF (σ ρ : sj_S) : Prop := ∀ b, b ≠ 41 → b ≠ 42 → b ≠ 43 → ρ b = σ b
theorem z_illL (ok : sj_ok G) (hC : repC D (σ 2)) (v : okD D) (hT : repT (dN D) T (σ 3)) {d : Nat} (hd : d < 5) (b : Bool) : ∀ k i a (ρ : sj_S), i + k = 4 * d + 4 → zVF σ ρ → ∃ ρ', sj_J G 43 me_X11_ill (.ok (nI (zSm (zIl D T b) k i a)), ρ') 17 [.ref (sj_ad G 0), .int (nI d), .int (if b then nI 1 else nI 0), .int (nI a), .int (nI i)] ρ [] ∧ zVF σ ρ' := by
  intro k
  induction k with
  | zero =>
    intro i a ρ hi hf
    refine ⟨ρ, t_X11_ill_17 ⟨fun _ => rfl, fun q => ?_⟩, hf⟩
    rw [nI_add, pk_mul] at q
    exact absurd (nI_le (by omega) (by omega)) q
  | succ k ih =>
    intro i a ρ hi hf
    obtain ⟨ρ1, h1, h2, h3⟩ := z_coverPlan (σ := ρ) (D := D) (T := T) (s := i) ok (by rw [hf 2 (by decide) (by decide) (by decide)]; exact hC) v (by rw [hf 3 (by decide) (by decide) (by decide)]; exact hT) (by omega)
    obtain ⟨ρ', g1, g2⟩ := ih (i + 1) (a + zIl D T b i) ρ1 (by omega) (fun c n1 n2 n3 => by rw [h2 c n1 n2 n3]; exact hf c n1 n2 n3)
    refine ⟨ρ', t_X11_ill_17 ⟨fun q => ?_, fun _ => ⟨_, h1, ?_⟩⟩, g2⟩
    · rw [nI_add, pk_mul] at q
      exact absurd q (nI_ge (by omega) (by omega))
    · unfold wp_X11_ill_62
      refine ⟨_, _, z_ilCount ok v h3 b, ?_⟩
      rw [nI_add, nI_add]
      exact g1
theorem y_illL (ok : sj_ok G) (hM : repM D (σ 57)) (v : okD D) (hT : ∀ l, l < dN D → σ 59 l = nI (T l) ∧ T l < 40) {d : Nat} (hd : d < 5) (b : Bool) : ∀ k i a (ρ : sj_S), i + k = 4 * d + 4 → zPF σ ρ → ∃ ρ', sj_J G 8 me_X12_ill (.ok (nI (zSm (zIl D T b) k i a)), ρ') 40 [.ref (sj_ad G 56), .int (nI d), .int (if b then nI 1 else nI 0), .int (nI a), .int (nI i)] ρ [] ∧ zPF σ ρ' := by
  intro k
  induction k with
  | zero =>
    intro i a ρ hi hf
    refine ⟨ρ, t_X12_ill_40 ⟨fun _ => rfl, fun q => ?_⟩, hf⟩
    rw [pk_mul, nI_add] at q
    exact absurd (nI_le (by omega) (by omega)) q
  | succ k ih =>
    intro i a ρ hi hf
    obtain ⟨ρ1, h1, h2, h3, h4, -⟩ := y_plans (σ := ρ) (D := D) (T := T) (s := i) ok (by rw [hf.1 57 (by decide) (by decide) (by decide) (by decide)]; exact hM) v (fun l hl => by rw [hf.1 59 (by decide) (by decide) (by decide) (by decide)]; exact hT l hl) (by omega)
    obtain ⟨ρ', g1, g2⟩ := ih (i + 1) (a + zIl D T b i) ρ1 (by omega) ⟨fun c n1 n2 n3 n4 => by rw [h2.1 c n1 n2 n3 n4]; exact hf.1 c n1 n2 n3 n4, fun c n1 n2 => by rw [h2.2 c n1 n2]; exact hf.2 c n1 n2⟩
    have hle := zSv2_le (D := D) (T := T) (s := i)
    refine ⟨ρ', t_X12_ill_40 ⟨fun q => ?_, fun _ => ⟨_, h1, ?_⟩⟩, g2⟩
    · rw [pk_mul, nI_add] at q
      exact absurd q (nI_ge (by omega) (by omega))
    · unfold wp_X12_ill_77
      have e : (if (if b then nI 1 else nI 0) = 0 then ρ1 56 15 else ρ1 56 15 - ρ1 56 16) = nI (zIl D T b i) := by
        rw [h3, h4]
        cases b
        · rw [if_pos (show (if false = true then nI 1 else nI 0) = 0 from nI_0)]; rfl
        · rw [if_neg (show ¬ (if true = true then nI 1 else nI 0) = 0 by decide)]
          exact pk_sub hle
      rw [e, nI_add, nI_add]
      exact g1
theorem zVF_K {ρ : sj_S} (h : zVF σ ρ) : ∀ b, b ∈ zKP → ρ b = σ b := fun b hb => by
  have : ∀ b, b ∈ zKP → b ≠ 41 ∧ b ≠ 42 ∧ b ≠ 43 := by decide
  obtain ⟨h1, h2, h3⟩ := this b hb
  exact h b h1 h2 h3
/-- the reference's state behind looksAtTable and some plans -/
theorem zPL_I {τ κ ρ : sj_S} (h : zA σ) (hτ : zVF σ τ) (f1 : ∀ b, b ≠ 59 → b ≠ 60 → κ b = sj_st τ 56 0 (nI 0) b) (hρ : zPF κ ρ) : zI2 σ ρ ∧ ρ 56 0 = nI 0 := by
  refine ⟨zI2_f2 h (fun b hb hne => ?_) (fun k hk => ?_), ?_⟩
  · have : ∀ b, b ∈ zKP → b ≠ 66 ∧ b ≠ 67 ∧ b ≠ 68 ∧ b ≠ 59 ∧ b ≠ 60 := by decide
    obtain ⟨n1, n2, n3, n4, n5⟩ := this b hb
    rw [hρ.1 b hne n1 n2 n3, f1 b n4 n5, z_stn hne]
    exact zVF_K hτ b hb
  · have : ∀ k, k ∈ [3, 7, 21, 22, 26, 27, 29] → k ≠ 15 ∧ k ≠ 16 ∧ k ≠ 0 := by decide
    obtain ⟨n1, n2, n3⟩ := this k hk
    rw [hρ.2 k n1 n2, f1 56 (by decide) (by decide), z_sti n3, zVF_K hτ 56 (by decide)]
  · rw [hρ.2 0 (by decide) (by decide), f1 56 (by decide) (by decide), z_ste]
theorem p_ill (ok : sj_ok G) (h : zA σ) (x : Int32) (b : Bool) : zPair G (zI2 σ) 43 me_X11_ill 8 me_X12_ill [.int x, .int (if b then nI 1 else nI 0)] (zcd 1 2 0) σ := by
  obtain ⟨D, T, v, hC, hM, hT⟩ := h.1
  have h9 := v.1
  have e57 : sj_st σ 56 0 (nI 0) 57 = σ 57 := z_stn (by decide)
  have hM0 : repM D (sj_st σ 56 0 (nI 0) 57) := by rw [e57]; exact hM
  rcases z_rg x 5 with ⟨d, hd, rfl⟩ | hx
  · by_cases hq : dT D = 1
    · obtain ⟨hT, -⟩ := hT hq
      have hR : repT (dN D) T (σ 3) := fun l hl => ⟨(hT l hl).1, (hT l hl).2.2⟩
      obtain ⟨τ, c1, c2⟩ := z_illL (σ := σ) ok hC v hR hd b 4 (d * 4) 0 σ (by omega) (fun _ _ _ _ => rfl)
      have hMτ : repM D (sj_st τ 56 0 (nI 0) 57) := by rw [z_stn (by decide), zVF_K c2 57 (by decide)]; exact hM
      obtain ⟨κ, hlk, f1, f2, f3⟩ := y_looksAtTable (σ := sj_st τ 56 0 (nI 0)) ok h9 hMτ.1
      have κ57 : κ 57 = σ 57 := by rw [f1 57 (by decide) (by decide), z_stn (by decide), zVF_K c2 57 (by decide)]
      obtain ⟨ρ, m1, m2⟩ := y_illL (σ := κ) (D := D) (T := T) ok (by rw [κ57]; exact hM) v (fun l hl => ⟨by rw [f2 l hl, z_stn (by decide), zVF_K c2 57 (by decide)]; exact (hT l hl).2.1, by have := (hT l hl).2.2; omega⟩) hd b 4 (4 * d) 0 κ (by omega) ⟨fun _ _ _ _ _ => rfl, fun _ _ _ => rfl⟩
      obtain ⟨i1, i2⟩ := zPL_I h c2 f1 m2
      have hcc : sj_C G 43 me_X11_ill [.ref (sj_ad G 0), .int (nI d), .int (if b then nI 1 else nI 0)] σ (.ok (nI (zSm (zIl D T b) 4 (d * 4) 0)), τ) := by
        refine c_X11_ill ok (Or.inl ⟨_, z_range0 ok hd (by decide), Or.inl ⟨_, z_requireTable0 ok (hC.2.2.1.trans (by rw [hq])), ?_⟩⟩)
        rw [pk_mul]
        exact c1
      have hmm : sj_C G 8 me_X12_ill [.ref (sj_ad G 56), .int (nI d), .int (if b then nI 1 else nI 0)] τ (.ok (nI (zSm (zIl D T b) 4 (4 * d) 0)), ρ) := by
        refine c_X12_ill ok ⟨_, _, y_inr1 ok (B := 4) hd (by decide), _, _, y_fails1 ok zT00, fun q => absurd nI_0 q, fun _ => ⟨_, _, y_noTable0 ok zT00 (hMτ.2.2.1.trans (by rw [hq])), fun _ => ⟨_, hlk, ?_⟩, fun q => absurd nI_0 q⟩⟩
        rw [pk_mul]
        exact m1
      exact ⟨_, _, _, _, hcc, hmm, zSame_ok i2 (by rw [Nat.mul_comm]), i1⟩
    · have hq := zT_of v hq
      have hm : sj_C G 8 me_X12_ill [.ref (sj_ad G 56), .int (nI d), .int (if b then nI 1 else nI 0)] σ (.ok (nI 0), sj_st (sj_st σ 56 0 (nI 0)) 56 0 (nI 2)) :=
        c_X12_ill ok ⟨_, _, y_inr1 ok (B := 4) hd (by decide), _, _, y_fails1 ok zT00, fun q => absurd nI_0 q, fun _ => ⟨_, _, y_noTable1 ok zT00 (hM0.2.2.1.trans (by rw [hq])) (by decide), fun q => absurd q z_10, fun _ => rfl⟩⟩
      exact ⟨_, _, _, _, c_X11_ill ok (Or.inl ⟨_, z_range0 ok hd (by decide), Or.inr ⟨_, _, z_requireTable1 ok (hC.2.2.1.trans (by rw [hq])), rfl⟩⟩), hm, zSame_er (by decide) z_ste, zI2_th2 h⟩
  · have hm : sj_C G 8 me_X12_ill [.ref (sj_ad G 56), .int x, .int (if b then nI 1 else nI 0)] σ (.ok (nI 0), sj_st (sj_st σ 56 0 (nI 0)) 56 0 (nI 1)) :=
      c_X12_ill ok ⟨_, _, y_inr0 ok (B := 4) hx (by decide), _, _, y_fails0 ok zT00 (by decide), fun _ => rfl, fun q => absurd q z_10⟩
    exact ⟨_, _, _, _, c_X11_ill ok (Or.inr ⟨_, _, z_range1 ok hx (by decide) (by decide), rfl⟩), hm, zSame_er (by decide) z_ste, zI2_th2 h⟩
def zTkr (D : zD) (T : Nat → Nat) (s l : Nat) : Int32 := if zNe D T s l = true ∧ zGg (zCC D T s) (zNm9 D T s) (q_cnt (zNe D T s) l) < 6 then nI (zGg (zCC D T s) (zNm9 D T s) (q_cnt (zNe D T s) l)) else -1
theorem zNd_of {N : Nat → Bool} {k : Nat} (hk : k < q_cnt N 9) : zNd N k < 9 ∧ N (zNd N k) = true ∧ q_cnt N (zNd N k) = k := by
  obtain ⟨i, h1, h2, h3⟩ := q_cnt_find 9 hk
  have := zNd_eq h1 h2
  rw [h3] at this
  rw [this]
  exact ⟨h1, h2, h3⟩
theorem y_substL (ok : sj_ok G) (v : okD D) {s l : Nat} (hl : l < dN D) {ρ : sj_S} (hE : zPE D T s ρ) : sj_J G 8 me_X12_substitute (.ok (zTkr D T s l), ρ) 50 [.ref (sj_ad G 56), .int (nI l), .null, .int (nI 0)] ρ [] := by
  have h9 := v.1
  obtain ⟨e1, -, e3⟩ := hE
  have hmd : zNm9 D T s = q_cnt (zNe D T s) 9 := rfl
  have hm9 : zNm9 D T s ≤ 9 := by rw [hmd]; exact q_cnt_le _ 9
  have key : ∀ n k, k + n = zNm9 D T s → (∀ j, j < k → ¬ (zNd (zNe D T s) j = l ∧ zGg (zCC D T s) (zNm9 D T s) j < 6)) → sj_J G 8 me_X12_substitute (.ok (zTkr D T s l), ρ) 50 [.ref (sj_ad G 56), .int (nI l), .null, .int (nI k)] ρ [] := by
    intro n
    induction n with
    | zero =>
      intro k hk hno
      refine t_X12_substitute_50 ⟨fun _ => ?_, fun q => ?_⟩
      · unfold zTkr
        rw [if_neg]
        rintro ⟨h1, h2⟩
        have hlt : q_cnt (zNe D T s) l < k := by
          have := q_cnt_mono (S := zNe D T s) (i := l + 1) 9 (by omega)
          rw [q_cnt_s, h1] at this
          simp only [if_true] at this
          omega
        exact hno _ hlt ⟨zNd_eq (by omega) h1, h2⟩
      · rw [e1] at q
        exact absurd (nI_le (by omega) (by omega)) q
    | succ n ih =>
      intro k hk hno
      obtain ⟨f1, f2⟩ := e3 k (by omega)
      obtain ⟨n1, n2, n3⟩ := zNd_of (N := zNe D T s) (k := k) (by omega)
      have g6 := zGg_6 (C := zCC D T s) (m := zNm9 D T s) (k := k)
      have i9 : vp_in (nI k) 9 := z_in (by omega) (by decide)
      refine t_X12_substitute_50 ⟨fun q => ?_, fun _ => ⟨i9, ?_⟩⟩
      · rw [e1] at q
        exact absurd q (nI_ge (by omega) (by omega))
      · rw [nI_clamp (by omega), f1, f2, nI_eq (by omega) (by omega), nI_leI (by decide) (by omega)]
        refine ⟨fun q => ?_, fun q => ⟨i9, fun q2 => ?_, fun q2 => ⟨i9, ?_⟩⟩⟩
        · unfold wp_X12_substitute_86
          rw [nI_add]
          refine ih (k + 1) (by omega) (fun j hj r => ?_)
          by_cases e : j = k
          · subst e; exact q r.1
          · exact hno j (by omega) r
        · unfold wp_X12_substitute_86
          rw [nI_add]
          refine ih (k + 1) (by omega) (fun j hj r => ?_)
          by_cases e : j = k
          · subst e; omega
          · exact hno j (by omega) r
        · unfold zTkr
          rw [← q, n3, if_pos ⟨n2, by omega⟩]
  exact key (zNm9 D T s) 0 (by omega) (fun j hj => absurd hj (by omega))
theorem p_substitute (ok : sj_ok G) (h : zA σ) (x y : Int32) : zPair G (zI2 σ) 43 me_X11_substitute 8 me_X12_substitute [.int x, .int y] (zcd 3 1 2) σ := by
  obtain ⟨D, T, v, hC, hM, hT⟩ := h.1
  have h9 := v.1
  have hM0 : repM D ((sj_st σ 56 0 (nI 0)) 57) := by rw [z_stn (by decide)]; exact hM
  rcases z_rg x (dN D) with ⟨l, hl, rfl⟩ | hx
  · rcases z_rg y 20 with ⟨s, hs, rfl⟩ | hy
    · by_cases hq : dT D = 1
      · obtain ⟨hT, -⟩ := hT hq
        have hR : repT (dN D) T (σ 3) := fun l hl => ⟨(hT l hl).1, (hT l hl).2.2⟩
        obtain ⟨τ, c1, c2, c3⟩ := z_coverPlan (σ := σ) (D := D) (T := T) (s := s) ok hC v hR hs
        have c2 : zVF σ τ := c2
        have hMτ : repM D (sj_st τ 56 0 (nI 0) 57) := by rw [z_stn (by decide), zVF_K c2 57 (by decide)]; exact hM
        obtain ⟨κ, hlk, f1, f2, f3⟩ := y_looksAtTable (σ := sj_st τ 56 0 (nI 0)) ok h9 hMτ.1
        have κ57 : κ 57 = σ 57 := by rw [f1 57 (by decide) (by decide), z_stn (by decide), zVF_K c2 57 (by decide)]
        obtain ⟨ρ, m1, m2, m3⟩ := y_plans (σ := κ) (D := D) (T := T) (s := s) ok (by rw [κ57]; exact hM) v (fun l hl => ⟨by rw [f2 l hl, z_stn (by decide), zVF_K c2 57 (by decide)]; exact (hT l hl).2.1, by have := (hT l hl).2.2; omega⟩) hs
        obtain ⟨i1, i2⟩ := zPL_I h c2 f1 m2
        have hcc : sj_C G 43 me_X11_substitute [.ref (sj_ad G 0), .int (nI l), .int (nI s)] σ (.ok (zTkr D T s l), τ) := by
          refine c_X11_substitute ok (Or.inl ⟨_, z_requireLesson0 ok hC v hl, Or.inl ⟨_, z_range0 ok hs (by decide), Or.inl ⟨_, z_requireTable0 ok (hC.2.2.1.trans (by rw [hq])), _, c1, z_in (by omega) (by decide), ?_⟩⟩⟩)
          rw [nI_clamp (by omega), c3.2.1 l (by omega)]
          rfl
        have hmm : sj_C G 8 me_X12_substitute [.ref (sj_ad G 56), .int (nI l), .int (nI s)] τ (.ok (zTkr D T s l), ρ) :=
          c_X12_substitute ok ⟨_, _, y_noLesson0 ok hMτ v zT00 hl, fun q => absurd nI_0 q, fun _ => ⟨_, _, y_inr1 ok (B := 19) hs (by decide), _, _, y_fails1 ok zT00, fun q => absurd nI_0 q, fun _ => ⟨_, _, y_noTable0 ok zT00 (hMτ.2.2.1.trans (by rw [hq])), fun _ => ⟨_, hlk, _, m1, y_substL ok v hl m3⟩, fun q => absurd nI_0 q⟩⟩⟩
        exact ⟨_, _, _, _, hcc, hmm, zSame_ok i2 rfl, i1⟩
      · have hq := zT_of v hq
        have hm : sj_C G 8 me_X12_substitute [.ref (sj_ad G 56), .int (nI l), .int (nI s)] σ (.ok (nI 0), sj_st (sj_st σ 56 0 (nI 0)) 56 0 (nI 3)) :=
          c_X12_substitute ok ⟨_, _, y_noLesson0 ok hM0 v zT00 hl, fun q => absurd nI_0 q, fun _ => ⟨_, _, y_inr1 ok (B := 19) hs (by decide), _, _, y_fails1 ok zT00, fun q => absurd nI_0 q, fun _ => ⟨_, _, y_noTable1 ok zT00 (hM0.2.2.1.trans (by rw [hq])) (by decide), fun q => absurd q z_10, fun _ => rfl⟩⟩⟩
        exact ⟨_, _, _, _, c_X11_substitute ok (Or.inl ⟨_, z_requireLesson0 ok hC v hl, Or.inl ⟨_, z_range0 ok hs (by decide), Or.inr ⟨_, _, z_requireTable1 ok (hC.2.2.1.trans (by rw [hq])), rfl⟩⟩⟩), hm, zSame_er (by decide) z_ste, zI2_th2 h⟩
    · have hm : sj_C G 8 me_X12_substitute [.ref (sj_ad G 56), .int (nI l), .int y] σ (.ok (nI 0), sj_st (sj_st σ 56 0 (nI 0)) 56 0 (nI 2)) :=
        c_X12_substitute ok ⟨_, _, y_noLesson0 ok hM0 v zT00 hl, fun q => absurd nI_0 q, fun _ => ⟨_, _, y_inr0 ok (B := 19) hy (by decide), _, _, y_fails0 ok zT00 (by decide), fun _ => rfl, fun q => absurd q z_10⟩⟩
      exact ⟨_, _, _, _, c_X11_substitute ok (Or.inl ⟨_, z_requireLesson0 ok hC v hl, Or.inr ⟨_, _, z_range1 ok hy (by decide) (by decide), rfl⟩⟩), hm, zSame_er (by decide) z_ste, zI2_th2 h⟩
  · have hm : sj_C G 8 me_X12_substitute [.ref (sj_ad G 56), .int x, .int y] σ (.ok (nI 0), sj_st (sj_st σ 56 0 (nI 0)) 56 0 (nI 1)) :=
      c_X12_substitute ok ⟨_, _, y_noLesson1 ok hM0 v zT00 hx (by decide), fun _ => rfl, fun q => absurd q z_10⟩
    exact ⟨_, _, _, _, c_X11_substitute ok (Or.inr ⟨_, _, z_requireLesson1 ok hC v hx, rfl⟩), hm, zSame_er (by decide) z_ste, zI2_th2 h⟩
theorem zTakes1 {C : Nat → Nat → Bool} {m t : Nat} (ht : t < 6) : ∀ k, q_cnt (fun i => decide (zGg C m i = t)) k = if zGS C m k t = true then 0 else 1 := by
  intro k
  induction k with
  | zero => rfl
  | succ k ih =>
    rw [q_cnt_s, ih, zGS_s]
    unfold zRmv
    by_cases e : zGg C m k = t
    · have hv := (zG_val (C := C) (m := m) (k + 1) k (by omega) (by omega)).2
      have hS : zGS C m k t = true := by
        rw [← zG_VS, zVS_iff]
        intro j hj
        rw [← e]
        exact hv j hj
      rw [hS, e]
      simp
    · rw [decide_eq_false e, decide_eq_false (fun q => e q.symm)]
      simp
def zTq (D : zD) (T : Nat → Nat) (t s : Nat) : Nat := if zGS (zCC D T s) (zNm9 D T s) (zNm9 D T s) t = true then 0 else 1
theorem z_takesL (ok : sj_ok G) (hC : repC D (σ 2)) (v : okD D) (hT : repT (dN D) T (σ 3)) {t : Nat} (ht : t < 6) : ∀ k i a (ρ : sj_S), i + k = 20 → zVF σ ρ → ∃ ρ', sj_J G 43 me_X11_takes (.ok (nI (zSm (zTq D T t) k i a)), ρ') 15 [.ref (sj_ad G 0), .int (nI t), .int (nI a), .int (nI i)] ρ [] ∧ zVF σ ρ' := by
  intro k
  induction k with
  | zero =>
    intro i a ρ hi hf
    exact ⟨ρ, t_X11_takes_15 ⟨fun _ => rfl, fun q => absurd (nI_le (by omega) (by omega)) q⟩, hf⟩
  | succ k ih =>
    intro i a ρ hi hf
    obtain ⟨ρ1, h1, h2, h3⟩ := z_coverPlan (σ := ρ) (D := D) (T := T) (s := i) ok (by rw [hf 2 (by decide) (by decide) (by decide)]; exact hC) v (by rw [hf 3 (by decide) (by decide) (by decide)]; exact hT) (by omega)
    obtain ⟨ρ', g1, g2⟩ := ih (i + 1) (a + zTq D T t i) ρ1 (by omega) (fun c n1 n2 n3 => by rw [h2 c n1 n2 n3]; exact hf c n1 n2 n3)
    refine ⟨ρ', t_X11_takes_15 ⟨fun q => absurd q (nI_ge (by omega) (by omega)), fun _ => ⟨_, h1, ?_⟩⟩, g2⟩
    have e : (((ρ1 41 3) >>> (nI t &&& 31)) &&& nI 1) ^^^ nI 1 = nI (zTq D T t i) := by
      rw [z_bitv (by omega), h3.2.2.2 t ht]
      unfold zTq
      cases zGS (zCC D T i) (zNm9 D T i) (zNm9 D T i) t <;> decide
    rw [e, nI_add, nI_add]
    exact g1
theorem y_takesL (ok : sj_ok G) (hM : repM D (σ 57)) (v : okD D) (hT : ∀ l, l < dN D → σ 59 l = nI (T l) ∧ T l < 40) {t : Nat} (ht : t < 6) : ∀ k i a (ρ : sj_S), i + k = 20 → zPF σ ρ → ∃ ρ', sj_J G 8 me_X12_takes (.ok (nI (zSm (zTq D T t) k i a)), ρ') 31 [.ref (sj_ad G 56), .int (nI t), .int (nI a), .int (nI i), .null] ρ [] ∧ zPF σ ρ' := by
  intro k
  induction k with
  | zero =>
    intro i a ρ hi hf
    exact ⟨ρ, t_X12_takes_31 ⟨fun _ => rfl, fun q => absurd (nI_le (by omega) (by omega)) q⟩, hf⟩
  | succ k ih =>
    intro i a ρ hi hf
    obtain ⟨ρ1, h1, h2, h3, -, h5⟩ := y_plans (σ := ρ) (D := D) (T := T) (s := i) ok (by rw [hf.1 57 (by decide) (by decide) (by decide) (by decide)]; exact hM) v (fun l hl => by rw [hf.1 59 (by decide) (by decide) (by decide) (by decide)]; exact hT l hl) (by omega)
    obtain ⟨ρ', g1, g2⟩ := ih (i + 1) (a + zTq D T t i) ρ1 (by omega) ⟨fun c n1 n2 n3 n4 => by rw [h2.1 c n1 n2 n3 n4]; exact hf.1 c n1 n2 n3 n4, fun c n1 n2 => by rw [h2.2 c n1 n2]; exact hf.2 c n1 n2⟩
    have hm9 : zNm9 D T i ≤ 9 := q_cnt_le _ 9
    have inner : ∀ n j, j + n = zNm9 D T i → sj_J G 8 me_X12_takes (.ok (nI (zSm (zTq D T t) (k + 1) i a)), ρ') 45 [.ref (sj_ad G 56), .int (nI t), .int (nI (a + q_cnt (fun c => decide (zGg (zCC D T i) (zNm9 D T i) c = t)) j)), .int (nI i), .int (nI j)] ρ1 [] := by
      intro n
      induction n with
      | zero =>
        intro j hj
        obtain rfl : j = zNm9 D T i := by omega
        refine t_X12_takes_45 ⟨fun _ => ?_, fun q => ?_⟩
        · rw [zTakes1 ht, nI_add]
          exact g1
        · rw [h3] at q
          exact absurd (nI_le (by omega) (by omega)) q
      | succ n ihn =>
        intro j hj
        have hr := ihn (j + 1) (by omega)
        have g6 := zGg_6 (C := zCC D T i) (m := zNm9 D T i) (k := j)
        refine t_X12_takes_45 ⟨fun q => ?_, fun _ => ⟨z_in (by omega) (by decide), ?_⟩⟩
        · rw [h3] at q
          exact absurd q (nI_ge (by omega) (by omega))
        · unfold wp_X12_takes_71
          rw [nI_clamp (by omega), (h5 j (by omega)).2]
          simp only [nI_eq (show zGg (zCC D T i) (zNm9 D T i) j < 2 ^ 31 by omega) (show t < 2 ^ 31 by omega)]
          have e : nI (a + q_cnt (fun c => decide (zGg (zCC D T i) (zNm9 D T i) c = t)) j) + (if zGg (zCC D T i) (zNm9 D T i) j = t then nI 1 else nI 0) = nI (a + q_cnt (fun c => decide (zGg (zCC D T i) (zNm9 D T i) c = t)) (j + 1)) := by
            rw [q_cnt_s]
            by_cases w : zGg (zCC D T i) (zNm9 D T i) j = t
            · rw [if_pos w, decide_eq_true w, if_pos rfl, nI_add, Nat.add_assoc]
            · rw [if_neg w, decide_eq_false w, if_neg (by decide), nI_add, Nat.add_assoc]
          rw [e, nI_add]
          exact hr
    refine ⟨ρ', t_X12_takes_31 ⟨fun q => absurd q (nI_ge (by omega) (by omega)), fun _ => ⟨_, h1, ?_⟩⟩, g2⟩
    exact inner (zNm9 D T i) 0 (by omega)
theorem p_takes (ok : sj_ok G) (h : zA σ) (x : Int32) : zPair G (zI2 σ) 43 me_X11_takes 8 me_X12_takes [.int x] (zcd 1 2 0) σ := by
  obtain ⟨D, T, v, hC, hM, hT⟩ := h.1
  have h9 := v.1
  have hM0 : repM D ((sj_st σ 56 0 (nI 0)) 57) := by rw [z_stn (by decide)]; exact hM
  rcases z_rg x 6 with ⟨t, ht, rfl⟩ | hx
  · by_cases hq : dT D = 1
    · obtain ⟨hT, -⟩ := hT hq
      have hR : repT (dN D) T (σ 3) := fun l hl => ⟨(hT l hl).1, (hT l hl).2.2⟩
      obtain ⟨τ, c1, c2⟩ := z_takesL (σ := σ) ok hC v hR ht 20 0 0 σ (by omega) (fun _ _ _ _ => rfl)
      have hMτ : repM D (sj_st τ 56 0 (nI 0) 57) := by rw [z_stn (by decide), zVF_K c2 57 (by decide)]; exact hM
      obtain ⟨κ, hlk, f1, f2, f3⟩ := y_looksAtTable (σ := sj_st τ 56 0 (nI 0)) ok h9 hMτ.1
      have κ57 : κ 57 = σ 57 := by rw [f1 57 (by decide) (by decide), z_stn (by decide), zVF_K c2 57 (by decide)]
      obtain ⟨ρ, m1, m2⟩ := y_takesL (σ := κ) (D := D) (T := T) ok (by rw [κ57]; exact hM) v (fun l hl => ⟨by rw [f2 l hl, z_stn (by decide), zVF_K c2 57 (by decide)]; exact (hT l hl).2.1, by have := (hT l hl).2.2; omega⟩) ht 20 0 0 κ (by omega) ⟨fun _ _ _ _ _ => rfl, fun _ _ _ => rfl⟩
      obtain ⟨i1, i2⟩ := zPL_I h c2 f1 m2
      exact ⟨_, _, _, _, c_X11_takes ok (Or.inl ⟨_, z_range0 ok ht (by decide), Or.inl ⟨_, z_requireTable0 ok (hC.2.2.1.trans (by rw [hq])), c1⟩⟩), c_X12_takes ok ⟨_, _, y_noTeacher0 ok zT00 ht, fun q => absurd nI_0 q, fun _ => ⟨_, _, y_noTable0 ok zT00 (hMτ.2.2.1.trans (by rw [hq])), fun _ => ⟨_, hlk, m1⟩, fun q => absurd nI_0 q⟩⟩, zSame_ok i2 rfl, i1⟩
    · have hq := zT_of v hq
      have hm : sj_C G 8 me_X12_takes [.ref (sj_ad G 56), .int (nI t)] σ (.ok (nI 0), sj_st (sj_st σ 56 0 (nI 0)) 56 0 (nI 2)) :=
        c_X12_takes ok ⟨_, _, y_noTeacher0 ok zT00 ht, fun q => absurd nI_0 q, fun _ => ⟨_, _, y_noTable1 ok zT00 (hM0.2.2.1.trans (by rw [hq])) (by decide), fun q => absurd q z_10, fun _ => rfl⟩⟩
      exact ⟨_, _, _, _, c_X11_takes ok (Or.inl ⟨_, z_range0 ok ht (by decide), Or.inr ⟨_, _, z_requireTable1 ok (hC.2.2.1.trans (by rw [hq])), rfl⟩⟩), hm, zSame_er (by decide) z_ste, zI2_th2 h⟩
  · have hm : sj_C G 8 me_X12_takes [.ref (sj_ad G 56), .int x] σ (.ok (nI 0), sj_st (sj_st σ 56 0 (nI 0)) 56 0 (nI 1)) :=
      c_X12_takes ok ⟨_, _, y_noTeacher1 ok zT00 hx, fun _ => rfl, fun q => absurd q z_10⟩
    exact ⟨_, _, _, _, c_X11_takes ok (Or.inr ⟨_, _, z_range1 ok hx (by decide) (by decide), rfl⟩), hm, zSame_er (by decide) z_ste, zI2_th2 h⟩
end ZVQ
