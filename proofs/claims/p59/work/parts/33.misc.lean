/-! HISTORY, BELLS -/
section ZHI
variable {G : sj_G} {σ : sj_S}
theorem z_rem {a d : Nat} (ha : a < 2 ^ 31) (h0 : 0 < d) (hd : d < 2 ^ 31) : nI a - nI a / nI d * nI d = nI (a % d) := pk_rem ha h0 hd
def zKeep (σ : sj_S) (k t : Nat) : sj_S := sj_st (sj_st (sj_up (sj_up σ 5 (va_cpy (σ 2) (σ 5) 0 (k * 128) 119)) 5 (va_cpy (σ 3) (va_cpy (σ 2) (σ 5) 0 (k * 128) 119) 0 (k * 128 + 119) 9)) 4 1 (nI ((k + 1) % 20))) 4 2 (nI (if 20 < t + 1 then 20 else t + 1))
theorem z_keep (ok : sj_ok G) {k t : Nat} (hk : k < 20) (ht : t ≤ 20) (h1 : σ 4 1 = nI k) (h2 : σ 4 2 = nI t) : sj_C G 2 me_X5_keep [.ref (sj_ad G 4), .ref (sj_ad G 1)] σ (.ok 0, zKeep σ k t) := by
  refine c_X5_keep ok ?_
  unfold wp_X5_keep_0
  simp only [h1, h2, nI_add, pk_mul, z_rem (show k + 1 < 2 ^ 31 by omega) (show 0 < 20 by decide) (by decide)]
  refine ⟨z_nlt0 (by omega), by rw [nI_clamp (by omega)]; omega, z_nlt0 (by omega), by rw [nI_clamp (by omega)]; omega, ?_⟩
  rw [nI_clamp (by omega), nI_clamp (by omega)]
  have e : (if nI 20 < nI (t + 1) then nI 20 else nI (t + 1)) = nI (if 20 < t + 1 then 20 else t + 1) := by
    by_cases q : 20 < t + 1
    · rw [if_pos q, if_pos (nI_lt q (by omega))]
    · rw [if_neg q, if_neg (nI_nlt (by omega) (by omega))]
  rw [e, sj_up_s]
  rfl
end ZHI
/-! REQUIRE: the class's checks of its arguments -/
section ZRQ
variable {G : sj_G} {σ : sj_S} {D : zD} {T : Nat → Nat}
theorem z_between0 (ok : sj_ok G) {x lo hi : Int32} (h1 : ¬ x < lo) (h2 : x ≤ hi) : sj_C G 9 me_X11_requireBetween [.ref (sj_ad G 0), .int x, .int lo, .int hi] σ (.ok 0, σ) := by
  refine c_X11_requireBetween ok ?_
  unfold wp_X11_requireBetween_0
  exact ⟨fun h => absurd h h1, fun _ => ⟨fun _ => rfl, fun h => absurd h2 h⟩⟩
theorem z_between1 (ok : sj_ok G) {x lo hi : Int32} (h : x < lo ∨ ¬ x ≤ hi) : sj_C G 9 me_X11_requireBetween [.ref (sj_ad G 0), .int x, .int lo, .int hi] σ (.error 1, σ) := by
  refine c_X11_requireBetween ok ?_
  unfold wp_X11_requireBetween_0 wp_X11_requireBetween_10
  refine ⟨fun _ => rfl, fun h1 => ⟨fun h2 => ?_, fun _ => rfl⟩⟩
  rcases h with h | h
  · exact absurd h h1
  · exact absurd h2 h
theorem z_range0 (ok : sj_ok G) {j B : Nat} (hj : j < B) (hB : B < 2 ^ 31) : sj_C G 10 me_X11_requireRange [.ref (sj_ad G 0), .int (nI j), .int (nI B)] σ (.ok 0, σ) := by
  refine c_X11_requireRange ok ?_
  unfold wp_X11_requireRange_0
  rw [pk_sub (by omega : 1 ≤ B)]
  exact Or.inl ⟨_, z_between0 ok (by rw [nI_0]; exact nI_pos (by omega)) (nI_le (by omega) (by omega)), rfl⟩
theorem z_range1 (ok : sj_ok G) {x : Int32} {B : Nat} (h : ∀ j, j < B → ¬ x = nI j) (h0 : 0 < B) (hB : B < 2 ^ 31) : sj_C G 10 me_X11_requireRange [.ref (sj_ad G 0), .int x, .int (nI B)] σ (.error 1, σ) := by
  refine c_X11_requireRange ok ?_
  unfold wp_X11_requireRange_0
  rw [pk_sub (by omega : 1 ≤ B)]
  refine Or.inr ⟨_, _, z_between1 ok ?_, rfl⟩
  rcases pk_ix x (n := B) hB with h1 | h1 | ⟨j, hj, e⟩
  · exact Or.inl (by rw [nI_0]; exact h1)
  · right
    intro h2
    have h3 := Int32.le_iff_toInt_le.mp h1
    have h4 := Int32.le_iff_toInt_le.mp h2
    rw [nI_toInt hB] at h3
    rw [nI_toInt (by omega)] at h4
    omega
  · exact absurd e (h j hj)
theorem z_rg (x : Int32) (B : Nat) : (∃ j, j < B ∧ x = nI j) ∨ ∀ j, j < B → ¬ x = nI j := by
  by_cases h : ∃ j, j < B ∧ x = nI j
  · exact Or.inl h
  · exact Or.inr (fun j hj e => h ⟨j, hj, e⟩)
theorem z_requireLesson0 (ok : sj_ok G) (hC : repC D (σ 2)) (v : okD D) {l : Nat} (hl : l < dN D) : sj_C G 9 me_X11_requireLesson [.ref (sj_ad G 0), .int (nI l)] σ (.ok 0, σ) := by
  have h9 := v.1
  refine c_X11_requireLesson ok ?_
  unfold wp_X11_requireLesson_0
  refine ⟨fun h => absurd h (nI_pos (by omega)), fun _ => ⟨_, _, z_lessonTotal ok, fun _ => rfl, fun h => ?_⟩⟩
  rw [hC.1] at h
  exact absurd (nI_lt hl (by omega)) h
theorem z_requireLesson1 (ok : sj_ok G) (hC : repC D (σ 2)) (v : okD D) {x : Int32} (hx : ∀ j, j < dN D → ¬ x = nI j) : sj_C G 9 me_X11_requireLesson [.ref (sj_ad G 0), .int x] σ (.error 3, σ) := by
  have h9 := v.1
  refine c_X11_requireLesson ok ?_
  unfold wp_X11_requireLesson_0 wp_X11_requireLesson_15
  refine ⟨fun _ => rfl, fun h => ⟨_, _, z_lessonTotal ok, fun h1 => ?_, fun _ => rfl⟩⟩
  rw [hC.1] at h1
  obtain ⟨j, hj, e⟩ := nI_of h
  rw [e] at h1
  exact absurd e (hx j ((nI_ltI hj (by omega)).mp h1))
theorem z_requireWish0 (ok : sj_ok G) (hC : repC D (σ 2)) (v : okD D) {l : Nat} (hl : l < dW D) : sj_C G 9 me_X11_requireWish [.ref (sj_ad G 0), .int (nI l)] σ (.ok 0, σ) := by
  have h9 := v.2.1
  refine c_X11_requireWish ok ?_
  unfold wp_X11_requireWish_0
  refine ⟨fun h => absurd h (nI_pos (by omega)), fun _ => ⟨_, _, z_wishTotal ok, fun _ => rfl, fun h => ?_⟩⟩
  rw [hC.2.1] at h
  exact absurd (nI_lt hl (by omega)) h
theorem z_requireWish1 (ok : sj_ok G) (hC : repC D (σ 2)) (v : okD D) {x : Int32} (hx : ∀ j, j < dW D → ¬ x = nI j) : sj_C G 9 me_X11_requireWish [.ref (sj_ad G 0), .int x] σ (.error 3, σ) := by
  have h9 := v.2.1
  refine c_X11_requireWish ok ?_
  unfold wp_X11_requireWish_0 wp_X11_requireWish_15
  refine ⟨fun _ => rfl, fun h => ⟨_, _, z_wishTotal ok, fun h1 => ?_, fun _ => rfl⟩⟩
  rw [hC.2.1] at h1
  obtain ⟨j, hj, e⟩ := nI_of h
  rw [e] at h1
  exact absurd e (hx j ((nI_ltI hj (by omega)).mp h1))
theorem z_requireTable0 (ok : sj_ok G) (h : σ 2 2 = nI 1) : sj_C G 9 me_X11_requireTable [.ref (sj_ad G 0)] σ (.ok 0, σ) := by
  refine c_X11_requireTable ok ?_
  unfold wp_X11_requireTable_0
  refine ⟨_, _, z_hasTable ok, fun _ => rfl, fun h1 => ?_⟩
  rw [h] at h1
  exact absurd h1 (by decide)
theorem z_requireTable1 (ok : sj_ok G) (h : σ 2 2 = nI 0) : sj_C G 9 me_X11_requireTable [.ref (sj_ad G 0)] σ (.error 2, σ) := by
  refine c_X11_requireTable ok ?_
  unfold wp_X11_requireTable_0
  refine ⟨_, _, z_hasTable ok, fun h1 => ?_, fun _ => rfl⟩
  rw [h] at h1
  exact absurd (by decide) h1
end ZRQ
/-! BELLS: setBells, bell, slotAt: the class and the reference -/
def zSame (cd : Nat → Nat) (Rc : Except Nat Int32) (th rm : Int32) : Prop := match Rc with
  | .ok v => th = nI 0 ∧ v = rm
  | .error k => (0 < k ∧ 0 < cd k) ∧ th = nI (cd k)
section ZBE
variable {G : sj_G} {σ : sj_S}
def zBells (σ : sj_S) : Prop := ∀ d, d < 5 → σ 47 d = σ 70 d ∧ σ 48 d = σ 71 d ∧ σ 49 d = σ 72 d
def zMin (b l p : Int32) (h : Nat) (e : Bool) : Int32 := if e then b + nI h * (l + p) + l else b + nI h * (l + p)
theorem z_minute (ok : sj_ok G) {s : Nat} {e : Bool} (hs : s < 20) : sj_C G 2 me_X0_minute [.ref (sj_ad G 46), .int (nI s), .int (if e then nI 1 else nI 0)] σ (.ok (zMin (σ 47 (s / 4)) (σ 48 (s / 4)) (σ 49 (s / 4)) (s % 4) e), σ) := by
  refine c_X0_minute ok ?_
  unfold wp_X0_minute_0 wp_X0_minute_48
  rw [z_rem (by omega : s < 2 ^ 31) (by decide : 0 < 4) (by decide), pk_div (by omega : s < 2 ^ 31) (by decide) (by decide), nI_clamp (by omega : s / 4 < 2 ^ 31)]
  have hin : vp_in (nI (s / 4)) 5 := z_in (by omega) (by decide)
  refine ⟨hin, hin, hin, fun y4 e4 => ⟨fun _ => hin, ?_⟩⟩
  subst e4
  cases e
  · rw [if_pos (show (if false = true then nI 1 else nI 0) = 0 from nI_0)]; rfl
  · rw [if_neg (show ¬ (if true = true then nI 1 else nI 0) = 0 by decide)]; rfl
def zOnly (A : List Nat) (σ σ' : sj_S) : Prop := (∀ b, b ∉ A → b ≠ 56 → σ' b = σ b) ∧ ∀ k, k ≠ 0 → σ' 56 k = σ 56 k
theorem zOnly_th {A : List Nat} {c : Int32} : zOnly A σ (sj_st σ 56 0 c) := ⟨fun b _ h => z_stn h, fun k h => z_sti h⟩
theorem zOnly_th2 {A : List Nat} {c e : Int32} : zOnly A σ (sj_st (sj_st σ 56 0 c) 56 0 e) := ⟨fun b _ h => by rw [z_stn h, z_stn h], fun k h => by rw [z_sti h, z_sti h]⟩
end ZBE
/-! POPCOUNT: Integer.bitCount of a set below 2^20 -/
theorem q_split {k a c q m : Nat} (ha : a < 2 ^ k) (hc : c < 2 ^ k) : (a + 2 ^ k * q) &&& (c + 2 ^ k * m) = (a &&& c) + 2 ^ k * (q &&& m) := by
  apply Nat.eq_of_testBit_eq
  intro i
  have hac : a &&& c < 2 ^ k := Nat.lt_of_le_of_lt Nat.and_le_left ha
  have key : ∀ (x y : Nat), x < 2 ^ k → (x + 2 ^ k * y).testBit i = if i < k then x.testBit i else y.testBit (i - k) := by
    intro x y hx
    rw [Nat.add_comm]
    exact Nat.testBit_two_pow_mul_add y hx i
  rw [Nat.testBit_and, key a q ha, key c m hc, key (a &&& c) (q &&& m) hac]
  split
  · rw [Nat.testBit_and]
  · rw [Nat.testBit_and]
def q_cnt (p : Nat → Bool) : Nat → Nat
  | 0 => 0
  | n + 1 => q_cnt p n + (if p n then 1 else 0)
def q_f (a : Nat) : Nat := a - ((a / 2) &&& 5)
def q_p (a : Nat) : Nat := (q_f a &&& 3) + ((q_f a / 4) &&& 3)
theorem q_small : ∀ a, a < 16 → ((a / 2) &&& 5) ≤ a ∧ q_f a < 16 ∧ q_p a ≤ 4 ∧ q_p a = q_cnt (fun i => a.testBit i) 4 := by decide +kernel
theorem q_s1 : ∀ a, a < 16 → ∀ r, r < 2 → (a / 2 + 8 * r) &&& 5 = (a / 2) &&& 5 := by decide +kernel
theorem q_s2 : ∀ a, a < 16 → ∀ r, r < 4 → (a / 4 + 4 * r) &&& 3 = (a / 4) &&& 3 := by decide +kernel
theorem q_st1 {a q m : Nat} (ha : a < 16) (hq : (q / 2) &&& m ≤ q) : (a + 16 * q) - (((a + 16 * q) / 2) &&& (5 + 16 * m)) = q_f a + 16 * (q - ((q / 2) &&& m)) ∧ ((a + 16 * q) / 2) &&& (5 + 16 * m) ≤ a + 16 * q := by
  have e : (a + 16 * q) / 2 = (a / 2 + 8 * (q % 2)) + 2 ^ 4 * (q / 2) := by omega
  have h := q_split (k := 4) (a := a / 2 + 8 * (q % 2)) (c := 5) (q := q / 2) (m := m) (by omega) (by decide)
  rw [e, show 5 + 16 * m = 5 + 2 ^ 4 * m by omega, h, q_s1 a ha (q % 2) (by omega)]
  have h1 := (q_small a ha).1
  unfold q_f
  omega
theorem q_st2 {f q m : Nat} (hf : f < 16) : ((f + 16 * q) &&& (3 + 16 * m)) + (((f + 16 * q) / 4) &&& (3 + 16 * m)) = ((f &&& 3) + ((f / 4) &&& 3)) + 16 * ((q &&& m) + ((q / 4) &&& m)) := by
  have e : (f + 16 * q) / 4 = (f / 4 + 4 * (q % 4)) + 2 ^ 4 * (q / 4) := by omega
  have h1 := q_split (k := 4) (a := f) (c := 3) (q := q) (m := m) hf (by decide)
  have h2 := q_split (k := 4) (a := f / 4 + 4 * (q % 4)) (c := 3) (q := q / 4) (m := m) (by omega) (by decide)
  rw [e, show 3 + 16 * m = 3 + 2 ^ 4 * m by omega, show f + 16 * q = f + 2 ^ 4 * q by omega, h1, h2, q_s2 f hf (q % 4) (by omega)]
  omega
def q_bc (n : Nat) : Nat :=
  let n1 := n - ((n / 2) &&& 1431655765)
  let n2 := (n1 &&& 858993459) + ((n1 / 4) &&& 858993459)
  let n3 := (n2 + n2 / 16) &&& 252645135
  let n4 := n3 + n3 / 256
  let n5 := n4 + n4 / 65536
  n5 &&& 63
theorem q_fin {b0 b1 b2 b3 b4 : Nat} (p0 : b0 ≤ 4) (p1 : b1 ≤ 4) (p2 : b2 ≤ 4) (p3 : b3 ≤ 4) (p4 : b4 ≤ 4) : ((b0 + b1 + 256 * (b2 + b3) + 65536 * b4) + (b0 + b1 + 256 * (b2 + b3) + 65536 * b4) / 256 + ((b0 + b1 + 256 * (b2 + b3) + 65536 * b4) + (b0 + b1 + 256 * (b2 + b3) + 65536 * b4) / 256) / 65536) % 64 = b0 + b1 + b2 + b3 + b4 := by
  have d1 : (b0 + b1 + 256 * (b2 + b3) + 65536 * b4) / 256 = (b2 + b3) + 256 * b4 := by omega
  rw [d1]
  have d2 : (b0 + b1 + 256 * (b2 + b3) + 65536 * b4 + (b2 + b3 + 256 * b4)) / 65536 = b4 := by omega
  rw [d2]
  omega
theorem q_bc_eq {a0 a1 a2 a3 a4 : Nat} (h0 : a0 < 16) (h1 : a1 < 16) (h2 : a2 < 16) (h3 : a3 < 16) (h4 : a4 < 16) : q_bc (a0 + 16 * (a1 + 16 * (a2 + 16 * (a3 + 16 * (a4 + 16 * 0))))) = q_p a0 + q_p a1 + q_p a2 + q_p a3 + q_p a4 := by
  have m5 : 1431655765 = 5 + 16 * (5 + 16 * (5 + 16 * (5 + 16 * (5 + 16 * 1365)))) := by decide
  have m3 : 858993459 = 3 + 16 * (3 + 16 * (3 + 16 * (3 + 16 * (3 + 16 * 819)))) := by decide
  have z0 : (0 / 2) &&& 1365 ≤ 0 := by decide
  have s4 := q_st1 (m := 1365) h4 z0
  have s3 := q_st1 (m := 5 + 16 * 1365) h3 s4.2
  have s2 := q_st1 (m := 5 + 16 * (5 + 16 * 1365)) h2 s3.2
  have s1 := q_st1 (m := 5 + 16 * (5 + 16 * (5 + 16 * 1365))) h1 s2.2
  have s0 := q_st1 (m := 5 + 16 * (5 + 16 * (5 + 16 * (5 + 16 * 1365)))) h0 s1.2
  unfold q_bc
  rw [m5, s0.1, s1.1, s2.1, s3.1, s4.1, m3]
  dsimp only
  rw [q_st2 (q_small a0 h0).2.1, q_st2 (q_small a1 h1).2.1, q_st2 (q_small a2 h2).2.1, q_st2 (q_small a3 h3).2.1, q_st2 (q_small a4 h4).2.1]
  have p0 := (q_small a0 h0).2.2.1
  have p1 := (q_small a1 h1).2.2.1
  have p2 := (q_small a2 h2).2.2.1
  have p3 := (q_small a3 h3).2.2.1
  have p4 := (q_small a4 h4).2.2.1
  have zz : (0 - (0 / 2 &&& 1365) &&& 819) + ((0 - (0 / 2 &&& 1365)) / 4 &&& 819) = 0 := by decide
  rw [zz]
  show (_ : Nat) &&& 63 = _
  change ((_ + _ / 65536) &&& 63 : Nat) = _
  generalize ea0 : ((q_f a0 &&& 3) + ((q_f a0 / 4) &&& 3)) = b0
  generalize ea1 : ((q_f a1 &&& 3) + ((q_f a1 / 4) &&& 3)) = b1
  generalize ea2 : ((q_f a2 &&& 3) + ((q_f a2 / 4) &&& 3)) = b2
  generalize ea3 : ((q_f a3 &&& 3) + ((q_f a3 / 4) &&& 3)) = b3
  generalize ea4 : ((q_f a4 &&& 3) + ((q_f a4 / 4) &&& 3)) = b4
  have g0 : q_p a0 = b0 := ea0
  have g1 : q_p a1 = b1 := ea1
  have g2 : q_p a2 = b2 := ea2
  have g3 : q_p a3 = b3 := ea3
  have g4 : q_p a4 = b4 := ea4
  rw [g0] at p0 ⊢
  rw [g1] at p1 ⊢
  rw [g2] at p2 ⊢
  rw [g3] at p3 ⊢
  rw [g4] at p4 ⊢
  have n3 : (b0 + 16 * (b1 + 16 * (b2 + 16 * (b3 + 16 * b4))) + (b0 + 16 * (b1 + 16 * (b2 + 16 * (b3 + 16 * b4)))) / 16) &&& 252645135 = (b0 + b1) + 256 * (b2 + b3) + 65536 * b4 := by
    have e : b0 + 16 * (b1 + 16 * (b2 + 16 * (b3 + 16 * b4))) + (b0 + 16 * (b1 + 16 * (b2 + 16 * (b3 + 16 * b4)))) / 16 = (b0 + b1) + 2 ^ 4 * ((b1 + b2) + 2 ^ 4 * ((b2 + b3) + 2 ^ 4 * ((b3 + b4) + 2 ^ 4 * b4))) := by omega
    have em : 252645135 = 15 + 2 ^ 4 * (0 + 2 ^ 4 * (15 + 2 ^ 4 * (0 + 2 ^ 4 * 3855))) := by decide
    have l15 : ∀ x, x < 16 → x &&& 15 = x := by decide +kernel
    have l0 : ∀ x, x < 16 → x &&& 3855 = x := by decide +kernel
    rw [e, em, q_split (by omega) (by decide), q_split (by omega) (by decide), q_split (by omega) (by decide), q_split (by omega) (by decide), l15 _ (by omega), l15 _ (by omega), l0 _ (by omega), Nat.and_zero, Nat.and_zero]
    omega
  rw [n3]
  have e6 : ∀ x, x &&& 63 = x % 64 := fun x => Nat.and_two_pow_sub_one_eq_mod x 6
  rw [e6]
  exact q_fin p0 p1 p2 p3 p4
theorem q_cnt_add (p : Nat → Bool) (a : Nat) : ∀ b, q_cnt p (a + b) = q_cnt p a + q_cnt (fun i => p (a + i)) b := by
  intro b
  induction b with
  | zero => rfl
  | succ b ih =>
    show q_cnt p (a + b) + (if p (a + b) then 1 else 0) = q_cnt p a + (q_cnt (fun i => p (a + i)) b + (if p (a + b) then 1 else 0))
    rw [ih]
    omega
theorem q_cnt_congr {p r : Nat → Bool} : ∀ n, (∀ i, i < n → p i = r i) → q_cnt p n = q_cnt r n := by
  intro n
  induction n with
  | zero => intro _; rfl
  | succ n ih =>
    intro h
    show q_cnt p n + (if p n then 1 else 0) = q_cnt r n + (if r n then 1 else 0)
    rw [ih (fun i hi => h i (by omega)), h n (by omega)]
theorem q_nib {a q : Nat} (ha : a < 16) (m : Nat) : q_cnt (fun i => (a + 16 * q).testBit i) (4 + m) = q_p a + q_cnt (fun i => q.testBit i) m := by
  have key : ∀ i, (a + 16 * q).testBit i = if i < 4 then a.testBit i else q.testBit (i - 4) := by
    intro i
    rw [show a + 16 * q = 2 ^ 4 * q + a by omega]
    exact Nat.testBit_two_pow_mul_add q (by omega) i
  rw [q_cnt_add, (q_small a ha).2.2.2]
  congr 1
  · exact q_cnt_congr 4 (fun i hi => by rw [key i, if_pos hi])
  · exact q_cnt_congr m (fun i _ => by
      show (a + 16 * q).testBit (4 + i) = _
      rw [key (4 + i), if_neg (by omega), show 4 + i - 4 = i by omega])
theorem q_bc20 {n : Nat} (hn : n < 2 ^ 20) : q_bc n = q_cnt (fun i => n.testBit i) 20 := by
  have e : n = n % 16 + 16 * (n / 16 % 16 + 16 * (n / 256 % 16 + 16 * (n / 4096 % 16 + 16 * (n / 65536 % 16 + 16 * 0)))) := by omega
  have h := q_bc_eq (a0 := n % 16) (a1 := n / 16 % 16) (a2 := n / 256 % 16) (a3 := n / 4096 % 16) (a4 := n / 65536 % 16) (by omega) (by omega) (by omega) (by omega) (by omega)
  rw [← e] at h
  rw [h]
  conv => rhs; rw [e]
  rw [q_nib (by omega) 16, q_nib (by omega) 12, q_nib (by omega) 8, q_nib (by omega) 4, q_nib (by omega) 0]
  show _ = _ + (_ + (_ + (_ + (_ + 0))))
  omega
theorem z_bitCount {G : sj_G} {σ : sj_S} (ok : sj_ok G) {n : Nat} (hn : n < 2 ^ 20) : sj_C G 2 me_J6_bitCount_0f7a4 [.int (nI n)] σ (.ok (nI (q_cnt (fun i => n.testBit i) 20)), σ) := by
  refine c_J6_bitCount_0f7a4 ok ?_
  unfold wp_J6_bitCount_0f7a4_0
  intro y1 e1 y2 e2 y3 e3 y4 e4
  have l1 : (n / 2 ^ 1) &&& 1431655765 ≤ n := Nat.le_trans Nat.and_le_left (Nat.div_le_self _ _)
  rw [pk_ushrN (by omega) (nI 1) 1 (by decide +kernel), nx_and, pk_sub l1] at e1
  subst e1
  have b1 : n - ((n / 2 ^ 1) &&& 1431655765) < 2 ^ 20 := by omega
  generalize hn1 : n - ((n / 2 ^ 1) &&& 1431655765) = n1 at b1 e2
  rw [pk_ushrN (by omega) (nI 2) 2 (by decide +kernel), nx_and, nx_and, nI_add] at e2
  subst e2
  have c1 : n1 &&& 858993459 ≤ n1 := Nat.and_le_left
  have c2 : (n1 / 2 ^ 2) &&& 858993459 ≤ n1 / 2 ^ 2 := Nat.and_le_left
  have b2 : (n1 &&& 858993459) + ((n1 / 2 ^ 2) &&& 858993459) < 2 ^ 21 := by omega
  generalize hn2 : (n1 &&& 858993459) + ((n1 / 2 ^ 2) &&& 858993459) = n2 at b2 e3
  rw [pk_ushrN (by omega) (nI 4) 4 (by decide +kernel), nI_add, nx_and] at e3
  subst e3
  have c3 : (n2 + n2 / 2 ^ 4) &&& 252645135 ≤ n2 + n2 / 2 ^ 4 := Nat.and_le_left
  have b3 : (n2 + n2 / 2 ^ 4) &&& 252645135 < 2 ^ 22 := by omega
  generalize hn3 : (n2 + n2 / 2 ^ 4) &&& 252645135 = n3 at b3 e4
  rw [pk_ushrN (by omega) (nI 8) 8 (by decide +kernel), nI_add, pk_ushrN (by omega) (nI 16) 16 (by decide +kernel), nI_add] at e4
  subst e4
  rw [nx_and]
  have e : q_bc n = ((n3 + n3 / 2 ^ 8 + (n3 + n3 / 2 ^ 8) / 2 ^ 16) &&& 63) := by
    rw [← hn3, ← hn2, ← hn1]
    rfl
  rw [← e, q_bc20 hn]
