/-! FINDER 1: sets as numbers, marks, who may stand on a day -/
theorem nx_or (a b : Nat) : nI a ||| nI b = nI (a ||| b) := by
  apply Int32.toBitVec_inj.1
  show BitVec.ofNat 32 a ||| BitVec.ofNat 32 b = BitVec.ofNat 32 (a ||| b)
  apply BitVec.eq_of_getLsbD_eq
  intro i hi
  simp [hi]
theorem z_pw2 : ∀ l, l < 31 → nI 1 <<< (nI l &&& 31) = nI (2 ^ l) := by decide +kernel
theorem z_set1 {s l : Nat} (hl : l < 31) : nI s ||| (nI 1 <<< (nI l &&& 31)) = nI (s ||| 2 ^ l) := by rw [z_pw2 l hl, nx_or]
theorem zS_bit {s l i : Nat} : (s ||| 2 ^ l).testBit i = (s.testBit i || decide (l = i)) := by rw [Nat.testBit_or, Nat.testBit_two_pow]
theorem zS_lt {s l : Nat} (hs : s < 512) (hl : l < 9) : s ||| 2 ^ l < 512 := by
  have h : ∀ l, l < 9 → 2 ^ l < 2 ^ 9 := by decide
  exact Nat.or_lt_two_pow (n := 9) hs (h l hl)
theorem zS_out {s i : Nat} (hs : s < 512) (hi : 9 ≤ i) : s.testBit i = false := by
  refine Nat.testBit_lt_two_pow (Nat.lt_of_lt_of_le hs ?_)
  exact Nat.pow_le_pow_right (by omega : 2 > 0) hi
theorem zFll_eq : ∀ N, N < 10 → zFll N = nI (2 ^ N - 1) := by decide +kernel
theorem z_sh8 {r : Nat} (hr : r < 2 ^ 28) : nI r <<< (nI 3 &&& 31) = nI (8 * r) := by
  apply b_ext
  intro i hi
  rw [b_shl 3 (by omega) _ hi, z_bn _ _ hi, show (8 : Nat) = 2 ^ 3 from rfl, Nat.testBit_two_pow_mul]
  by_cases h : 3 ≤ i
  · rw [z_bn _ _ (by omega)]
  · rw [decide_eq_false h, Bool.false_and]
    simp [h]
theorem z_rs8 {n : Nat} (hn : n < 2 ^ 31) : nI n >>> (nI 3 &&& 31) = nI (n / 8) := by
  apply b_ext
  intro i hi
  rw [b_sshr 3 (by omega) _ hi, z_bn _ _ hi, show (8 : Nat) = 2 ^ 3 from rfl, Nat.testBit_div_two_pow]
  by_cases h : 3 + i < 32
  · rw [if_pos h, z_bn _ _ h, Nat.add_comm]
  · rw [if_neg h, z_bn _ _ (by omega), Nat.testBit_lt_two_pow hn]
    have : n < 2 ^ (i + 3) := Nat.lt_of_lt_of_le hn (Nat.pow_le_pow_right (by omega) (by omega))
    rw [Nat.testBit_lt_two_pow this]
theorem z_and7 (n : Nat) : nI n &&& nI 7 = nI (n % 8) := by
  rw [nx_and]
  show nI (n &&& 2 ^ 3 - 1) = nI (n % 2 ^ 3)
  rw [Nat.and_two_pow_sub_one_eq_mod]
theorem z_or8 {r m : Nat} (hm : m < 8) : nI (8 * r) ||| nI m = nI (8 * r + m) := by
  rw [nx_or]
  congr 1
  exact (Nat.two_pow_add_eq_or_of_lt (i := 3) hm r).symm
theorem z_mkor : ∀ a, a < 8 → ∀ b, b < 8 → a ||| b < 8 := by decide +kernel
/-! ### what the finder seeks -/
def zWo (D : zD) (H : Nat → Bool) (l o : Nat) : Bool := zWd D H 4 (zBoth l o) (dW D)
/-- o must begin ahead of l -/
def zWa (D : zD) (H : Nat → Bool) (l o : Nat) : Bool := zWd D H 6 (fun a c => decide (a = o) && decide (c = l)) (dW D)
theorem zWo_c {D : zD} {H : Nat → Bool} {l o : Nat} : zWo D H l o = zWo D H o l := by
  unfold zWo zWd
  refine q_any_congr _ (fun w _ => ?_)
  unfold zBoth
  rw [Bool.or_comm]
def zGd (D : zD) (H : Nat → Bool) (O : Nat → Nat → Bool) (d s : Nat) (U : Nat → Nat) (m : Nat) : Prop := U m / 4 = d ∧ zAl D H U (fun o => s.testBit o && decide (o < m)) m (U m) = true ∧ O m (U m) = true
def zDk (D : zD) (H : Nat → Bool) (O : Nat → Nat → Bool) (d s : Nat) : Prop := ∃ U : Nat → Nat, ∀ m, m < dN D → s.testBit m = true → zGd D H O d s U m
theorem zAl_20 {D : zD} {H : Nat → Bool} {T : Nat → Nat} {q : Nat → Bool} {l i : Nat} (h : zAl D H T q l i = true) : i < 20 := by
  unfold zAl at h
  rw [Bool.and_eq_true, decide_eq_true_eq] at h
  exact h.1
theorem zAl_mono {D : zD} {H : Nat → Bool} {T : Nat → Nat} {q q' : Nat → Bool} {l i : Nat} (hq : ∀ o, o < dN D → q' o = true → q o = true) (h : zAl D H T q l i = true) : zAl D H T q' l i = true := by
  unfold zAl at h ⊢
  simp only [Bool.and_eq_true, Bool.or_eq_true, decide_eq_true_eq, Bool.not_eq_true'] at h ⊢
  obtain ⟨h1, h2, h3, h4⟩ := h
  have hc : ∀ s, q_cnt (fun o => !decide (o = l) && (q' o && (decide (dKi D o = dKi D l) && zTk D T o s))) (dN D) ≤ q_cnt (fun o => !decide (o = l) && (q o && (decide (dKi D o = dKi D l) && zTk D T o s))) (dN D) := fun s => by
    refine q_cnt_mon (dN D) (fun o ho h => ?_)
    simp only [Bool.and_eq_true] at h ⊢
    exact ⟨h.1, hq o ho h.2.1, h.2.2⟩
  refine ⟨h1, h2, ?_, ?_⟩
  · rw [q_any_f] at h3 ⊢
    intro o ho
    have := h3 o ho
    cases hqo : q' o
    · simp
    · rw [hq o ho hqo] at this
      exact this
  · rcases h4 with h4 | ⟨h4, h5⟩
    · exact Or.inl h4
    · refine Or.inr ⟨Nat.le_trans (Nat.add_le_add_right (hc i) 1) h4, ?_⟩
      rcases h5 with h5 | h5
      · exact Or.inl h5
      · exact Or.inr (Nat.le_trans (Nat.add_le_add_right (hc (i + 1)) 1) h5)
theorem zAl_congr {D : zD} {H : Nat → Bool} {T T' : Nat → Nat} {q : Nat → Bool} {l i : Nat} (h : ∀ o, o < dN D → o ≠ l → q o = true → T o = T' o) : zAl D H T q l i = zAl D H T' q l i := by
  unfold zAl
  have e1 : q_any (fun o => !decide (o = l) && q o && !zPr D H l i o (T o)) (dN D) = q_any (fun o => !decide (o = l) && q o && !zPr D H l i o (T' o)) (dN D) := q_any_congr _ (fun o ho => by
    by_cases e : o = l
    · rw [decide_eq_true e]; rfl
    · cases hq : q o
      · simp
      · rw [h o ho e hq])
  have e2 : ∀ s, q_cnt (fun o => !decide (o = l) && (q o && (decide (dKi D o = dKi D l) && zTk D T o s))) (dN D) = q_cnt (fun o => !decide (o = l) && (q o && (decide (dKi D o = dKi D l) && zTk D T' o s))) (dN D) := fun s => q_cnt_congr _ (fun o ho => by
    by_cases e : o = l
    · rw [decide_eq_true e]; rfl
    · cases hq : q o
      · simp
      · unfold zTk
        rw [h o ho e hq])
  rw [e1, e2, e2]
theorem zGd_congr {D : zD} {H : Nat → Bool} {O : Nat → Nat → Bool} {d s m : Nat} {U U' : Nat → Nat} (hm : U m = U' m) (h : ∀ o, o < m → s.testBit o = true → U o = U' o) (g : zGd D H O d s U m) : zGd D H O d s U' m := by
  obtain ⟨g1, g2, g3⟩ := g
  refine ⟨by rw [← hm]; exact g1, ?_, by rw [← hm]; exact g3⟩
  rw [← hm, ← zAl_congr (T := U) (fun o _ _ hq => ?_)]
  · exact g2
  · rw [Bool.and_eq_true, decide_eq_true_eq] at hq
    exact h o hq.2 hq.1
theorem zDk_mono {D : zD} {H : Nat → Bool} {O : Nat → Nat → Bool} {d s s' : Nat} (h : zDk D H O d s) (hs : ∀ i, i < dN D → s'.testBit i = true → s.testBit i = true) : zDk D H O d s' := by
  obtain ⟨U, hU⟩ := h
  refine ⟨U, fun m hm hb => ?_⟩
  obtain ⟨g1, g2, g3⟩ := hU m hm (hs m hm hb)
  refine ⟨g1, zAl_mono (fun o ho hq => ?_) g2, g3⟩
  rw [Bool.and_eq_true] at hq ⊢
  exact ⟨hs o ho hq.1, hq.2⟩
/-- the set of a day beside those placed: told up to f -/
def zJp (D : zD) (H : Nat → Bool) (p s f : Nat) : Prop := ∀ l, l < dN D → s.testBit l = true → (∀ o, o < dN D → zWo D H l o = true → p.testBit o = false) ∧ ∀ o, o < f → (zWa D H l o || zWo D H l o) = true → p.testBit o = true ∨ s.testBit o = true
/-- the sets of the days from d on -/
def zCh (D : zD) (H : Nat → Bool) (O : Nat → Nat → Bool) : Nat → Nat → Nat → (Nat → Nat) → Prop
  | 0, _, p, _ => p = 2 ^ dN D - 1
  | n + 1, d, p, c => c d < 512 ∧ (∀ i, (c d).testBit i = true → i < dN D ∧ p.testBit i = false) ∧ zJp D H p (c d) (dN D) ∧ zDk D H O d (c d) ∧ zCh D H O n (d + 1) (p ||| c d) c
theorem zCh_congr {D : zD} {H : Nat → Bool} {O : Nat → Nat → Bool} {c c' : Nat → Nat} : ∀ n d p, (∀ e, d ≤ e → e < d + n → c e = c' e) → zCh D H O n d p c → zCh D H O n d p c' := by
  intro n
  induction n with
  | zero => intro d p _ h; exact h
  | succ n ih =>
    intro d p h hc
    obtain ⟨h1, h2, h3, h4, h5⟩ := hc
    have e := h d (Nat.le_refl d) (by omega)
    rw [e] at h1 h2 h3 h4 h5
    exact ⟨h1, h2, h3, h4, ih (d + 1) _ (fun e he1 he2 => h e (by omega) (by omega)) h5⟩
def zVm (D : zD) (H : Nat → Bool) (O : Nat → Nat → Bool) (d s m : Nat) : Prop := (m.testBit 0 = false → m.testBit 1 = false) ∧ (m.testBit 0 = true → (m.testBit 1 = true ↔ zDk D H O d s))
/-- marks of the round r -/
def zMr (D : zD) (H : Nat → Bool) (O : Nat → Nat → Bool) (r : Nat) (f : Nat → Int32) : Prop := ∀ d s, d < 5 → s < 512 → ∃ m, m < 8 ∧ (f (d * 512 + s) = nI (8 * r + m) ∨ (m = 0 ∧ ∃ a b, a < r ∧ b < 8 ∧ f (d * 512 + s) = nI (8 * a + b))) ∧
  zVm D H O d s m ∧ (m.testBit 2 = true → ∀ c, ¬ zCh D H O (5 - d) d s c)
section ZFI
variable {G : sj_G} {σ : sj_S} {D : zD} {H : Nat → Bool} {O : Nat → Nat → Bool}
theorem z_marksOf (ok : sj_ok G) {r d s : Nat} (hr : r < 2 ^ 27) (h7 : σ 30 7 = nI r) (hd : d < 5) (hs : s < 512) (hM : zMr D H O r (σ 33)) : ∃ m, m < 8 ∧ sj_C G 2 me_X4_marksOf [.ref (sj_ad G 30), .int (nI d), .int (nI s)] σ (.ok (nI m), σ) ∧
    zVm D H O d s m ∧ (m.testBit 2 = true → ∀ c, ¬ zCh D H O (5 - d) d s c) := by
  obtain ⟨m, hm, hv, h0, h2⟩ := hM d s hd hs
  refine ⟨m, hm, c_X4_marksOf ok ?_, h0, h2⟩
  unfold wp_X4_marksOf_0 wp_X4_marksOf_31
  rw [pk_mul, nI_add, nI_clamp (by omega), h7]
  refine ⟨z_in (by omega) (by decide), ?_⟩
  rcases hv with e | ⟨e0, a, b, ha, hb, e⟩
  · rw [e, z_rs8 (by omega), if_pos (by congr 1; omega), z_and7]
    congr 3
    omega
  · rw [e, z_rs8 (by omega), if_neg (by rw [nI_eq (by omega) (by omega)]; omega), e0]
theorem z_mark (ok : sj_ok G) {r d s k : Nat} (hr : r < 2 ^ 27) (h7 : σ 30 7 = nI r) (hd : d < 5) (hs : s < 512) (hk : k < 8) (hM : zMr D H O r (σ 33)) (h0 : ∀ m, m < 8 → zVm D H O d s m → zVm D H O d s (m ||| k)) (h2 : k.testBit 2 = true → ∀ c, ¬ zCh D H O (5 - d) d s c) :
    ∃ σ', sj_C G 3 me_X4_mark [.ref (sj_ad G 30), .int (nI d), .int (nI s), .int (nI k)] σ (.ok 0, σ') ∧ (∀ b, b ≠ 33 → σ' b = σ b) ∧ zMr D H O r (σ' 33) := by
  obtain ⟨m, hm, hc, m0, m2⟩ := z_marksOf (σ := σ) ok hr h7 hd hs hM
  refine ⟨sj_st σ 33 (d * 512 + s) (nI (8 * r + (m ||| k))), c_X4_mark ok ⟨_, _, hc, ?_⟩, fun b hb => z_stn hb, fun d' s' hd' hs' => ?_⟩
  · rw [pk_mul, nI_add, nI_clamp (by omega), h7, z_sh8 (by omega), z_or8 hm]
    refine ⟨z_in (by omega) (by decide), ?_⟩
    rw [← z_or8 hm, ← z_or8 (z_mkor m hm k hk), ← nx_or m k]
    have e : ∀ x y z : Int32, x ||| y ||| z = x ||| (y ||| z) := fun x y z => by
      apply b_ext
      intro i hi
      rw [b_or, b_or, b_or, b_or, Bool.or_assoc]
    rw [e]
  · by_cases e : d' * 512 + s' = d * 512 + s
    · obtain rfl : d' = d := by omega
      obtain rfl : s' = s := by omega
      refine ⟨m ||| k, z_mkor m hm k hk, Or.inl z_ste, h0 m hm m0, fun h => ?_⟩
      rw [Nat.testBit_or, Bool.or_eq_true] at h
      rcases h with h | h
      · exact m2 h
      · exact h2 h
    · rw [z_sti e]
      exact hM d' s' hd' hs'
theorem z_and0 {x : Int32} {s : Nat} (hs : s < 512) : (x &&& nI s) = 0 ↔ ∀ i, i < 9 → bt x i = true → s.testBit i = false := by
  constructor
  · intro h i hi hb
    have := congrArg (fun y => bt y i) h
    simp only [b_and, b_0, hb, Bool.true_and, z_bn s i (by omega : i < 32)] at this
    exact this
  · intro h
    apply b_ext
    intro i hi
    rw [b_and, b_0, z_bn _ _ hi]
    by_cases h9 : i < 9
    · cases hb : bt x i
      · rfl
      · rw [h i h9 hb]; rfl
    · rw [zS_out hs (by omega), Bool.and_false]
/-- how bits are told -/
theorem z_ifb {P : Prop} [Decidable P] {b : Bool} (h : b = true ↔ P) : (if P then nI 1 else nI 0) = (if b then nI 1 else nI 0) := by
  cases b
  · rw [if_neg (fun q => by cases h.mpr q), if_neg (by decide)]
  · rw [if_pos (h.mp rfl), if_pos rfl]
theorem z_d15 : ∀ d, d < 5 → ∀ i, i < 32 → bt ((nI 15) <<< (nI (d * 4) &&& 31)) i = decide (i / 4 = d) := by decide +kernel
theorem z_mayJoin (ok : sj_ok G) (v : okD D) (hR : zRuO D H O σ 18) {d l s p : Nat} (hd : d < 5) (hl : l < dN D) (hs : s < 512) (hp : p < 512) (hpN : ∀ i, p.testBit i = true → i < dN D) : ∃ b : Bool, sj_C G 2 me_X4_mayJoin [.ref (sj_ad G 30), .int (nI d), .int (nI l), .int (nI s), .int (nI p)] σ (.ok (if b then nI 1 else nI 0), σ) ∧
    (b = true ↔ (∃ i, i < 4 ∧ O l (d * 4 + i) = true) ∧ (∀ o, o < dN D → zWo D H l o = true → p.testBit o = false) ∧ ∀ o, o < l → (zWa D H l o || zWo D H l o) = true → p.testBit o = true ∨ s.testBit o = true) := by
  have h9 := v.1
  obtain ⟨r1, -, -, -, r5, -, r7, -⟩ := hR.2 l hl
  have hin : vp_in (nI l) 9 := z_in (by omega) (by decide)
  -- the three conditions
  have c1 : (((σ 19 l) >>> ((nI d * nI 4) &&& 31)) &&& nI 15) = 0 ↔ ¬ ∃ i, i < 4 ∧ O l (d * 4 + i) = true := by
    rw [pk_mul]
    have b15 : ∀ i, i < 32 → bt (nI 15) i = decide (i < 4) := by decide +kernel
    constructor
    · rintro h ⟨i, hi, ho⟩
      have := congrArg (fun y => bt y i) h
      simp only [b_and, b_0] at this
      rw [b_sshr (d * 4) (by omega) _ (by omega), if_pos (by omega), b15 i (by omega), r1 _ (by omega), decide_eq_true (by omega : d * 4 + i < 20), ho, decide_eq_true hi] at this
      cases this
    · intro h
      apply b_ext
      intro i hi
      rw [b_and, b_0, b15 i hi]
      by_cases h4 : i < 4
      · rw [b_sshr (d * 4) (by omega) _ hi, if_pos (by omega), r1 _ (by omega)]
        cases ho : O l (d * 4 + i)
        · simp
        · exact absurd ⟨i, h4, ho⟩ h
      · rw [decide_eq_false h4, Bool.and_false]
  have c2 : (σ 23 l &&& nI p) = 0 ↔ ∀ o, o < dN D → zWo D H l o = true → p.testBit o = false := by
    rw [z_and0 hp]
    constructor
    · intro h o ho hw
      exact h o (by omega) (by rw [r5 o (by omega)]; exact hw)
    · intro h o ho hb
      rw [r5 o (by omega)] at hb
      cases hpo : p.testBit o
      · rfl
      · have := h o (hpN o hpo) hb
        rw [hpo] at this
        exact this
  have c3 : (((σ 25 l ||| σ 23 l) &&& ((nI 1 <<< (nI l &&& 31)) - nI 1)) &&& ((nI p ||| nI s) ^^^ (-1))) = 0 ↔ ∀ o, o < l → (zWa D H l o || zWo D H l o) = true → p.testBit o = true ∨ s.testBit o = true := by
    have hb : ∀ i, i < 32 → bt (((σ 25 l ||| σ 23 l) &&& ((nI 1 <<< (nI l &&& 31)) - nI 1)) &&& ((nI p ||| nI s) ^^^ (-1))) i = ((zWa D H l i || zWo D H l i) && decide (i < l) && !(p.testBit i || s.testBit i)) := fun i hi => by
      rw [b_and, b_and, b_or, b_xor, b_or, b_m1 i hi, Bool.xor_true, z_bn _ _ hi, z_bn _ _ hi, r7 i hi, r5 i hi, z_lowm l (by omega) i hi]
      rfl
    constructor
    · intro h o ho hw
      have := congrArg (fun y => bt y o) h
      simp only [b_0] at this
      rw [hb o (by omega), hw, decide_eq_true ho] at this
      simp only [Bool.true_and, Bool.not_eq_false', Bool.or_eq_true] at this
      exact this
    · intro h
      apply b_ext
      intro i hi
      rw [b_0, hb i hi]
      cases hw : (zWa D H l i || zWo D H l i)
      · rfl
      · by_cases hil : i < l
        · rcases h i hil hw with e | e
          · rw [e]; simp
          · rw [e]; simp
        · rw [decide_eq_false hil]; rfl
  refine ⟨decide (¬ (((σ 19 l) >>> ((nI d * nI 4) &&& 31)) &&& nI 15) = 0 ∧ (σ 23 l &&& nI p) = 0 ∧ (((σ 25 l ||| σ 23 l) &&& ((nI 1 <<< (nI l &&& 31)) - nI 1)) &&& ((nI p ||| nI s) ^^^ (-1))) = 0), c_X4_mayJoin ok ?_, ?_⟩
  · unfold wp_X4_mayJoin_0 wp_X4_mayJoin_82
    rw [nI_clamp (by omega)]
    refine ⟨hin, hin, hin, fun _ => hin, ?_, ?_⟩
    · by_cases q1 : (((σ 19 l) >>> ((nI d * nI 4) &&& 31)) &&& nI 15) = 0
      · rw [if_pos q1, decide_eq_false (fun q => q.1 q1)]; rfl
      · rw [if_neg q1]
        by_cases q2 : (σ 23 l &&& nI p) = 0
        · rw [if_pos q2]
          by_cases q3 : (((σ 25 l ||| σ 23 l) &&& ((nI 1 <<< (nI l &&& 31)) - nI 1)) &&& ((nI p ||| nI s) ^^^ (-1))) = 0
          · rw [if_pos q3, decide_eq_true ⟨q1, q2, q3⟩]; rfl
          · rw [if_neg q3, decide_eq_false (fun q => q3 q.2.2)]; rfl
        · rw [if_neg q2, decide_eq_false (fun q => q2 q.2.1)]; rfl
    · repeat' split
      all_goals first | exact Or.inl rfl | exact Or.inr rfl
  · rw [decide_eq_true_eq, c1, c2, c3, Classical.not_not]
theorem z_mustJoin (ok : sj_ok G) (v : okD D) (hR : zRuO D H O σ 18) {d l s : Nat} (hd : d < 5) (hl : l < dN D) (hs : s < 512) : ∃ b : Bool, sj_C G 2 me_X4_mustJoin [.ref (sj_ad G 30), .int (nI d), .int (nI l), .int (nI s)] σ (.ok (if b then nI 1 else nI 0), σ) ∧
    (b = true ↔ (∀ i, (d + 1) * 4 ≤ i → i < 20 → O l i = false) ∨ ∃ o, o < 9 ∧ (zWa D H o l || zWo D H l o) = true ∧ s.testBit o = true) := by
  have h9 := v.1
  obtain ⟨r1, -, -, -, r5, -, -, r8, -⟩ := hR.2 l hl
  have hin : vp_in (nI l) 9 := z_in (by omega) (by decide)
  have c1 : ((σ 19 l) >>> (((nI d + nI 1) * nI 4) &&& 31)) = 0 ↔ ∀ i, (d + 1) * 4 ≤ i → i < 20 → O l i = false := by
    rw [nI_add, pk_mul]
    have b31 : bt (σ 19 l) 31 = false := by rw [r1 31 (by omega)]; rfl
    constructor
    · intro h i h1 h2
      have := congrArg (fun y => bt y (i - (d + 1) * 4)) h
      simp only [b_0] at this
      rw [b_sshr ((d + 1) * 4) (by omega) _ (by omega), if_pos (by omega), r1 _ (by omega), decide_eq_true (by omega : (d + 1) * 4 + (i - (d + 1) * 4) < 20), show (d + 1) * 4 + (i - (d + 1) * 4) = i by omega] at this
      exact this
    · intro h
      apply b_ext
      intro i hi
      rw [b_0, b_sshr ((d + 1) * 4) (by omega) _ hi, b31]
      split
      · rw [r1 _ (by omega)]
        by_cases h20 : (d + 1) * 4 + i < 20
        · rw [h _ (by omega) h20, Bool.and_false]
        · rw [decide_eq_false h20]; rfl
      · rfl
  have c2 : ((σ 26 l ||| σ 23 l) &&& nI s) = 0 ↔ ¬ ∃ o, o < 9 ∧ (zWa D H o l || zWo D H l o) = true ∧ s.testBit o = true := by
    have hb : ∀ o, o < 32 → bt (σ 26 l ||| σ 23 l) o = (zWa D H o l || zWo D H l o) := fun o ho => by
      rw [b_or, r8 o ho, r5 o ho]
      rfl
    rw [z_and0 hs]
    constructor
    · rintro h ⟨o, ho, h1, h2⟩
      rw [h o ho (by rw [hb o (by omega)]; exact h1)] at h2
      cases h2
    · intro h o ho h1
      rw [hb o (by omega)] at h1
      cases h2 : s.testBit o
      · rfl
      · exact absurd ⟨o, ho, h1, h2⟩ h
  refine ⟨decide (((σ 19 l) >>> (((nI d + nI 1) * nI 4) &&& 31)) = 0 ∨ ¬ ((σ 26 l ||| σ 23 l) &&& nI s) = 0), c_X4_mustJoin ok ?_, ?_⟩
  · unfold wp_X4_mustJoin_0 wp_X4_mustJoin_23 wp_X4_mustJoin_59
    rw [nI_clamp (by omega)]
    refine ⟨hin, fun _ => ⟨hin, hin⟩, ?_, ?_⟩
    · by_cases q1 : ((σ 19 l) >>> (((nI d + nI 1) * nI 4) &&& 31)) = 0
      · rw [if_pos q1, if_neg z_10, decide_eq_true (Or.inl q1)]; rfl
      · rw [if_neg q1, if_pos z_00]
        by_cases q2 : ((σ 26 l ||| σ 23 l) &&& nI s) = 0
        · rw [if_pos q2, decide_eq_false (fun q => q.elim q1 (fun r => r q2))]; rfl
        · rw [if_neg q2, decide_eq_true (Or.inr q2)]; rfl
    · repeat' split
      all_goals first | exact Or.inl rfl | exact Or.inr rfl
  · rw [decide_eq_true_eq, c1, c2, Classical.not_not]
theorem z_sl35 : zSl 35 := ⟨rfl, by decide, rfl⟩
/-- the lessons of a set, from one on, find hours of the day -/
theorem z_canStandJ (ok : sj_ok G) (v : okD D) {d s : Nat} (hd : d < 5) (hs : s < 512) (hO : ∀ l, l < dN D → ∀ i, i < 20 → O l i = true → zOb D H l i (dW D) = true) : ∀ n l dep (U : Nat → Nat) (σ : sj_S), l + n = dN D → 20 ≤ dep + l → zRuO D H O σ 18 → (∀ o, o < l → s.testBit o = true → σ 35 o = nI (U o) ∧ U o < 20) →
    ∃ (b : Bool) (σ' : sj_S), sj_J G dep me_X4_canStand (.ok (if b then nI 1 else nI 0), σ') 4 [.ref (sj_ad G 18), .ref (sj_ad G 35), .int (nI d), .int (nI s), .null, .int (nI l), .null, .null] σ [] ∧ (∀ b, b ≠ 35 → σ' b = σ b) ∧ (∀ o, o < l ∨ s.testBit o = false → σ' 35 o = σ 35 o) ∧
      (b = true → ∃ U' : Nat → Nat, (∀ o, o < l → s.testBit o = true → U' o = U o) ∧ (∀ m, l ≤ m → m < dN D → s.testBit m = true → zGd D H O d s U' m) ∧ ∀ o, o < dN D → s.testBit o = true → σ' 35 o = nI (U' o)) ∧
      (b = false → ∀ U' : Nat → Nat, (∀ o, o < l → s.testBit o = true → U' o = U o) → ¬ ∀ m, l ≤ m → m < dN D → s.testBit m = true → zGd D H O d s U' m) := by
  have h9 := v.1
  intro n
  induction n with
  | zero =>
    intro l dep U σ hl hdep hR hU
    obtain rfl : l = dN D := by omega
    refine ⟨true, σ, t_X4_canStand_4 (dd := dep - 1) (by omega) (by omega) ⟨fun _ => ⟨fun q => ?_, fun _ => rfl⟩, fun q => ?_⟩, fun _ _ => rfl, fun _ _ => rfl, fun _ => ⟨U, fun _ _ _ => rfl, fun m h1 h2 => absurd h2 (by omega), fun o h1 h2 => (hU o h1 h2).1⟩, fun q => by cases q⟩
    · rw [hR.1] at q
      exact absurd q (nI_nlt (by omega) (by omega))
    · rw [hR.1] at q
      exact absurd (nI_le (by omega) (by omega)) q
  | succ n ih =>
    intro l dep U σ hl hdep hR hU
    have hlt : ¬ (σ 18 0) ≤ nI l := by rw [hR.1]; exact nI_ge (by omega) (by omega)
    cases hsl : s.testBit l
    · -- not of the set
      obtain ⟨b, σ', r1, r2, r3, r4, r5⟩ := ih (l + 1) dep U σ (by omega) (by omega) hR (fun o ho hb => by
        by_cases e : o = l
        · subst e; rw [hsl] at hb; cases hb
        · exact hU o (by omega) hb)
      refine ⟨b, σ', t_X4_canStand_4 (dd := dep - 1) (by omega) (by omega) ⟨fun q => absurd q hlt, fun _ => ⟨fun q => ?_, fun _ => ?_⟩⟩, r2, fun o ho => ?_, fun hb => ?_, fun hb U' hU' hg => ?_⟩
      · rw [z_bit (by omega), z_bn _ _ (by omega)] at q
        exact absurd hsl q
      · rw [nI_add]
        exact r1
      · refine r3 o ?_
        rcases ho with h | h
        · exact Or.inl (by omega)
        · exact Or.inr h
      · obtain ⟨U', u1, u2, u3⟩ := r4 hb
        refine ⟨U', fun o ho hso => u1 o (by omega) hso, fun m h1 h2 h3 => ?_, u3⟩
        by_cases e : m = l
        · subst e; rw [hsl] at h3; cases h3
        · exact u2 m (by omega) h2 h3
      · refine r5 hb U' (fun o ho hso => ?_) (fun m h1 h2 h3 => hg m (by omega) h2 h3)
        by_cases e : o = l
        · subst e; rw [hsl] at hso; cases hso
        · exact hU' o (by omega) hso
    · -- of the set: slot by slot
      have hbits : ∀ o, o < 32 → bt (nI s &&& ((nI 1 <<< (nI l &&& 31)) - nI 1)) o = (s.testBit o && decide (o < l)) := fun o ho => by
        rw [b_and, z_bn _ _ ho, z_lowm l (by omega) o ho]
      obtain ⟨r, hal, hr⟩ := z_allowedO (σ := σ) (T := U) ok v (Or.inr rfl) z_sl35 hR (by omega : l < dN D) (x3 := nI s &&& ((nI 1 <<< (nI l &&& 31)) - nI 1)) (hO l (by omega)) (fun o ho hne hb => by
        rw [hbits o (by omega), Bool.and_eq_true, decide_eq_true_eq] at hb
        exact hU o hb.2 hb.1)
      have hr2 : ∀ i, i < 20 → bt r i = (zAl D H U (fun o => s.testBit o && decide (o < l)) l i && O l i) := fun i hi => by
        rw [hr i (by omega), zAl_H (fun _ _ => rfl) (fun o ho => hbits o (by omega))]
      have key : ∀ k i (σ1 : sj_S), i + k = (d + 1) * 4 → d * 4 ≤ i → (∀ b, b ≠ 35 → σ1 b = σ b) → (∀ o, o < l ∨ s.testBit o = false → σ1 35 o = σ 35 o) →
          (∀ U' : Nat → Nat, (∀ o, o < l → s.testBit o = true → U' o = U o) → U' l < i → ¬ ∀ m, l ≤ m → m < dN D → s.testBit m = true → zGd D H O d s U' m) →
          ∃ (b : Bool) (σ' : sj_S), sj_J G dep me_X4_canStand (.ok (if b then nI 1 else nI 0), σ') 61 [.ref (sj_ad G 18), .ref (sj_ad G 35), .int (nI d), .int (nI s), .null, .int (nI l), .int r, .int (nI i)] σ1 [] ∧ (∀ b, b ≠ 35 → σ' b = σ b) ∧ (∀ o, o < l ∨ s.testBit o = false → σ' 35 o = σ 35 o) ∧
            (b = true → ∃ U' : Nat → Nat, (∀ o, o < l → s.testBit o = true → U' o = U o) ∧ (∀ m, l ≤ m → m < dN D → s.testBit m = true → zGd D H O d s U' m) ∧ ∀ o, o < dN D → s.testBit o = true → σ' 35 o = nI (U' o)) ∧
            (b = false → ∀ U' : Nat → Nat, (∀ o, o < l → s.testBit o = true → U' o = U o) → ¬ ∀ m, l ≤ m → m < dN D → s.testBit m = true → zGd D H O d s U' m) := by
        intro k
        induction k with
        | zero =>
          intro i σ1 hi hi0 f1 f2 hno
          refine ⟨false, σ1, t_X4_canStand_61 (dd := dep - 1) (by omega) (by omega) ⟨fun _ => rfl, fun q => ?_⟩, f1, f2, fun q => (by cases q), fun _ U' hU' hg => ?_⟩
          · rw [nI_add, pk_mul] at q
            exact absurd (nI_le (by omega) (by omega)) q
          · have h1 := (hg l (Nat.le_refl l) (by omega) hsl).1
            exact hno U' hU' (by omega) hg
        | succ k ihk =>
          intro i σ1 hi hi0 f1 f2 hno
          have hilt : ¬ (nI d + nI 1) * nI 4 ≤ nI i := by rw [nI_add, pk_mul]; exact nI_ge (by omega) (by omega)
          have hi20 : i < 20 := by omega
          cases hb : bt r i
          · -- not allowed
            have hz : (zAl D H U (fun o => s.testBit o && decide (o < l)) l i && O l i) = false := by rw [← hr2 i hi20]; exact hb
            obtain ⟨b, σ', r1, r2⟩ := ihk (i + 1) σ1 (by omega) (by omega) f1 f2 (fun U' hU' hlt2 hg => by
              by_cases e : U' l = i
              · obtain ⟨-, g2, g3⟩ := hg l (Nat.le_refl l) (by omega) hsl
                rw [e, zAl_congr (T' := U) (fun o _ _ hq => by rw [Bool.and_eq_true, decide_eq_true_eq] at hq; exact hU' o hq.2 hq.1)] at g2
                rw [e] at g3
                rw [g2, g3] at hz
                cases hz
              · exact hno U' hU' (by omega) hg)
            refine ⟨b, σ', t_X4_canStand_61 (dd := dep - 1) (by omega) (by omega) ⟨fun q => absurd q hilt, fun _ => ⟨fun _ => ?_, fun q => ?_⟩⟩, r2⟩
            · unfold wp_X4_canStand_103
              rw [nI_add]
              exact r1
            · rw [z_bit (by omega)] at q
              exact absurd hb q
          · -- allowed: on with the next lesson
            have hz : (zAl D H U (fun o => s.testBit o && decide (o < l)) l i && O l i) = true := by rw [← hr2 i hi20]; exact hb
            rw [Bool.and_eq_true] at hz
            have hR1 : zRuO D H O (sj_st σ1 35 l (nI i)) 18 := by
              have e : ∀ b, b ≠ 35 → (sj_st σ1 35 l (nI i)) b = σ b := fun b hb => by rw [z_stn hb]; exact f1 b hb
              unfold zRuO
              rw [e 18 (by decide), e (18 + 1) (by decide), e (18 + 2) (by decide), e (18 + 3) (by decide), e (18 + 4) (by decide), e (18 + 5) (by decide), e (18 + 6) (by decide), e (18 + 7) (by decide), e (18 + 8) (by decide), e (18 + 9) (by decide), e (18 + 10) (by decide)]
              exact hR
            obtain ⟨b, σ2, q1, q2, q3, q4, q5⟩ := ih (l + 1) (dep - 1) (zEu U l i) (sj_st σ1 35 l (nI i)) (by omega) (by omega) hR1 (fun o ho hso => by
              unfold zEu
              by_cases e : o = l
              · subst e
                rw [z_ste, if_pos rfl]
                exact ⟨rfl, hi20⟩
              · rw [z_sti e, if_neg e, f2 o (Or.inl (by omega))]
                exact hU o (by omega) hso)
            have hcc := c_X4_canStand (dd := dep - 1 - 1) ok (by omega) (by omega) q1
            have f1' : ∀ b, b ≠ 35 → σ2 b = σ b := fun b hb => by rw [q2 b hb, z_stn hb]; exact f1 b hb
            have f2' : ∀ o, o < l ∨ s.testBit o = false → σ2 35 o = σ 35 o := fun o ho => by
              have hne : o ≠ l := by
                rcases ho with h | h
                · omega
                · intro e; subst e; rw [hsl] at h; cases h
              rw [q3 o (ho.imp (fun h => by omega) (fun h => h)), z_sti hne]
              exact f2 o ho
            have hst : vp_in (nI l) 9 := z_in (by omega) (by decide)
            cases b
            · -- in vain
              obtain ⟨b2, σ', r1, r2⟩ := ihk (i + 1) σ2 (by omega) (by omega) f1' f2' (fun U' hU' hlt2 hg => by
                by_cases e : U' l = i
                · refine q5 rfl U' (fun o ho hso => ?_) (fun m h1 h2 h3 => hg m (by omega) h2 h3)
                  unfold zEu
                  by_cases e2 : o = l
                  · rw [if_pos e2, e2, e]
                  · rw [if_neg e2]
                    exact hU' o (by omega) hso
                · exact hno U' hU' (by omega) hg)
              refine ⟨b2, σ', t_X4_canStand_61 (dd := dep - 1) (by omega) (by omega) ⟨fun q => absurd q hilt, fun _ => ⟨fun q => ?_, fun _ => ⟨hst, ?_⟩⟩⟩, r2⟩
              · rw [z_bit (by omega)] at q
                rw [hb] at q
                cases q
              · rw [nI_clamp (by omega), nI_add l 1]
                refine ⟨_, _, hcc, fun _ => ?_, fun q => absurd z_00 q⟩
                unfold wp_X4_canStand_103
                rw [nI_add]
                exact r1
            · -- found
              obtain ⟨U', u1, u2, u3⟩ := q4 rfl
              have u1' : ∀ o, o < l → s.testBit o = true → U' o = U o := fun o ho hso => by
                rw [u1 o (by omega) hso]
                unfold zEu
                rw [if_neg (by omega)]
              have ul : U' l = i := by
                rw [u1 l (by omega) hsl]
                unfold zEu
                rw [if_pos rfl]
              refine ⟨true, σ2, t_X4_canStand_61 (dd := dep - 1) (by omega) (by omega) ⟨fun q => absurd q hilt, fun _ => ⟨fun q => ?_, fun _ => ⟨hst, ?_⟩⟩⟩, f1', f2', fun _ => ⟨U', u1', fun m h1 h2 h3 => ?_, u3⟩, fun q => by cases q⟩
              · rw [z_bit (by omega)] at q
                rw [hb] at q
                cases q
              · rw [nI_clamp (by omega), nI_add l 1]
                exact ⟨_, _, hcc, fun q => absurd q z_10, fun _ => rfl⟩
              · by_cases e : m = l
                · subst e
                  refine ⟨by rw [ul]; omega, ?_, by rw [ul]; exact hz.2⟩
                  rw [ul, zAl_congr (T' := U) (fun o _ _ hq => by rw [Bool.and_eq_true, decide_eq_true_eq] at hq; exact u1' o hq.2 hq.1)]
                  exact hz.1
                · exact u2 m (by omega) h2 h3
      obtain ⟨b, σ', r1, r2⟩ := key 4 (d * 4) σ (by omega) (Nat.le_refl _) (fun _ _ => rfl) (fun _ _ => rfl) (fun U' hU' hlt2 hg => by
        have h1 := (hg l (Nat.le_refl l) (by omega) hsl).1
        omega)
      refine ⟨b, σ', t_X4_canStand_4 (dd := dep - 1) (by omega) (by omega) ⟨fun q => absurd q hlt, fun _ => ⟨fun _ => ⟨fun _ => ⟨_, _, hal, ?_⟩, fun q => ?_⟩, fun q => ?_⟩⟩, r2⟩
      · rw [pk_mul]
        exact r1
      · rw [hR.1] at q
        exact absurd (nI_lt (by omega) (by omega)) q
      · rw [z_bit (by omega), z_bn _ _ (by omega), hsl] at q
        cases q
theorem z_canStand (ok : sj_ok G) (v : okD D) {d s : Nat} (hd : d < 5) (hs : s < 512) (hO : ∀ l, l < dN D → ∀ i, i < 20 → O l i = true → zOb D H l i (dW D) = true) (hR : zRuO D H O σ 18) :
    ∃ (b : Bool) (σ' : sj_S), sj_C G 40 me_X4_canStand [.ref (sj_ad G 18), .ref (sj_ad G 35), .int (nI d), .int (nI s), .int (nI 0)] σ (.ok (if b then nI 1 else nI 0), σ') ∧ (∀ b, b ≠ 35 → σ' b = σ b) ∧ (∀ o, s.testBit o = false → σ' 35 o = σ 35 o) ∧ (b = true ↔ zDk D H O d s) ∧
      (b = true → ∃ U : Nat → Nat, (∀ m, m < dN D → s.testBit m = true → zGd D H O d s U m) ∧ ∀ o, o < dN D → s.testBit o = true → σ' 35 o = nI (U o)) := by
  obtain ⟨b, σ', r1, r2, r3, r4, r5⟩ := z_canStandJ ok v hd hs hO (dN D) 0 40 (fun _ => 0) σ (by omega) (by omega) hR (fun o ho => absurd ho (by omega))
  refine ⟨b, σ', c_X4_canStand (dd := 39) ok (by omega) (by omega) r1, r2, fun o ho => r3 o (Or.inr ho), ⟨fun hb => ?_, fun hk => ?_⟩, fun hb => ?_⟩
  · obtain ⟨U, -, u2, -⟩ := r4 hb
    exact ⟨U, fun m hm hs => u2 m (Nat.zero_le m) hm hs⟩
  · cases hb : b
    · exfalso
      obtain ⟨U, hU⟩ := hk
      exact r5 hb U (fun o ho => absurd ho (by omega)) (fun m _ hm hs => hU m hm hs)
    · rfl
  · obtain ⟨U, -, u2, u3⟩ := r4 hb
    exact ⟨U, fun m hm hs => u2 m (Nat.zero_le m) hm hs, u3⟩
end ZFI
