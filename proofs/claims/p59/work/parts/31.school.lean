/-! SCHOOL: the methods of Schoolhours.School over a school D -/
section ZSC
variable {G : sj_G} {σ : sj_S} {D : zD} {T : Nat → Nat}
theorem z_lessonTotal (ok : sj_ok G) : sj_C G 2 me_X8_lessonTotal [.ref (sj_ad G 1)] σ (.ok (σ 2 0), σ) := c_X8_lessonTotal ok rfl
theorem z_wishTotal (ok : sj_ok G) : sj_C G 2 me_X8_wishTotal [.ref (sj_ad G 1)] σ (.ok (σ 2 1), σ) := c_X8_wishTotal ok rfl
theorem z_hasTable (ok : sj_ok G) : sj_C G 2 me_X8_hasTable [.ref (sj_ad G 1)] σ (.ok (if σ 2 2 = 0 then nI 0 else nI 1), σ) := by
  refine c_X8_hasTable ok ?_
  unfold wp_X8_hasTable_0 wp_X8_hasTable_14
  refine ⟨rfl, ?_⟩
  split <;> simp
theorem z_loseTable (ok : sj_ok G) : sj_C G 2 me_X8_loseTable [.ref (sj_ad G 1)] σ (.ok 0, sj_st σ 2 2 (nI 0)) := c_X8_loseTable ok rfl
theorem z_putTable (ok : sj_ok G) {sl : Nat} (hsl : zSl sl) : sj_C G 2 me_X8_putTable [.ref (sj_ad G 1), .ref (sj_ad G sl)] σ (.ok 0, sj_up (sj_st σ 2 2 (nI 1)) 3 (va_cpy (sj_st σ 2 2 (nI 1) sl) (sj_st σ 2 2 (nI 1) 3) 0 0 9)) := c_X8_putTable ok hsl rfl
theorem z_ofLesson (ok : sj_ok G) {l k : Nat} (hl : l < 9) (hk : k < 5) : sj_C G 2 me_X8_ofLesson [.ref (sj_ad G 1), .int (nI l), .int (nI k)] σ (.ok (σ 2 (3 + l * 5 + k)), σ) := by
  refine c_X8_ofLesson ok ?_
  unfold wp_X8_ofLesson_0
  simp only [nI_add, pk_mul]
  exact ⟨z_in (by omega) (by decide), by rw [nI_clamp (by omega)]⟩
theorem z_ofWish (ok : sj_ok G) {w k : Nat} (hw : w < 12) (hk : k < 4) : sj_C G 2 me_X8_ofWish [.ref (sj_ad G 1), .int (nI w), .int (nI k)] σ (.ok (σ 2 (48 + w * 4 + k)), σ) := by
  refine c_X8_ofWish ok ?_
  unfold wp_X8_ofWish_0
  simp only [nI_add, pk_mul]
  exact ⟨z_in (by omega) (by decide), by rw [nI_clamp (by omega)]⟩
theorem z_subjectsOf (ok : sj_ok G) {t : Nat} (ht : t < 6) : sj_C G 2 me_X8_subjectsOf [.ref (sj_ad G 1), .int (nI t)] σ (.ok (σ 2 (96 + t)), σ) := by
  refine c_X8_subjectsOf ok ?_
  unfold wp_X8_subjectsOf_0
  simp only [nI_add]
  exact ⟨z_in (by omega) (by decide), by rw [nI_clamp (by omega)]⟩
theorem z_roomsOf (ok : sj_ok G) {t : Nat} (ht : t < 3) : sj_C G 2 me_X8_roomsOf [.ref (sj_ad G 1), .int (nI t)] σ (.ok (σ 2 (102 + t)), σ) := by
  refine c_X8_roomsOf ok ?_
  unfold wp_X8_roomsOf_0
  simp only [nI_add]
  exact ⟨z_in (by omega) (by decide), by rw [nI_clamp (by omega)]⟩
theorem z_apartFrom (ok : sj_ok G) {t : Nat} (ht : t < 8) : sj_C G 2 me_X8_apartFrom [.ref (sj_ad G 1), .int (nI t)] σ (.ok (σ 2 (111 + t)), σ) := by
  refine c_X8_apartFrom ok ?_
  unfold wp_X8_apartFrom_0
  simp only [nI_add]
  exact ⟨z_in (by omega) (by decide), by rw [nI_clamp (by omega)]⟩
theorem z_isIll (ok : sj_ok G) {t d : Nat} (ht : t < 6) (hd : d < 32) : sj_C G 2 me_X8_isIll [.ref (sj_ad G 1), .int (nI t), .int (nI d)] σ (.ok (if bt (σ 2 (105 + t)) d then nI 1 else nI 0), σ) := by
  refine c_X8_isIll ok ?_
  unfold wp_X8_isIll_0 wp_X8_isIll_21
  simp only [nI_add, z_bit hd]
  refine ⟨z_in (by omega) (by decide), ?_, ?_⟩
  · rw [nI_clamp (by omega)]
    cases bt (σ 2 (105 + t)) d <;> rfl
  · split <;> simp
theorem z_isOf (ok : sj_ok G) {l b : Nat} {who : Int32} (hl : l < 9) (hb : b ≤ 1) : sj_C G 2 me_X8_isOf [.ref (sj_ad G 1), .int (nI l), .int (nI b), .int who] σ (.ok (if σ 2 (3 + l * 5 + b) = who then nI 1 else nI 0), σ) := by
  refine c_X8_isOf ok ?_
  unfold wp_X8_isOf_0 wp_X8_isOf_18 wp_X8_isOf_29
  have e : (if nI b = 0 then nI 0 else nI 1) = nI b := by
    rcases (by omega : b = 0 ∨ b = 1) with h | h <;> subst h <;> decide
  simp only [e, nI_add, pk_mul]
  refine ⟨z_in (by omega) (by decide), ?_, ?_⟩
  · rw [nI_clamp (by omega)]
  · split <;> simp
theorem z_isOfD (ok : sj_ok G) (hC : repC D (σ 2)) (v : okD D) {l b p : Nat} (hl : l < dN D) (hb : b ≤ 1) (hp : p < 2 ^ 31) : sj_C G 2 me_X8_isOf [.ref (sj_ad G 1), .int (nI l), .int (nI b), .int (nI p)] σ (.ok (if dP D b l = p then nI 1 else nI 0), σ) := by
  have h := z_isOf (σ := σ) ok (l := l) (b := b) (who := nI p) (by have := v.1; omega) hb
  have e : (σ 2 (3 + l * 5 + b) = nI p) = (dP D b l = p) := by
    obtain ⟨h1, h2, -⟩ := hC.2.2.2.1 l hl
    obtain ⟨g1, g2, -⟩ := v.2.2.2.1 l hl
    rcases (by omega : b = 0 ∨ b = 1) with e | e <;> subst e
    · rw [h1, nI_eq (by omega) hp]; simp [dP]
    · rw [h2, nI_eq (by omega) hp]; simp [dP]
  simp only [e] at h
  exact h
theorem z_slotsTaken (ok : sj_ok G) (hC : repC D (σ 2)) (v : okD D) {l sl : Nat} (hsl : zSl sl) (hl : l < dN D) (hT : repT (dN D) T (σ sl)) : sj_C G 2 me_X8_slotsTaken [.ref (sj_ad G 1), .int (nI l), .ref (sj_ad G sl)] σ (.ok (zTs D T l), σ) := by
  refine c_X8_slotsTaken ok hsl ?_
  unfold wp_X8_slotsTaken_0 wp_X8_slotsTaken_21
  have h9 := v.1
  obtain ⟨-, -, -, -, h5⟩ := hC.2.2.2.1 l hl
  obtain ⟨-, -, -, -, g5⟩ := v.2.2.2.1 l hl
  simp only [nI_add, pk_mul]
  refine ⟨z_in (by omega) (by decide), z_in (by omega) (by decide), ?_⟩
  rw [nI_clamp (by omega), nI_clamp (by omega), (hT l hl).1, h5]
  have e : (nI (dDb D l) = nI 1) = (dDb D l = 1) := by rw [nI_eq (by omega) (by decide)]
  simp only [e]
  rfl
theorem z_slotsOfPerson (ok : sj_ok G) (hC : repC D (σ 2)) (v : okD D) {b p sl : Nat} (hsl : zSl sl) (hb : b ≤ 1) (hp : p < 2 ^ 31) (hT : repT (dN D) T (σ sl)) : sj_C G 3 me_X8_slotsOfPerson [.ref (sj_ad G 1), .int (nI b), .int (nI p), .ref (sj_ad G sl)] σ (.ok (zSp D b p T (dN D)), σ) := by
  refine c_X8_slotsOfPerson ok hsl ?_
  unfold wp_X8_slotsOfPerson_0
  have h9 := v.1
  have key : ∀ k i, i + k = dN D → sj_J G 3 me_X8_slotsOfPerson (.ok (zSp D b p T (dN D)), σ) 6 [.ref (sj_ad G 1), .int (nI b), .int (nI p), .ref (sj_ad G sl), .int (zSp D b p T i), .int (nI i)] σ [] := by
    intro k
    induction k with
    | zero =>
      intro i hi
      refine t_X8_slotsOfPerson_6 hsl ?_
      refine ⟨_, _, z_lessonTotal ok, fun _ => ?_, fun h => ?_⟩
      · rw [show i = dN D by omega]
      · rw [hC.1] at h
        exact absurd (nI_le (by omega) (by omega)) h
    | succ k ih =>
      intro i hi
      refine t_X8_slotsOfPerson_6 hsl ?_
      refine ⟨_, _, z_lessonTotal ok, fun h => ?_, fun _ => ⟨_, _, z_isOfD ok hC v (by omega) hb hp, fun h => ?_, fun h => ⟨_, _, z_slotsTaken ok hC v hsl (by omega) hT, ?_⟩⟩⟩
      · rw [hC.1] at h
        exact absurd h (nI_ge (by omega) (by omega))
      · unfold wp_X8_slotsOfPerson_38
        have h1 := ih (i + 1) (by omega)
        by_cases hq : dP D b i = p
        · rw [if_pos hq] at h; exact absurd h (by decide)
        · simp only [zSp, if_neg hq] at h1
          rw [nI_add]
          exact h1
      · unfold wp_X8_slotsOfPerson_38
        have h1 := ih (i + 1) (by omega)
        by_cases hq : dP D b i = p
        · simp only [zSp, if_pos hq] at h1
          rw [nI_add]
          exact h1
        · rw [if_neg hq] at h; exact absurd nI_0 h
  exact key (dN D) 0 (by omega)
end ZSC
/-! SCHOOL 2: what changes a school; sets of wishes, subjects; a wish held against a table -/
def zSet (x : Int32) (k : Nat) (b : Bool) : Int32 := if b then x ||| (nI 1 <<< (nI k &&& 31)) else x &&& ((nI 1 <<< (nI k &&& 31)) ^^^ (-1))
theorem zSet_bt {x : Int32} {k i : Nat} {b : Bool} (hk : k < 32) (hi : i < 32) : bt (zSet x k b) i = if i = k then b else bt x i := by
  unfold zSet
  by_cases h : i = k
  · subst h
    cases b
    · rw [if_neg (by decide), if_pos rfl, b_and, b_xor, z_shl1 hk hi, b_m1 i hi]; simp
    · rw [if_pos rfl, if_pos rfl, b_or, z_shl1 hk hi]; simp
  · cases b
    · rw [if_neg (by decide), if_neg h, b_and, b_xor, z_shl1 hk hi, b_m1 i hi]; simp [h]
    · rw [if_pos rfl, if_neg h, b_or, z_shl1 hk hi]; simp [h]
def zHard (D : zD) : Nat → Int32
  | 0 => nI 0
  | n + 1 => if dWe D n = 0 then zHard D n ||| (nI 1 <<< (nI n &&& 31)) else zHard D n
theorem zHard_bt {D : zD} {i : Nat} (hi : i < 32) : ∀ n, n ≤ 32 → bt (zHard D n) i = (decide (i < n) && decide (dWe D i = 0)) := by
  intro n
  induction n with
  | zero => intro _; simp [zHard, z_bn _ _ hi]
  | succ n ih =>
    intro hn
    have h := ih (by omega)
    by_cases hw : dWe D n = 0
    · simp only [zHard, hw, if_true, b_or, h, z_shl1 (by omega : n < 32) hi]
      by_cases e : i = n
      · subst e; simp [hw]
      · simp [e, show (i < n + 1) = (i < n) by rw [eq_iff_iff]; omega]
    · simp only [zHard, hw, if_false, h]
      by_cases e : i = n
      · subst e; simp [hw]
      · simp [show (i < n + 1) = (i < n) by rw [eq_iff_iff]; omega]
def zGiven (D : zD) (t : Nat) : Nat → Int32
  | 0 => nI 0
  | n + 1 => if dTe D n = t then zGiven D t n ||| (nI 1 <<< (nI (dSu D n) &&& 31)) else zGiven D t n
theorem zGiven_bt {D : zD} {t i : Nat} (hi : i < 32) : ∀ n, (∀ l, l < n → dSu D l < 32) → (bt (zGiven D t n) i = true ↔ ∃ l, l < n ∧ dTe D l = t ∧ dSu D l = i) := by
  intro n
  induction n with
  | zero => intro _; simp [zGiven, z_bn _ _ hi]
  | succ n ih =>
    intro hs
    have h := ih (fun l hl => hs l (by omega))
    by_cases hw : dTe D n = t
    · simp only [zGiven, hw, if_true, b_or, z_shl1 (hs n (by omega)) hi, Bool.or_eq_true, h, decide_eq_true_eq]
      constructor
      · rintro (⟨l, h1, h2⟩ | h1)
        · exact ⟨l, by omega, h2⟩
        · exact ⟨n, by omega, hw, h1.symm⟩
      · rintro ⟨l, h1, h2, h3⟩
        by_cases e : l = n
        · subst e; exact Or.inr h3.symm
        · exact Or.inl ⟨l, by omega, h2, h3⟩
    · simp only [zGiven, hw, if_false, h]
      constructor
      · rintro ⟨l, h1, h2⟩
        exact ⟨l, by omega, h2⟩
      · rintro ⟨l, h1, h2, h3⟩
        by_cases e : l = n
        · subst e; exact absurd h2 hw
        · exact ⟨l, by omega, h2, h3⟩
def zFul (D : zD) (T : Nat → Nat) (w : Nat) : Bool :=
  if dSo D w = 0 then !zAny D 1 (dA D w) T (dB D w) (dN D) else if dSo D w = 1 then !zAny D 0 (dA D w) T (dB D w) (dN D) else if dSo D w = 2 then !decide (T (dA D w) / 4 = dB D w) else if dSo D w = 3 then decide (T (dA D w) = dB D w)
  else if dSo D w = 4 then decide (T (dA D w) / 4 = T (dB D w) / 4) else if dSo D w = 5 then !decide (T (dA D w) / 4 = T (dB D w) / 4) else decide (T (dA D w) < T (dB D w))
def zLex (T U : Nat → Nat) : Nat → Nat → Bool
  | 0, _ => false
  | k + 1, i => if T i = U i then zLex T U k (i + 1) else decide (T i < U i)
def zAddL (σ : sj_S) (n : Nat) (g t s k d : Int32) : sj_S := sj_st (sj_st (sj_st (sj_st (sj_st (sj_st σ 2 (3 + n * 5 + 0) g) 2 (3 + n * 5 + 1) t) 2 (3 + n * 5 + 2) s) 2 (3 + n * 5 + 3) k) 2 (3 + n * 5 + 4) d) 2 0 (nI (n + 1))
def zAddW (σ : sj_S) (n : Nat) (s a b g : Int32) : sj_S := sj_st (sj_st (sj_st (sj_st (sj_st σ 2 (48 + n * 4 + 0) s) 2 (48 + n * 4 + 1) a) 2 (48 + n * 4 + 2) b) 2 (48 + n * 4 + 3) g) 2 1 (nI (n + 1))
def zRemW (σ : sj_S) (w n : Nat) : sj_S := sj_st (sj_up σ 2 (va_cpy (σ 2) (σ 2) (48 + w * 4 + 4) (48 + w * 4) (4 * (n - w - 1)))) 2 1 (nI (n - 1))
section ZS2
variable {G : sj_G} {σ : sj_S} {D : zD} {T U : Nat → Nat}
theorem z_putBit (ok : sj_ok G) {c k : Nat} (b : Bool) (hc : c < 119) (hk : k < 32) : sj_C G 2 me_X8_putBit [.ref (sj_ad G 1), .int (nI c), .int (nI k), .int (if b then nI 1 else nI 0)] σ (.ok (if bt (σ 2 c) k then nI 1 else nI 0), sj_st σ 2 c (zSet (σ 2 c) k b)) := by
  refine c_X8_putBit ok ?_
  unfold wp_X8_putBit_0 wp_X8_putBit_18 wp_X8_putBit_54
  have hin : vp_in (nI c) 119 := z_in hc (by decide)
  rw [nI_clamp (by omega : c < 2 ^ 31)]
  refine ⟨hin, fun _ => hin, fun _ => hin, hin, ?_, ?_⟩
  · have e1 : (if ((σ 2 c >>> (nI k &&& 31)) &&& nI 1) = 0 then nI 0 else nI 1) = (if bt (σ 2 c) k then nI 1 else nI 0) := by
      simp only [z_bit hk]
      cases bt (σ 2 c) k <;> rfl
    rw [e1]
    cases b
    · rw [if_pos (show (if false = true then nI 1 else nI 0) = 0 from nI_0)]; rfl
    · rw [if_neg (show ¬ (if true = true then nI 1 else nI 0) = 0 by decide)]; rfl
  · split <;> simp
theorem z_putIll (ok : sj_ok G) {t k : Nat} (b : Bool) (ht : t < 6) (hk : k < 32) : sj_C G 3 me_X8_putIll [.ref (sj_ad G 1), .int (nI t), .int (nI k), .int (if b then nI 1 else nI 0)] σ (.ok (if bt (σ 2 (105 + t)) k then nI 1 else nI 0), sj_st σ 2 (105 + t) (zSet (σ 2 (105 + t)) k b)) := by
  refine c_X8_putIll ok ?_
  unfold wp_X8_putIll_0
  rw [nI_add]
  exact ⟨_, _, z_putBit ok b (by omega) hk, rfl, by split <;> simp⟩
theorem z_putApart (ok : sj_ok G) {x y : Nat} (b : Bool) (hx : x < 8) (hy : y < 8) (hne : x ≠ y) : sj_C G 3 me_X8_putApart [.ref (sj_ad G 1), .int (nI x), .int (nI y), .int (if b then nI 1 else nI 0)] σ (.ok (if bt (σ 2 (111 + x)) y then nI 1 else nI 0), sj_st (sj_st σ 2 (111 + y) (zSet (σ 2 (111 + y)) x b)) 2 (111 + x) (zSet (σ 2 (111 + x)) y b)) := by
  refine c_X8_putApart ok ?_
  unfold wp_X8_putApart_0
  rw [nI_add, nI_add]
  have h := z_putBit (σ := sj_st σ 2 (111 + y) (zSet (σ 2 (111 + y)) x b)) ok (c := 111 + x) (k := y) b (by omega) (by omega)
  rw [z_sti (show 111 + x ≠ 111 + y by omega)] at h
  exact ⟨_, _, z_putBit ok b (by omega) (by omega), _, _, h, rfl, by split <;> simp⟩
theorem z_putRooms (ok : sj_ok G) {t : Nat} {x : Int32} (ht : t < 3) : sj_C G 2 me_X8_putRooms [.ref (sj_ad G 1), .int (nI t), .int x] σ (.ok (σ 2 (102 + t)), sj_st σ 2 (102 + t) x) := by
  refine c_X8_putRooms ok ?_
  unfold wp_X8_putRooms_0
  simp only [nI_add]
  exact ⟨z_in (by omega) (by decide), z_in (by omega) (by decide), by rw [nI_clamp (by omega)]⟩
theorem z_addLesson (ok : sj_ok G) {n : Nat} {g t s k d : Int32} (hn : n < 9) (h0 : σ 2 0 = nI n) : sj_C G 2 me_X8_addLesson [.ref (sj_ad G 1), .int g, .int t, .int s, .int k, .int d] σ (.ok (nI n), zAddL σ n g t s k d) := by
  refine c_X8_addLesson ok ?_
  unfold wp_X8_addLesson_0
  simp only [h0, nI_add, pk_mul]
  refine ⟨z_in (by omega) (by decide), z_in (by omega) (by decide), z_in (by omega) (by decide), z_in (by omega) (by decide), z_in (by omega) (by decide), ?_⟩
  rw [nI_clamp (by omega), nI_clamp (by omega), nI_clamp (by omega), nI_clamp (by omega), nI_clamp (by omega)]
  rfl
theorem z_addWish (ok : sj_ok G) {n : Nat} {s a b g : Int32} (hn : n < 12) (h0 : σ 2 1 = nI n) : sj_C G 2 me_X8_addWish [.ref (sj_ad G 1), .int s, .int a, .int b, .int g] σ (.ok (nI n), zAddW σ n s a b g) := by
  refine c_X8_addWish ok ?_
  unfold wp_X8_addWish_0
  simp only [h0, nI_add, pk_mul]
  refine ⟨z_in (by omega) (by decide), z_in (by omega) (by decide), z_in (by omega) (by decide), z_in (by omega) (by decide), ?_⟩
  rw [nI_clamp (by omega), nI_clamp (by omega), nI_clamp (by omega), nI_clamp (by omega)]
  rfl
theorem z_hardWishes (ok : sj_ok G) (hC : repC D (σ 2)) (v : okD D) : sj_C G 3 me_X8_hardWishes [.ref (sj_ad G 1)] σ (.ok (zHard D (dW D)), σ) := by
  refine c_X8_hardWishes ok ?_
  unfold wp_X8_hardWishes_0
  have h9 := v.2.1
  have key : ∀ k i, i + k = dW D → sj_J G 3 me_X8_hardWishes (.ok (zHard D (dW D)), σ) 4 [.ref (sj_ad G 1), .int (zHard D i), .int (nI i)] σ [] := by
    intro k
    induction k with
    | zero =>
      intro i hi
      refine t_X8_hardWishes_4 ⟨_, _, z_wishTotal ok, fun _ => ?_, fun h => ?_⟩
      · rw [show i = dW D by omega]
      · rw [hC.2.1] at h
        exact absurd (nI_le (by omega) (by omega)) h
    | succ k ih =>
      intro i hi
      have h3 := z_ofWish (σ := σ) ok (w := i) (k := 3) (by omega) (by decide)
      rw [(hC.2.2.2.2.1 i (by omega)).2.2.2] at h3
      refine t_X8_hardWishes_4 ⟨_, _, z_wishTotal ok, fun h => ?_, fun _ => ⟨_, _, h3, ?_⟩⟩
      · rw [hC.2.1] at h
        exact absurd h (nI_ge (by omega) (by omega))
      · unfold wp_X8_hardWishes_27
        have h1 := ih (i + 1) (by omega)
        have e : (nI (dWe D i) = 0) = (dWe D i = 0) := by
          rw [← nI_0, nI_eq (by have := (v.2.2.2.2.1 i (by omega)).2.1; omega) (by decide)]
        simp only [e]
        rw [nI_add]
        exact h1
  exact key (dW D) 0 (by omega)
end ZS2
