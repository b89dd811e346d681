/-! ===== Int32 by its bits: bt x i ===== -/
def bt (x : Int32) (i : Nat) : Bool := x.toBitVec.getLsbD i
theorem b_ext {x y : Int32} (h : ∀ i, i < 32 → bt x i = bt y i) : x = y := Int32.toBitVec_inj.mp (BitVec.eq_of_getLsbD_eq (fun i hi => h i hi))
theorem b_or (x y : Int32) (i : Nat) : bt (x ||| y) i = (bt x i || bt y i) := by unfold bt; rw [Int32.toBitVec_or, BitVec.getLsbD_or]
theorem b_and (x y : Int32) (i : Nat) : bt (x &&& y) i = (bt x i && bt y i) := by unfold bt; rw [Int32.toBitVec_and, BitVec.getLsbD_and]
theorem b_xor (x y : Int32) (i : Nat) : bt (x ^^^ y) i = (bt x i ^^ bt y i) := by unfold bt; rw [Int32.toBitVec_xor, BitVec.getLsbD_xor]
theorem b_big {x : Int32} {i : Nat} (h : 32 ≤ i) : bt x i = false := BitVec.getLsbD_of_ge _ _ h
theorem b_255 (i : Nat) : bt 255 i = decide (i < 8) := by
  rcases Nat.lt_or_ge i 32 with h | h
  · exact (by decide +kernel : ∀ i, i < 32 → bt 255 i = decide (i < 8)) i h
  · rw [b_big h, decide_eq_false (by omega)]
theorem b_65535 (i : Nat) : bt 65535 i = decide (i < 16) := by
  rcases Nat.lt_or_ge i 32 with h | h
  · exact (by decide +kernel : ∀ i, i < 32 → bt 65535 i = decide (i < 16)) i h
  · rw [b_big h, decide_eq_false (by omega)]
theorem b_m1 : ∀ i, i < 32 → bt (-1) i = true := by decide +kernel
theorem b_0 (i : Nat) : bt 0 i = false := BitVec.getLsbD_zero
theorem s_l : ∀ n, n < 32 → ((nI n &&& 31).toBitVec.smod 32).toNat = n := by decide +kernel
theorem s_u : ∀ n, n < 32 → (((nI n).toUInt32 &&& Int32.toUInt32 31).toBitVec % 32).toNat = n := by decide +kernel
theorem b_shl (n : Nat) (hn : n < 32) (x : Int32) {i : Nat} (hi : i < 32) : bt (x <<< (nI n &&& 31)) i = (decide (n ≤ i) && bt x (i - n)) := by
  unfold bt
  rw [Int32.toBitVec_shiftLeft]
  show (x.toBitVec <<< ((nI n &&& 31).toBitVec.smod 32).toNat).getLsbD i = _
  rw [s_l n hn, BitVec.getLsbD_shiftLeft]
  rcases Nat.lt_or_ge i n with h | h
  · simp [h, Nat.not_le.mpr h]
  · simp [hi, h, Nat.not_lt.mpr h]
theorem b_ushr (n : Nat) (hn : n < 32) (x : Int32) (i : Nat) : bt ((x.toUInt32 >>> ((nI n).toUInt32 &&& Int32.toUInt32 31)).toInt32) i = bt x (n + i) := by
  show (x.toUInt32 >>> ((nI n).toUInt32 &&& Int32.toUInt32 31)).toBitVec.getLsbD i = x.toUInt32.toBitVec.getLsbD (n + i)
  rw [UInt32.toBitVec_shiftRight]
  show (x.toUInt32.toBitVec >>> (((nI n).toUInt32 &&& Int32.toUInt32 31).toBitVec % 32).toNat).getLsbD i = _
  rw [s_u n hn, BitVec.getLsbD_ushiftRight]
theorem b_sshr (n : Nat) (hn : n < 32) (x : Int32) {i : Nat} (hi : i < 32) : bt (x >>> (nI n &&& 31)) i = if n + i < 32 then bt x (n + i) else bt x 31 := by
  unfold bt
  rw [Int32.toBitVec_shiftRight]
  show (x.toBitVec.sshiftRight ((nI n &&& 31).toBitVec.smod 32).toNat).getLsbD i = _
  rw [s_l n hn, BitVec.getLsbD_sshiftRight, BitVec.msb_eq_getLsbD_last]
  simp [hi]
theorem b_shl8 (x : Int32) {i : Nat} (hi : i < 32) : bt (x <<< ((8 : Int32) &&& 31)) i = (decide (8 ≤ i) && bt x (i - 8)) := b_shl 8 (by omega) x hi
theorem b_shl16 (x : Int32) {i : Nat} (hi : i < 32) : bt (x <<< ((16 : Int32) &&& 31)) i = (decide (16 ≤ i) && bt x (i - 16)) := b_shl 16 (by omega) x hi
theorem b_shl24 (x : Int32) {i : Nat} (hi : i < 32) : bt (x <<< ((24 : Int32) &&& 31)) i = (decide (24 ≤ i) && bt x (i - 24)) := b_shl 24 (by omega) x hi
theorem b_sshr8 (x : Int32) {i : Nat} (hi : i < 32) : bt (x >>> ((8 : Int32) &&& 31)) i = if 8 + i < 32 then bt x (8 + i) else bt x 31 := b_sshr 8 (by omega) x hi
/-! ===== nI under and, xor, >>>, one bit, 65535 ===== -/
theorem nx_and (a b : Nat) : nI a &&& nI b = nI (a &&& b) := by
  apply Int32.toBitVec_inj.1
  show BitVec.ofNat 32 a &&& BitVec.ofNat 32 b = BitVec.ofNat 32 (a &&& b)
  apply BitVec.eq_of_getLsbD_eq
  intro i hi
  simp [hi]
theorem nx_xor (a b : Nat) : nI a ^^^ nI b = nI (a ^^^ b) := by
  apply Int32.toBitVec_inj.1
  show BitVec.ofNat 32 a ^^^ BitVec.ofNat 32 b = BitVec.ofNat 32 (a ^^^ b)
  apply BitVec.eq_of_getLsbD_eq
  intro i hi
  simp [hi]
theorem nx_cnt : ∀ j : Fin 32, (UInt32.ofNat j.val &&& Int32.toUInt32 31).toNat % 32 = j.val := by decide +kernel
theorem nx_ush {k j : Nat} (hk : k < 65536) (hj : j < 32) : ((nI k).toUInt32 >>> ((nI j).toUInt32 &&& Int32.toUInt32 31)).toInt32 = nI (k >>> j) := by
  have hs : k >>> j ≤ k := by
    rw [Nat.shiftRight_eq_div_pow]
    exact Nat.div_le_self _ _
  have e2 : UInt32.ofNat k >>> (UInt32.ofNat j &&& Int32.toUInt32 31) = UInt32.ofNat (k >>> j) := by
    apply UInt32.toNat_inj.1
    have h1 : (UInt32.ofNat k).toNat = k := Nat.mod_eq_of_lt (by omega)
    have h2 : (UInt32.ofNat (k >>> j)).toNat = k >>> j := Nat.mod_eq_of_lt (by omega)
    rw [UInt32.toNat_shiftRight, nx_cnt ⟨j, hj⟩, h1, h2]
  show (UInt32.ofNat k >>> (UInt32.ofNat j &&& Int32.toUInt32 31)).toInt32 = _
  rw [e2]
  rfl
theorem nx_bit {k j : Nat} (hk : k < 65536) (hj : j < 16) : (((nI k).toUInt32 >>> ((nI j).toUInt32 &&& Int32.toUInt32 31)).toInt32 &&& 1) = 0 ↔ k.testBit j = false := by
  rw [nx_ush hk (by omega)]
  show nI (k >>> j) &&& nI 1 = 0 ↔ _
  rw [nx_and, Nat.and_one_is_mod, ← nI_0, nI_eq (by omega) (by omega), Nat.testBit_eq_decide_div_mod_eq, Nat.shiftRight_eq_div_pow, decide_eq_false_iff_not]
  generalize k / 2 ^ j = z
  omega
theorem nx_mod (k : Nat) : nI k &&& 65535 = nI (k % 65536) := by
  show nI k &&& nI 65535 = _
  rw [nx_and, show (65535 : Nat) = 2 ^ 16 - 1 from rfl, Nat.and_two_pow_sub_one_eq_mod]
theorem nx_m16 {k : Nat} (h : k < 65536) : nI k &&& 65535 = nI k := by rw [nx_mod, Nat.mod_eq_of_lt h]
theorem nx_mask (x : Int32) : ∃ k, k < 65536 ∧ x &&& 65535 = nI k := by
  have e : x = nI x.toBitVec.toNat := by
    apply Int32.toBitVec_inj.1
    show x.toBitVec = BitVec.ofNat 32 x.toBitVec.toNat
    simp
  refine ⟨x.toBitVec.toNat % 65536, Nat.mod_lt _ (by omega), ?_⟩
  rw [← nx_mod, ← e]
/-! BASE: the state read, small numbers, bits; a school as numbers (D), and the class's rows that hold it -/
theorem z_ste {σ : sj_S} {a i : Nat} {x : Int32} : sj_st σ a i x a i = x := by simp [sj_st, sj_up, upd]
theorem z_sti {σ : sj_S} {a i j : Nat} {x : Int32} (h : j ≠ i) : sj_st σ a i x a j = σ a j := by simp [sj_st, sj_up, upd, h]
theorem z_stn {σ : sj_S} {a b i : Nat} {x : Int32} (h : b ≠ a) : sj_st σ a i x b = σ b := by simp [sj_st, sj_up, h]
theorem z_sta {σ : sj_S} {a i : Nat} {x : Int32} : sj_st σ a i x a = upd (σ a) i x := by simp [sj_st, sj_up]
theorem z_ue {f : Nat → Int32} {i : Nat} {x : Int32} : upd f i x i = x := by simp [upd]
theorem z_un {f : Nat → Int32} {i j : Nat} {x : Int32} (h : j ≠ i) : upd f i x j = f j := by simp [upd, h]
theorem z_31 : ∀ k, k < 32 → (nI k &&& 31) = nI k := by decide +kernel
theorem z_bn (n i : Nat) (hi : i < 32) : bt (nI n) i = n.testBit i := by
  unfold bt nI
  have : (Int32.ofNat n).toBitVec = BitVec.ofNat 32 n := rfl
  rw [this, BitVec.getLsbD_ofNat]
  simp [hi]
theorem z_b1 (i : Nat) (hi : i < 32) : bt (nI 1) i = decide (i = 0) := by
  have h : ∀ i, i < 32 → Nat.testBit 1 i = decide (i = 0) := by decide +kernel
  rw [z_bn 1 i hi, h i hi]
theorem z_bit {x : Int32} {k : Nat} (hk : k < 32) : ((x >>> (nI k &&& 31)) &&& nI 1) = 0 ↔ bt x k = false := by
  constructor
  · intro h
    have h1 := congrArg (fun y => bt y 0) h
    simp only [b_and, b_0, b_sshr k hk x (by decide : 0 < 32), z_b1 0 (by decide), Nat.add_zero, hk, if_true, decide_true, Bool.and_true] at h1
    exact h1
  · intro h
    apply b_ext
    intro i hi
    rw [b_and, b_0, z_b1 i hi]
    by_cases h0 : i = 0
    · subst h0
      rw [b_sshr k hk x hi]
      simp [hk, h]
    · simp [h0]
theorem z_bitv {x : Int32} {k : Nat} (hk : k < 32) : ((x >>> (nI k &&& 31)) &&& nI 1) = if bt x k then nI 1 else nI 0 := by
  apply b_ext
  intro i hi
  rw [b_and, z_b1 i hi]
  by_cases h0 : i = 0
  · subst h0
    rw [b_sshr k hk x hi]
    cases hb : bt x k <;> simp [hk, hb, z_b1, z_bn]
  · cases hb : bt x k
    · simp [h0, z_bn _ _ hi]
    · simp [h0, z_b1 i hi]
theorem z_shl1 {k i : Nat} (hk : k < 32) (hi : i < 32) : bt (nI 1 <<< (nI k &&& 31)) i = decide (i = k) := by
  rw [b_shl k hk _ hi]
  by_cases h : k ≤ i
  · rw [z_b1 _ (by omega)]
    simp only [h, decide_true, Bool.true_and]
    exact decide_eq_decide.mpr (by omega)
  · have : ¬ i = k := by omega
    simp [h, this]
theorem z_shl3 {k i : Nat} (hk : k < 32) (hi : i < 32) : bt (nI 3 <<< (nI k &&& 31)) i = (decide (i = k) || decide (i = k + 1)) := by
  have b3 : ∀ j, j < 32 → bt (nI 3) j = (decide (j = 0) || decide (j = 1)) := by decide +kernel
  rw [b_shl k hk _ hi]
  by_cases h : k ≤ i
  · rw [b3 _ (by omega)]
    simp only [h, decide_true, Bool.true_and]
    congr 1 <;> exact decide_eq_decide.mpr (by omega)
  · have h1 : ¬ i = k := by omega
    have h2 : ¬ i = k + 1 := by omega
    simp [h, h1, h2]
theorem z_in {k N : Nat} (h : k < N) (hN : N < 2 ^ 31) : vp_in (nI k) N := vp_in_nI h hN
theorem z_nlt0 {n : Nat} (h : n < 2 ^ 31) : ¬ nI n < 0 := nI_pos h
/-! ### a school: D field place -/
abbrev zD : Type := Nat → Nat → Nat
abbrev dN (D : zD) : Nat := D 0 0
abbrev dW (D : zD) : Nat := D 1 0
abbrev dT (D : zD) : Nat := D 2 0
abbrev dG (D : zD) : Nat → Nat := D 3
abbrev dTe (D : zD) : Nat → Nat := D 4
abbrev dSu (D : zD) : Nat → Nat := D 5
abbrev dKi (D : zD) : Nat → Nat := D 6
abbrev dDb (D : zD) : Nat → Nat := D 7
abbrev dSo (D : zD) : Nat → Nat := D 8
abbrev dA (D : zD) : Nat → Nat := D 9
abbrev dB (D : zD) : Nat → Nat := D 10
abbrev dWe (D : zD) : Nat → Nat := D 11
abbrev dTch (D : zD) : Nat → Nat := D 12
abbrev dRo (D : zD) : Nat → Nat := D 13
abbrev dIll (D : zD) : Nat → Nat := D 14
abbrev dAp (D : zD) : Nat → Nat := D 15
def zk (k : Nat) : Int32 := if k = 0 then -1 else nI (k - 1)
def okD (D : zD) : Prop := dN D ≤ 9 ∧ dW D ≤ 12 ∧ dT D ≤ 1 ∧ (∀ l, l < dN D → dG D l < 4 ∧ dTe D l < 6 ∧ dSu D l < 6 ∧ dKi D l ≤ 3 ∧ dDb D l ≤ 1) ∧
  (∀ w, w < dW D → dSo D w ≤ 6 ∧ dWe D w ≤ 9 ∧ (dSo D w = 0 → dA D w < 6 ∧ dB D w < 20) ∧ (dSo D w = 1 → dA D w < 4 ∧ dB D w < 20) ∧ (dSo D w = 2 → dA D w < dN D ∧ dB D w < 5) ∧ (dSo D w = 3 → dA D w < dN D ∧ dB D w < 20) ∧ (4 ≤ dSo D w → dA D w < dN D ∧ dB D w < dN D ∧ dA D w ≠ dB D w)) ∧
  (∀ t, t < 6 → dTch D t < 64 ∧ dIll D t < 32) ∧ (∀ k, k < 3 → dRo D k ≤ 3) ∧ (∀ e, e < 8 → dAp D e < 256 ∧ ∀ o, o < 8 → (dAp D e).testBit o = (dAp D o).testBit e)
def repC (D : zD) (c : Nat → Int32) : Prop := c 0 = nI (dN D) ∧ c 1 = nI (dW D) ∧ c 2 = nI (dT D) ∧
  (∀ l, l < dN D → c (3 + l * 5 + 0) = nI (dG D l) ∧ c (3 + l * 5 + 1) = nI (dTe D l) ∧ c (3 + l * 5 + 2) = nI (dSu D l) ∧ c (3 + l * 5 + 3) = zk (dKi D l) ∧ c (3 + l * 5 + 4) = nI (dDb D l)) ∧
  (∀ w, w < dW D → c (48 + w * 4 + 0) = nI (dSo D w) ∧ c (48 + w * 4 + 1) = nI (dA D w) ∧ c (48 + w * 4 + 2) = nI (dB D w) ∧ c (48 + w * 4 + 3) = nI (dWe D w)) ∧
  (∀ t, t < 6 → c (96 + t) = nI (dTch D t) ∧ c (105 + t) = nI (dIll D t)) ∧ (∀ k, k < 3 → c (102 + k) = nI (dRo D k)) ∧ (∀ e, e < 8 → c (111 + e) = nI (dAp D e))
def repT (n : Nat) (T : Nat → Nat) (f : Nat → Int32) : Prop := ∀ l, l < n → f l = nI (T l) ∧ T l < 20
abbrev zSl (sl : Nat) : Prop := sj_lk sl = 13 ∧ sl < sj_NA ∧ sj_ln sl = 9
def dP (D : zD) (b l : Nat) : Nat := if b = 1 then dTe D l else dG D l
def zTk (D : zD) (T : Nat → Nat) (l i : Nat) : Bool := decide (i = T l) || (decide (dDb D l = 1) && decide (i = T l + 1))
def zAny (D : zD) (b p : Nat) (T : Nat → Nat) (i : Nat) : Nat → Bool
  | 0 => false
  | n + 1 => zAny D b p T i n || (decide (dP D b n = p) && zTk D T n i)
theorem zAny_iff {D : zD} {b p : Nat} {T : Nat → Nat} {i : Nat} : ∀ n, zAny D b p T i n = true ↔ ∃ l, l < n ∧ dP D b l = p ∧ zTk D T l i = true := by
  intro n
  induction n with
  | zero => simp [zAny]
  | succ n ih =>
    simp only [zAny, Bool.or_eq_true, ih, Bool.and_eq_true, decide_eq_true_eq]
    constructor
    · rintro (⟨l, h1, h2⟩ | h)
      · exact ⟨l, by omega, h2⟩
      · exact ⟨n, by omega, h⟩
    · rintro ⟨l, h1, h2⟩
      by_cases hl : l = n
      · subst hl; exact Or.inr h2
      · exact Or.inl ⟨l, by omega, h2⟩
def zTs (D : zD) (T : Nat → Nat) (l : Nat) : Int32 := (if dDb D l = 1 then nI 3 else nI 1) <<< (nI (T l) &&& 31)
theorem zTs_bt {D : zD} {T : Nat → Nat} {l i : Nat} (h : T l < 31) (hi : i < 32) : bt (zTs D T l) i = zTk D T l i := by
  unfold zTs zTk
  by_cases hd : dDb D l = 1
  · rw [if_pos hd, z_shl3 (by omega) hi]; simp [hd]
  · rw [if_neg hd, z_shl1 (by omega) hi]; simp [hd]
def zSp (D : zD) (b p : Nat) (T : Nat → Nat) : Nat → Int32
  | 0 => nI 0
  | n + 1 => if dP D b n = p then zSp D b p T n ||| zTs D T n else zSp D b p T n
theorem zSp_bt {D : zD} {b p : Nat} {T : Nat → Nat} {i : Nat} (hi : i < 32) : ∀ n, (∀ l, l < n → T l < 31) → bt (zSp D b p T n) i = zAny D b p T i n := by
  intro n
  induction n with
  | zero => intro _; simp [zSp, zAny, z_bn _ _ hi]
  | succ n ih =>
    intro h
    have := ih (fun l hl => h l (by omega))
    by_cases hp : dP D b n = p
    · simp only [zSp, hp, if_true, b_or, this, zAny, decide_true, Bool.true_and, zTs_bt (h n (by omega)) hi]
    · simp [zSp, hp, this, zAny]
