/-! MODEL 1: the reference's small methods -/
/-- the reference's row holds D -/
def repM (D : zD) (m : Nat → Int32) : Prop := m 125 = nI (dN D) ∧ m 126 = nI (dW D) ∧ m 127 = nI (dT D) ∧
  (∀ l, l < dN D → m (0 + l) = nI (dG D l) ∧ m (9 + l) = nI (dTe D l) ∧ m (18 + l) = nI (dSu D l) ∧ m (27 + l) = zk (dKi D l) ∧ m (36 + l) = nI (dDb D l)) ∧
  (∀ w, w < dW D → m (45 + w) = nI (dSo D w) ∧ m (57 + w) = nI (dA D w) ∧ m (69 + w) = nI (dB D w) ∧ m (81 + w) = nI (dWe D w)) ∧
  (∀ t, t < 6 → m (93 + t) = nI (dTch D t) ∧ m (102 + t) = nI (dIll D t)) ∧ (∀ k, k < 3 → m (99 + k) = nI (dRo D k)) ∧ (∀ e, e < 8 → m (108 + e) = nI (dAp D e))
section ZM1
variable {G : sj_G} {σ : sj_S} {D : zD} {T : Nat → Nat}
theorem y_thrown (ok : sj_ok G) : sj_C G 2 me_X12_thrown [.ref (sj_ad G 56)] σ (.ok (σ 56 0), σ) := c_X12_thrown ok rfl
theorem y_many (ok : sj_ok G) : sj_C G 2 me_X12_many [.ref (sj_ad G 56)] σ (.ok (σ 57 125), σ) := c_X12_many ok rfl
theorem y_in (ok : sj_ok G) {x lo hi : Int32} : sj_C G 2 me_X12_in [.int x, .int lo, .int hi] σ (.ok (if x < lo then nI 0 else if hi < x then nI 0 else nI 1), σ) := by
  refine c_X12_in ok ?_
  unfold wp_X12_in_0 wp_X12_in_15
  refine ⟨rfl, ?_⟩
  split
  · simp
  · split <;> simp
theorem z_10 : ¬ (nI 1 : Int32) = 0 := by decide
theorem z_00 : (nI 0 : Int32) = 0 := by decide
theorem y_fails1 (ok : sj_ok G) {c : Int32} (h : σ 56 0 = 0) : sj_C G 2 me_X12_fails [.ref (sj_ad G 56), .int (nI 1), .int c] σ (.ok (nI 0), σ) := by
  refine c_X12_fails ok ?_
  unfold wp_X12_fails_0 wp_X12_fails_16 wp_X12_fails_28
  simp only [if_neg z_10, h, if_true]
  exact ⟨by trivial, Or.inl (by trivial)⟩
theorem y_fails0 (ok : sj_ok G) {c : Int32} (h : σ 56 0 = 0) (hc : ¬ c = 0) : sj_C G 2 me_X12_fails [.ref (sj_ad G 56), .int (nI 0), .int c] σ (.ok (nI 1), sj_st σ 56 0 c) := by
  refine c_X12_fails ok ?_
  unfold wp_X12_fails_0 wp_X12_fails_16 wp_X12_fails_28
  simp only [if_pos z_00, h, if_true, z_ste, if_neg hc]
  exact ⟨by trivial, Or.inr (by trivial)⟩
/-- fails, with no code so far: by the condition -/
theorem y_failsB (ok : sj_ok G) {c : Int32} (b : Bool) (h : σ 56 0 = 0) (hc : ¬ c = 0) : sj_C G 2 me_X12_fails [.ref (sj_ad G 56), .int (if b then nI 1 else nI 0), .int c] σ (.ok (if b then nI 0 else nI 1), if b then σ else sj_st σ 56 0 c) := by
  cases b
  · exact y_fails0 ok h hc
  · exact y_fails1 ok h
theorem y_isOfLesson (ok : sj_ok G) {s : Nat} (hs : s < 2 ^ 31) : sj_C G 2 me_X12_isOfLesson [.ref (sj_ad G 56), .int (nI s)] σ (.ok (if s ≤ 1 then nI 0 else nI 1), σ) := by
  refine c_X12_isOfLesson ok ?_
  unfold wp_X12_isOfLesson_0 wp_X12_isOfLesson_10
  simp only [nI_leI hs (by decide : 1 < 2 ^ 31)]
  refine ⟨by trivial, ?_⟩
  split <;> simp
theorem y_isOfTwo (ok : sj_ok G) {s : Nat} (hs : s < 2 ^ 31) : sj_C G 2 me_X12_isOfTwo [.ref (sj_ad G 56), .int (nI s)] σ (.ok (if s ≤ 3 then nI 0 else nI 1), σ) := by
  refine c_X12_isOfTwo ok ?_
  unfold wp_X12_isOfTwo_0 wp_X12_isOfTwo_10
  simp only [nI_leI hs (by decide : 3 < 2 ^ 31)]
  refine ⟨by trivial, ?_⟩
  split <;> simp
theorem y_isDouble (ok : sj_ok G) (hM : repM D (σ 57)) (v : okD D) {l : Nat} (hl : l < dN D) : sj_C G 2 me_X12_isDouble [.ref (sj_ad G 56), .int (nI l)] σ (.ok (if dDb D l = 1 then nI 1 else nI 0), σ) := by
  have h9 := v.1
  obtain ⟨-, -, -, -, h5⟩ := hM.2.2.2.1 l hl
  obtain ⟨-, -, -, -, g5⟩ := v.2.2.2.1 l hl
  refine c_X12_isDouble ok ?_
  unfold wp_X12_isDouble_0 wp_X12_isDouble_18
  simp only [nI_add]
  refine ⟨z_in (by omega) (by decide), ?_, ?_⟩
  · rw [nI_clamp (by omega), h5]
    have e : (nI (dDb D l) = nI 1) = (dDb D l = 1) := by rw [nI_eq (by omega) (by decide)]
    simp only [e]
  · split <;> simp
/-- at[] holds T -/
theorem y_isAt (ok : sj_ok G) (hM : repM D (σ 57)) (v : okD D) (hT : ∀ l, l < dN D → σ 59 l = nI (T l) ∧ T l < 40) {l i : Nat} (hl : l < dN D) (hi : i < 2 ^ 31) : sj_C G 3 me_X12_isAt [.ref (sj_ad G 56), .int (nI l), .int (nI i)] σ (.ok (if zTk D T l i then nI 1 else nI 0), σ) := by
  have h9 := v.1
  obtain ⟨t1, t2⟩ := hT l hl
  refine c_X12_isAt ok ?_
  unfold wp_X12_isAt_0 wp_X12_isAt_30 wp_X12_isAt_35
  rw [nI_clamp (by omega), t1]
  have e1 : (nI (T l) = nI i) = (T l = i) := by rw [nI_eq (by omega) hi]
  have e2 : (nI (T l) + nI 1 = nI i) = (T l + 1 = i) := by rw [nI_add, nI_eq (by omega) hi]
  refine ⟨z_in (by omega) (by decide), fun h => ?_, fun h => ?_⟩
  · rw [e1] at h
    subst h
    simp [zTk]
  · rw [e1] at h
    refine ⟨_, _, y_isDouble ok hM v hl, fun _ => z_in (by omega) (by decide), ?_, ?_⟩
    · rw [t1]
      simp only [e2]
      have hne : ¬ i = T l := fun q => h q.symm
      by_cases hd : dDb D l = 1
      · by_cases h1 : T l + 1 = i
        · subst h1; simp [zTk, hd, show ¬ nI 1 = 0 by decide]
        · have h1' : ¬ i = T l + 1 := fun q => h1 q.symm
          simp [zTk, hd, hne, h1, h1']
      · simp [zTk, hd, hne, show nI 0 = 0 from nI_0]
    · repeat' split
      all_goals first | exact Or.inl rfl | exact Or.inr rfl
end ZM1
/-! MODEL 2: the reference's loops over its rows -/
theorem z_st_up {σ : sj_S} {a i : Nat} {f : Nat → Int32} {x : Int32} : sj_st (sj_up σ a f) a i x = sj_up σ a (upd f i x) := by
  funext b
  unfold sj_st sj_up
  by_cases h : b = a <;> simp [h]
theorem z_up_self {σ : sj_S} {a : Nat} : sj_up σ a (σ a) = σ := by
  funext b
  unfold sj_up
  by_cases h : b = a <;> simp [h]
theorem z_upn {σ : sj_S} {a b : Nat} {f : Nat → Int32} (h : b ≠ a) : sj_up σ a f b = σ b := sj_up_n h
section ZM2
variable {G : sj_G} {σ : sj_S} {D : zD} {T : Nat → Nat}
def zCl (f : Nat → Int32) (lo hi : Nat) : Nat → Int32 := fun i => if lo ≤ i ∧ i + 1 < hi then f (i + 1) else f i
theorem y_closes (ok : sj_ok G) {r a n : Nat} (ha : a < n) (hr : r + n ≤ 128) : sj_C G 2 me_X12_closes [.ref (sj_ad G 56), .int (nI r), .int (nI a), .int (nI n)] σ (.ok 0, sj_up σ 57 (zCl (σ 57) (r + a) (r + n))) := by
  refine c_X12_closes ok ?_
  unfold wp_X12_closes_0
  have key : ∀ j k, a ≤ k → k + 1 + j = n → sj_J G 2 me_X12_closes (.ok 0, sj_up σ 57 (zCl (σ 57) (r + a) (r + n))) 3 [.ref (sj_ad G 56), .int (nI r), .null, .int (nI n), .int (nI k)] (sj_up σ 57 (zCl (σ 57) (r + a) (r + k + 1))) [] := by
    intro j
    induction j with
    | zero =>
      intro k hk hj
      refine t_X12_closes_3 ⟨fun _ => ?_, fun h => ?_⟩
      · rw [show r + k + 1 = r + n by omega]
      · rw [nI_add] at h
        exact absurd (nI_le (by omega) (by omega)) h
    | succ j ih =>
      intro k hk hj
      refine t_X12_closes_3 ⟨fun h => ?_, fun _ => ?_⟩
      · rw [nI_add] at h
        exact absurd h (nI_ge (by omega) (by omega))
      · have h1 := ih (k + 1) (by omega) (by omega)
        simp only [nI_add]
        refine ⟨z_in (by omega) (by decide), z_in (by omega) (by decide), ?_⟩
        rw [nI_clamp (by omega), nI_clamp (by omega), z_st_up, sj_up_s]
        have e : upd (zCl (σ 57) (r + a) (r + k + 1)) (r + k) (zCl (σ 57) (r + a) (r + k + 1) (r + k + 1)) = zCl (σ 57) (r + a) (r + (k + 1) + 1) := by
          funext i
          unfold upd zCl
          by_cases h : i = r + k
          · subst h
            rw [if_pos rfl, if_neg (by omega), if_pos (by omega)]
          · rw [if_neg h]
            by_cases h2 : r + a ≤ i ∧ i + 1 < r + k + 1
            · rw [if_pos h2, if_pos (by omega)]
            · rw [if_neg h2, if_neg (by omega)]
        rw [e]
        exact h1
  have h0 := key (n - a - 1) a (Nat.le_refl a) (by omega)
  have e : zCl (σ 57) (r + a) (r + a + 1) = σ 57 := by
    funext i
    unfold zCl
    rw [if_neg (by omega)]
  rw [e, z_up_self] at h0
  exact h0
/-- at[] is the present table; nothing is left out -/
theorem y_looksAtTable (ok : sj_ok G) {n : Nat} (hn : n ≤ 9) (h0 : σ 57 125 = nI n) : ∃ σ', sj_C G 3 me_X12_looksAtTable [.ref (sj_ad G 56)] σ (.ok 0, σ') ∧ (∀ b, b ≠ 59 → b ≠ 60 → σ' b = σ b) ∧ (∀ l, l < n → σ' 59 l = σ 57 (116 + l)) ∧ (∀ w, w < 12 → σ' 60 w = nI 0) := by
  let f : Nat → Nat → Int32 := fun k i => if i < k then σ 57 (116 + i) else σ 59 i
  let g : Nat → Nat → Int32 := fun k i => if i < k then nI 0 else σ 60 i
  let τ : Nat → sj_S := fun k => sj_up (sj_up σ 59 (f n)) 60 (g k)
  refine ⟨τ 12, ?_, ?_, ?_, ?_⟩
  · refine c_X12_looksAtTable ok ?_
    unfold wp_X12_looksAtTable_0
    have key2 : ∀ j k, k + j = 12 → sj_J G 3 me_X12_looksAtTable (.ok 0, τ 12) 33 [.ref (sj_ad G 56), .int (nI k)] (τ k) [] := by
      intro j
      induction j with
      | zero =>
        intro k hk
        have : k = 12 := by omega
        subst this
        exact t_X12_looksAtTable_33 ⟨fun _ => rfl, fun h => absurd (nI_le (by omega) (by omega)) h⟩
      | succ j ih =>
        intro k hk
        refine t_X12_looksAtTable_33 ⟨fun h => absurd h (nI_ge (by omega) (by omega)), fun _ => ⟨z_in (by omega) (by decide), ?_⟩⟩
        have h1 := ih (k + 1) (by omega)
        rw [nI_clamp (by omega), nI_add]
        have e : sj_st (τ k) 60 k (nI 0) = τ (k + 1) := by
          show sj_st (sj_up _ 60 (g k)) 60 k (nI 0) = sj_up _ 60 (g (k + 1))
          rw [z_st_up]
          congr 1
          funext i
          show (if i = k then nI 0 else if i < k then nI 0 else σ 60 i) = if i < k + 1 then nI 0 else σ 60 i
          by_cases h : i = k
          · subst h; simp
          · by_cases h2 : i < k
            · simp [h, h2, show i < k + 1 by omega]
            · simp [h, h2, show ¬ i < k + 1 by omega]
        rw [e]
        exact h1
    have key : ∀ j k, k + j = n → sj_J G 3 me_X12_looksAtTable (.ok 0, τ 12) 2 [.ref (sj_ad G 56), .int (nI k)] (sj_up σ 59 (f k)) [] := by
      intro j
      induction j with
      | zero =>
        intro k hk
        have : k = n := by omega
        subst this
        refine t_X12_looksAtTable_2 ⟨_, _, y_many ok, fun _ => ?_, fun h => ?_⟩
        · have h2 := key2 12 0 (by omega)
          have e : τ 0 = sj_up σ 59 (f k) := by
            show sj_up (sj_up σ 59 (f k)) 60 (g 0) = _
            have : g 0 = (sj_up σ 59 (f k)) 60 := by
              funext i
              show (if i < 0 then nI 0 else σ 60 i) = _
              rw [if_neg (by omega), z_upn (by decide)]
            rw [this, z_up_self]
          rw [e] at h2
          exact h2
        · rw [z_upn (by decide), h0] at h
          exact absurd (nI_le (by omega) (by omega)) h
      | succ j ih =>
        intro k hk
        have h1 := ih (k + 1) (by omega)
        refine t_X12_looksAtTable_2 ⟨_, _, y_many ok, fun h => ?_, fun _ => ?_⟩
        · rw [z_upn (by decide), h0] at h
          exact absurd h (nI_ge (by omega) (by omega))
        · simp only [nI_add]
          refine ⟨z_in (by omega) (by decide), z_in (by omega) (by decide), ?_⟩
          rw [nI_clamp (by omega), nI_clamp (by omega), z_upn (by decide), z_st_up]
          have e : upd (f k) k (σ 57 (116 + k)) = f (k + 1) := by
            funext i
            show (if i = k then σ 57 (116 + k) else if i < k then σ 57 (116 + i) else σ 59 i) = if i < k + 1 then σ 57 (116 + i) else σ 59 i
            by_cases h : i = k
            · subst h; simp
            · by_cases h2 : i < k
              · simp [h, h2, show i < k + 1 by omega]
              · simp [h, h2, show ¬ i < k + 1 by omega]
          rw [e]
          exact h1
    have hk := key n 0 (by omega)
    have e : f 0 = σ 59 := by
      funext i
      show (if i < 0 then _ else σ 59 i) = _
      rw [if_neg (by omega)]
    rw [e, z_up_self] at hk
    exact hk
  · intro b h1 h2
    show sj_up (sj_up σ 59 (f n)) 60 (g 12) b = σ b
    rw [z_upn h2, z_upn h1]
  · intro l hl
    show sj_up (sj_up σ 59 (f n)) 60 (g 12) 59 l = _
    rw [z_upn (by decide), sj_up_s]
    show (if l < n then _ else _) = _
    rw [if_pos hl]
  · intro w hw
    show sj_up (sj_up σ 59 (f n)) 60 (g 12) 60 w = _
    rw [sj_up_s]
    show (if w < 12 then _ else _) = _
    rw [if_pos hw]
theorem y_isOf (ok : sj_ok G) (hM : repM D (σ 57)) (v : okD D) {l b p : Nat} (hl : l < dN D) (hb : b ≤ 1) (hp : p < 2 ^ 31) : sj_C G 2 me_X12_isOf [.ref (sj_ad G 56), .int (nI l), .int (nI b), .int (nI p)] σ (.ok (if dP D b l = p then nI 1 else nI 0), σ) := by
  have h9 := v.1
  obtain ⟨h1, h2, -⟩ := hM.2.2.2.1 l hl
  obtain ⟨g1, g2, -⟩ := v.2.2.2.1 l hl
  refine c_X12_isOf ok ?_
  unfold wp_X12_isOf_0 wp_X12_isOf_14 wp_X12_isOf_26
  rcases (by omega : b = 0 ∨ b = 1) with e | e <;> subst e
  · rw [if_pos nI_0]
    simp only [nI_add]
    rw [nI_clamp (by omega), h1]
    have e : (nI (dG D l) = nI p) = (dP D 0 l = p) := by rw [nI_eq (by omega) hp]; rfl
    simp only [e]
    refine ⟨z_in (by omega) (by decide), by trivial, ?_⟩
    split <;> simp
  · rw [if_neg (by decide)]
    simp only [nI_add]
    rw [nI_clamp (by omega), h2]
    have e : (nI (dTe D l) = nI p) = (dP D 1 l = p) := by rw [nI_eq (by omega) hp]; rfl
    simp only [e]
    refine ⟨z_in (by omega) (by decide), by trivial, ?_⟩
    split <;> simp
/-- the first lesson, from i on, of a teacher or a class at a slot -/
def zThen (D : zD) (T : Nat → Nat) (b p s : Nat) : Nat → Nat → Option Nat
  | 0, _ => none
  | k + 1, i => if dP D b i = p ∧ zTk D T i s = true then some i else zThen D T b p s k (i + 1)
def zOp (o : Option Nat) : Int32 := match o with
  | none => -1
  | some k => nI k
theorem y_lessonThen (ok : sj_ok G) (hM : repM D (σ 57)) (v : okD D) (hT : ∀ l, l < dN D → σ 59 l = nI (T l) ∧ T l < 40) {b p s : Nat} (hb : b ≤ 1) (hp : p < 2 ^ 31) (hs : s < 2 ^ 31) : sj_C G 4 me_X12_lessonThen [.ref (sj_ad G 56), .int (nI b), .int (nI p), .int (nI s)] σ (.ok (zOp (zThen D T b p s (dN D) 0)), σ) := by
  have h9 := v.1
  refine c_X12_lessonThen ok ?_
  unfold wp_X12_lessonThen_0
  have key : ∀ k i, i + k = dN D → sj_J G 4 me_X12_lessonThen (.ok (zOp (zThen D T b p s k i)), σ) 3 [.ref (sj_ad G 56), .int (nI b), .int (nI p), .int (nI s), .int (nI i)] σ [] := by
    intro k
    induction k with
    | zero =>
      intro i hi
      refine t_X12_lessonThen_3 ⟨_, _, y_many ok, fun _ => rfl, fun h => ?_⟩
      rw [hM.1] at h
      exact absurd (nI_le (by omega) (by omega)) h
    | succ k ih =>
      intro i hi
      have h1 := ih (i + 1) (by omega)
      refine t_X12_lessonThen_3 ⟨_, _, y_many ok, fun h => ?_, fun _ => ⟨_, _, y_isOf ok hM v (by omega) hb hp, fun h => ?_, fun h => ⟨_, _, y_isAt ok hM v hT (by omega) hs, fun h2 => ?_, fun h2 => ?_⟩⟩⟩
      · rw [hM.1] at h
        exact absurd h (nI_ge (by omega) (by omega))
      · unfold wp_X12_lessonThen_36
        have hq : ¬ dP D b i = p := fun q => by rw [if_pos q] at h; exact absurd h (by decide)
        rw [nI_add]
        have e : zThen D T b p s (k + 1) i = zThen D T b p s k (i + 1) := by simp [zThen, hq]
        rw [e]
        exact h1
      · unfold wp_X12_lessonThen_36
        have hq : ¬ zTk D T i s = true := fun q => by rw [if_pos q] at h2; exact absurd h2 (by decide)
        rw [nI_add]
        have e : zThen D T b p s (k + 1) i = zThen D T b p s k (i + 1) := by simp [zThen, hq]
        rw [e]
        exact h1
      · have hq : dP D b i = p := by
          by_cases q : dP D b i = p
          · exact q
          · rw [if_neg q] at h; exact absurd nI_0 h
        have hq2 : zTk D T i s = true := by
          by_cases q : zTk D T i s = true
          · exact q
          · rw [if_neg q] at h2; exact absurd nI_0 h2
        have e : zThen D T b p s (k + 1) i = some i := by simp [zThen, hq, hq2]
        rw [e]
        rfl
  exact key (dN D) 0 (by omega)
end ZM2
/-! MODEL 3: the reference's memory of changes -/
section ZM3
variable {G : sj_G} {σ : sj_S}
def zKp (τ : sj_S) (u k : Nat) : Nat → Int32 := fun i => if 128 * u ≤ i ∧ i < 128 * u + k then τ 57 (i - 128 * u) else τ 58 i
theorem y_keeps_57 {τ : sj_S} {u : Nat} (hu : u ≤ 19) (h3 : τ 56 3 = nI u) : sj_J G 2 me_X12_keeps (.ok 0, sj_st (sj_st (sj_up τ 58 (zKp τ u 128)) 56 3 (nI (u + 1))) 56 7 (-1)) 57 [.ref (sj_ad G 56), .int (nI 0)] τ [] := by
  have key : ∀ j k, k + j = 128 → sj_J G 2 me_X12_keeps (.ok 0, sj_st (sj_st (sj_up τ 58 (zKp τ u 128)) 56 3 (nI (u + 1))) 56 7 (-1)) 57 [.ref (sj_ad G 56), .int (nI k)] (sj_up τ 58 (zKp τ u k)) [] := by
    intro j
    induction j with
    | zero =>
      intro k hk
      have : k = 128 := by omega
      subst this
      refine t_X12_keeps_57 ⟨fun _ => ?_, fun h => absurd (nI_le (by omega) (by omega)) h⟩
      rw [z_upn (by decide), h3, nI_add]
    | succ j ih =>
      intro k hk
      have h1 := ih (k + 1) (by omega)
      refine t_X12_keeps_57 ⟨fun h => absurd h (nI_ge (by omega) (by omega)), fun _ => ?_⟩
      rw [show sj_up τ 58 (zKp τ u k) 56 = τ 56 from z_upn (by decide), h3]
      simp only [nI_add, pk_mul]
      refine ⟨z_in (by omega) (by decide), z_in (by omega) (by decide), ?_⟩
      rw [nI_clamp (by omega), nI_clamp (by omega), z_st_up, show sj_up τ 58 (zKp τ u k) 57 = τ 57 from z_upn (by decide)]
      have e : upd (zKp τ u k) (128 * u + k) (τ 57 k) = zKp τ u (k + 1) := by
        funext i
        unfold upd zKp
        by_cases h : i = 128 * u + k
        · subst h
          rw [if_pos rfl, if_pos (by omega), show 128 * u + k - 128 * u = k by omega]
        · rw [if_neg h]
          by_cases h2 : 128 * u ≤ i ∧ i < 128 * u + k
          · rw [if_pos h2, if_pos (by omega)]
          · rw [if_neg h2, if_neg (by omega)]
      rw [e]
      exact h1
  have h0 := key 128 0 (by omega)
  have e : zKp τ u 0 = τ 58 := by
    funext i
    unfold zKp
    rw [if_neg (by omega)]
  rw [e, z_up_self] at h0
  exact h0
/-- behind keeps(): the newest segment is now[], the others as they were, or moved by one -/
theorem y_keeps (ok : sj_ok G) {t : Nat} (ht : t ≤ 20) (h3 : σ 56 3 = nI t) : ∃ σ', sj_C G 2 me_X12_keeps [.ref (sj_ad G 56)] σ (.ok 0, σ') ∧ (∀ b, b ≠ 56 → b ≠ 58 → σ' b = σ b) ∧ σ' 56 3 = nI (if 20 < t + 1 then 20 else t + 1) ∧ σ' 56 7 = -1 ∧ (∀ k, k ≠ 3 → k ≠ 7 → σ' 56 k = σ 56 k) ∧
    (∀ u i, i < 128 → u < (if 20 < t + 1 then 20 else t + 1) → σ' 58 (128 * u + i) = if u + 1 = (if 20 < t + 1 then 20 else t + 1) then σ 57 i else if t = 20 then σ 58 (128 * (u + 1) + i) else σ 58 (128 * u + i)) := by
  by_cases h20 : t = 20
  · subst h20
    let sh : Nat → Nat → Int32 := fun k i => if i < k then σ 58 (i + 128) else σ 58 i
    let τ : Nat → sj_S := fun k => sj_up (sj_st σ 56 3 (nI 19)) 58 (sh k)
    have ht3 : ∀ k, τ k 56 3 = nI 19 := fun k => by
      show sj_up (sj_st σ 56 3 (nI 19)) 58 (sh k) 56 3 = nI 19
      rw [z_upn (by decide), z_ste]
    refine ⟨_, c_X12_keeps ok (R := (.ok 0, sj_st (sj_st (sj_up (τ 2432) 58 (zKp (τ 2432) 19 128)) 56 3 (nI (19 + 1))) 56 7 (-1))) ?_, ?_, ?_, ?_, ?_, ?_⟩
    · unfold wp_X12_keeps_0
      refine ⟨fun h => absurd h3 h, fun _ => ?_⟩
      rw [h3, pk_sub (by decide : 1 ≤ 20)]
      have key : ∀ j k, k + j = 2432 → sj_J G 2 me_X12_keeps (.ok 0, sj_st (sj_st (sj_up (τ 2432) 58 (zKp (τ 2432) 19 128)) 56 3 (nI (19 + 1))) 56 7 (-1)) 21 [.ref (sj_ad G 56), .int (nI k)] (τ k) [] := by
        intro j
        induction j with
        | zero =>
          intro k hk
          have : k = 2432 := by omega
          subst this
          refine t_X12_keeps_21 ⟨fun _ => ?_, fun h => ?_⟩
          · unfold wp_X12_keeps_55
            exact y_keeps_57 (by decide) (ht3 2432)
          · rw [ht3, pk_mul] at h
            exact absurd (nI_le (by omega) (by omega)) h
        | succ j ih =>
          intro k hk
          have h1 := ih (k + 1) (by omega)
          refine t_X12_keeps_21 ⟨fun h => ?_, fun _ => ?_⟩
          · rw [ht3, pk_mul] at h
            exact absurd h (nI_ge (by omega) (by omega))
          · simp only [nI_add]
            refine ⟨z_in (by omega) (by decide), z_in (by omega) (by decide), ?_⟩
            rw [nI_clamp (by omega), nI_clamp (by omega)]
            have e : sj_st (τ k) 58 k (τ k 58 (k + 128)) = τ (k + 1) := by
              show sj_st (sj_up _ 58 (sh k)) 58 k (sj_up _ 58 (sh k) 58 (k + 128)) = sj_up _ 58 (sh (k + 1))
              rw [z_st_up, sj_up_s]
              congr 1
              funext i
              show (if i = k then (if k + 128 < k then _ else σ 58 (k + 128)) else if i < k then σ 58 (i + 128) else σ 58 i) = if i < k + 1 then σ 58 (i + 128) else σ 58 i
              by_cases h : i = k
              · subst h; simp [show ¬ (i + 128 < i) by omega]
              · by_cases h2 : i < k
                · simp [h, h2, show i < k + 1 by omega]
                · simp [h, h2, show ¬ i < k + 1 by omega]
            rw [e]
            exact h1
      have hk := key 2432 0 (by omega)
      have e : τ 0 = sj_st σ 56 3 (nI (20 - 1)) := by
        show sj_up (sj_st σ 56 3 (nI 19)) 58 (sh 0) = _
        have : sh 0 = (sj_st σ 56 3 (nI 19)) 58 := by
          funext i
          show (if i < 0 then _ else σ 58 i) = _
          rw [if_neg (by omega), z_stn (by decide)]
        rw [this, z_up_self]
      rw [e] at hk
      exact hk
    · intro b h1 h2
      rw [z_stn h1, z_stn h1, z_upn h2]
      show sj_up (sj_st σ 56 3 (nI 19)) 58 _ b = σ b
      rw [z_upn h2, z_stn h1]
    · rw [z_sti (by decide), z_ste]; rfl
    · rw [z_ste]
    · intro k h1 h2
      rw [z_sti h2, z_sti h1, z_upn (by decide)]
      show sj_up (sj_st σ 56 3 (nI 19)) 58 _ 56 k = _
      rw [z_upn (by decide), z_sti h1]
    · intro u i hi hu
      rw [z_stn (by decide), z_stn (by decide), sj_up_s]
      unfold zKp
      rw [if_pos (by decide : 20 < 20 + 1)] at hu ⊢
      by_cases h : u + 1 = 20
      · rw [if_pos h, if_pos (by omega), show 128 * u + i - 128 * 19 = i by omega]
        show sj_up (sj_st σ 56 3 (nI 19)) 58 _ 57 i = _
        rw [z_upn (by decide), z_stn (by decide)]
      · rw [if_neg h, if_neg (by omega), if_pos rfl]
        show sj_up (sj_st σ 56 3 (nI 19)) 58 (sh 2432) 58 _ = _
        rw [sj_up_s]
        show (if 128 * u + i < 2432 then σ 58 (128 * u + i + 128) else _) = _
        rw [if_pos (by omega), show 128 * u + i + 128 = 128 * (u + 1) + i by omega]
  · have e1 : (if 20 < t + 1 then 20 else t + 1) = t + 1 := if_neg (by omega)
    refine ⟨_, c_X12_keeps ok (R := (.ok 0, sj_st (sj_st (sj_up σ 58 (zKp σ t 128)) 56 3 (nI (t + 1))) 56 7 (-1))) ?_, ?_, ?_, ?_, ?_, ?_⟩
    · unfold wp_X12_keeps_0
      refine ⟨fun _ => ?_, fun h => ?_⟩
      · unfold wp_X12_keeps_55
        exact y_keeps_57 (by omega) h3
      · rw [h3, nI_eq (by omega) (by decide)] at h
        exact absurd h h20
    · intro b h1 h2
      rw [z_stn h1, z_stn h1, z_upn h2]
    · rw [z_sti (by decide), z_ste, e1]
    · rw [z_ste]
    · intro k h1 h2
      rw [z_sti h2, z_sti h1, z_upn (by decide)]
    · intro u i hi hu
      rw [e1] at hu ⊢
      rw [z_stn (by decide), z_stn (by decide), sj_up_s]
      unfold zKp
      by_cases h : u + 1 = t + 1
      · rw [if_pos h, if_pos (by omega), show 128 * u + i - 128 * t = i by omega]
      · rw [if_neg h, if_neg (by omega), if_neg h20]
/-- undo() with a change to be undone -/
theorem y_undo (ok : sj_ok G) {t : Nat} (h0 : 0 < t) (ht : t ≤ 20) (h3 : σ 56 3 = nI t) : ∃ σ', sj_C G 2 me_X12_undo [.ref (sj_ad G 56)] σ (.ok (nI (t - 1)), σ') ∧ (∀ b, b ≠ 56 → b ≠ 57 → σ' b = σ b) ∧ σ' 56 0 = nI 0 ∧ σ' 56 3 = nI (t - 1) ∧ σ' 56 7 = -1 ∧ (∀ k, k ≠ 0 → k ≠ 3 → k ≠ 7 → σ' 56 k = σ 56 k) ∧ (∀ i, i < 128 → σ' 57 i = σ 58 (128 * (t - 1) + i)) := by
  let g : Nat → Nat → Int32 := fun k i => if i < k then σ 58 (128 * (t - 1) + i) else σ 57 i
  let ρ : sj_S := sj_st (sj_st σ 56 0 (nI 0)) 56 3 (nI (t - 1))
  have r3 : ρ 56 3 = nI (t - 1) := z_ste
  have r58 : ρ 58 = σ 58 := by
    show sj_st (sj_st σ 56 0 (nI 0)) 56 3 (nI (t - 1)) 58 = σ 58
    rw [z_stn (by decide), z_stn (by decide)]
  refine ⟨sj_st (sj_up ρ 57 (g 128)) 56 7 (-1), c_X12_undo ok ?_, ?_, ?_, ?_, ?_, ?_, ?_⟩
  · unfold wp_X12_undo_0
    refine ⟨fun _ => ?_, fun h => ?_⟩
    · rw [h3, pk_sub h0]
      have key : ∀ j k, k + j = 128 → sj_J G 2 me_X12_undo (.ok (nI (t - 1)), sj_st (sj_up ρ 57 (g 128)) 56 7 (-1)) 26 [.ref (sj_ad G 56), .int (nI k)] (sj_up ρ 57 (g k)) [] := by
        intro j
        induction j with
        | zero =>
          intro k hk
          have : k = 128 := by omega
          subst this
          refine t_X12_undo_26 ⟨fun _ => ?_, fun h => absurd (nI_le (by omega) (by omega)) h⟩
          rw [show sj_up ρ 57 (g 128) 56 = ρ 56 from z_upn (by decide), r3]
        | succ j ih =>
          intro k hk
          have h1 := ih (k + 1) (by omega)
          refine t_X12_undo_26 ⟨fun h => absurd h (nI_ge (by omega) (by omega)), fun _ => ?_⟩
          rw [show sj_up ρ 57 (g k) 56 = ρ 56 from z_upn (by decide), r3, show sj_up ρ 57 (g k) 58 = ρ 58 from z_upn (by decide), r58]
          simp only [nI_add, pk_mul]
          refine ⟨z_in (by omega) (by decide), z_in (by omega) (by decide), ?_⟩
          rw [nI_clamp (by omega), nI_clamp (by omega), z_st_up]
          have e : upd (g k) k (σ 58 (128 * (t - 1) + k)) = g (k + 1) := by
            funext i
            show (if i = k then σ 58 (128 * (t - 1) + k) else if i < k then σ 58 (128 * (t - 1) + i) else σ 57 i) = if i < k + 1 then σ 58 (128 * (t - 1) + i) else σ 57 i
            by_cases h : i = k
            · subst h; simp
            · by_cases h2 : i < k
              · simp [h, h2, show i < k + 1 by omega]
              · simp [h, h2, show ¬ i < k + 1 by omega]
          rw [e]
          exact h1
      have hk := key 128 0 (by omega)
      have e : g 0 = ρ 57 := by
        funext i
        show (if i < 0 then _ else σ 57 i) = sj_st (sj_st σ 56 0 (nI 0)) 56 3 (nI (t - 1)) 57 i
        rw [if_neg (by omega), z_stn (by decide), z_stn (by decide)]
      rw [e, z_up_self] at hk
      exact hk
    · rw [h3] at h
      exact absurd h (nI_ne0 h0 (by omega))
  · intro b h1 h2
    show sj_st (sj_up (sj_st (sj_st σ 56 0 (nI 0)) 56 3 (nI (t - 1))) 57 (g 128)) 56 7 (-1) b = σ b
    rw [z_stn h1, z_upn h2, z_stn h1, z_stn h1]
  · show sj_st (sj_up (sj_st (sj_st σ 56 0 (nI 0)) 56 3 (nI (t - 1))) 57 (g 128)) 56 7 (-1) 56 0 = nI 0
    rw [z_sti (by decide), z_upn (by decide), z_sti (by decide), z_ste]
  · rw [z_sti (by decide), z_upn (by decide), r3]
  · rw [z_ste]
  · intro k h1 h2 h4
    show sj_st (sj_up (sj_st (sj_st σ 56 0 (nI 0)) 56 3 (nI (t - 1))) 57 (g 128)) 56 7 (-1) 56 k = _
    rw [z_sti h4, z_upn (by decide), z_sti h2, z_sti h1]
  · intro i hi
    rw [z_stn (by decide), sj_up_s]
    show (if i < 128 then _ else _) = _
    rw [if_pos hi]
end ZM3
