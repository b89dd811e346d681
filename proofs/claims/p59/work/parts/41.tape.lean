/-! PAIRS 8: append, clearTape, errorPosition, writtenAt -/
def zTape (σ : sj_S) : Prop := (∃ n, n ≤ 100 ∧ σ 52 2 = nI n ∧ σ 56 26 = nI n ∧ ∀ i, i < n → σ 55 i = σ 75 i) ∧ σ 52 3 = σ 56 27 ∧ ∃ w, w ≤ 36 ∧ σ 52 4 = nI w ∧ σ 56 29 = nI w ∧ ∀ i, i < w → ∃ c, c < 128 ∧ σ 54 i = nI c ∧ σ 76 i = nI c
section ZP8
variable {G : sj_G} {σ : sj_S}
abbrev zTA : List Nat := [33, 46, 47, 48, 49, 50, 51, 70, 71, 72, 73, 74]
abbrev zTK : List Nat := [21, 22]
def zIT (σ σ' : sj_S) : Prop := zA σ' ∧ zTape σ' ∧ zFrm zTA zTK σ σ'
theorem zTape_of {σ' : sj_S} (h : zTape σ) (hb : ∀ b, b ∈ [52, 54, 55, 75, 76] → σ' b = σ b) (hk : ∀ k, k ∈ [26, 27, 29] → σ' 56 k = σ 56 k) : zTape σ' := by
  unfold zTape at h ⊢
  rw [hb 52 (by decide), hb 54 (by decide), hb 55 (by decide), hb 75 (by decide), hb 76 (by decide), hk 26 (by decide), hk 27 (by decide), hk 29 (by decide)]
  exact h
theorem zIT_th {c : Int32} (h : zA σ) (hT : zTape σ) : zIT σ (sj_st σ 56 0 c) :=
  ⟨(zI2_th h).1, zTape_of hT (fun b hb => z_stn (zne (by decide) hb)) (fun k hk => z_sti (zne (by decide) hk)), fun b hb => z_stn (zne (by decide) hb), fun k hk => z_sti (zne (by decide) hk), by rw [z_stn (by decide)]⟩
theorem zIT_th2 {c e : Int32} (h : zA σ) (hT : zTape σ) : zIT σ (sj_st (sj_st σ 56 0 c) 56 0 e) := by
  obtain ⟨h1, h2, h3, h4, h5⟩ := zIT_th (c := c) h hT
  obtain ⟨g1, g2, g3, g4, g5⟩ := zIT_th (c := e) h1 h2
  exact ⟨g1, g2, fun b hb => (g3 b hb).trans (h3 b hb), fun k hk => (g4 k hk).trans (h4 k hk), g5.trans h5⟩
theorem z_chr : ∀ c, c < 128 → ((nI c).toUInt32 % 65536).toInt32 = nI c := by decide +kernel
theorem z_nch {c : Nat} (h : c < 128) : narrow .char (.int (nI c)) = .int (nI c) := by
  show Value.int (((nI c).toUInt32 % 65536).toInt32) = _
  rw [z_chr c h]
/-! the bytes of a word -/
def zBy (x : Int32) (k : Nat) : Int32 := (x >>> (nI k &&& 31)) &&& nI 255
def zB1 (x : Int32) (k : Nat) : Nat := if zBy x k = 0 then 0 else 1
def zBn (x : Int32) : Nat := zB1 x 24 + zB1 x 16 + zB1 x 8 + zB1 x 0
theorem zB1_le (x : Int32) (k : Nat) : zB1 x k ≤ 1 := by unfold zB1; split <;> omega
theorem zB1_v {x : Int32} {k : Nat} : (if (x >>> (nI k &&& 31)) &&& nI 255 = 0 then nI 0 else nI 1) = nI (zB1 x k) := by
  show (if zBy x k = 0 then nI 0 else nI 1) = nI (if zBy x k = 0 then 0 else 1)
  split <;> rfl
theorem z_m8 {k : Nat} (h : 8 ≤ k) : nI k + (-8) = nI (k - 8) := by
  have e : (-8 : Int32) = - nI 8 := by decide
  rw [e, ← Int32.sub_eq_add_neg, pk_sub h]
theorem z_signsIn (ok : sj_ok G) (x : Int32) : sj_C G 2 me_X9_signsIn [.ref (sj_ad G 52), .int x] σ (.ok (nI (zBn x)), σ) := by
  refine c_X9_signsIn ok ?_
  unfold wp_X9_signsIn_0
  have step : ∀ (k a : Nat), k ≤ 24 → (8 ≤ k → sj_J G 2 me_X9_signsIn (.ok (nI (zBn x)), σ) 5 [.null, .int x, .int (nI (a + zB1 x k)), .int (nI (k - 8))] σ []) → (k < 8 → sj_J G 2 me_X9_signsIn (.ok (nI (zBn x)), σ) 5 [.null, .int x, .int (nI (a + zB1 x k)), .int (nI k + (-8))] σ []) → sj_J G 2 me_X9_signsIn (.ok (nI (zBn x)), σ) 5 [.null, .int x, .int (nI a), .int (nI k)] σ [] := by
    intro k a hk h1 h2
    refine t_X9_signsIn_5 ⟨fun q => absurd q (z_nlt0 (by omega)), fun _ => ?_⟩
    unfold wp_X9_signsIn_25
    rw [zB1_v, nI_add]
    by_cases h8 : 8 ≤ k
    · rw [z_m8 h8]
      exact h1 h8
    · exact h2 (by omega)
  refine step 24 0 (by decide) (fun _ => step 16 _ (by decide) (fun _ => step 8 _ (by decide) (fun _ => step 0 _ (by decide) (fun q => absurd q (by decide)) (fun _ => ?_)) (fun q => absurd q (by decide))) (fun q => absurd q (by decide))) (fun q => absurd q (by decide))
  refine t_X9_signsIn_5 ⟨fun _ => ?_, fun q => absurd (by decide) q⟩
  unfold zBn
  rw [Nat.zero_add]
def zP1 (f : Nat → Int32) (n : Nat) (y : Int32) : Nat → Int32 := if y = 0 then f else upd f n y
def zPL (f : Nat → Int32) (n : Nat) (x : Int32) : Nat → Int32 := zP1 (zP1 (zP1 (zP1 f n (zBy x 24)) (n + zB1 x 24) (zBy x 16)) (n + zB1 x 24 + zB1 x 16) (zBy x 8)) (n + zB1 x 24 + zB1 x 16 + zB1 x 8) (zBy x 0)
theorem zP1_eq {f g : Nat → Int32} {n k : Nat} {x : Int32} (h : ∀ i, i < n → f i = g i) : ∀ i, i < n + zB1 x k → zP1 f n (zBy x k) i = zP1 g n (zBy x k) i := by
  intro i hi
  unfold zP1
  unfold zB1 at hi
  by_cases q : zBy x k = 0
  · rw [if_pos q] at hi
    rw [if_pos q, if_pos q]
    exact h i (by omega)
  · rw [if_neg q] at hi
    rw [if_neg q, if_neg q]
    by_cases e : i = n
    · subst e; rw [z_ue, z_ue]
    · rw [z_un e, z_un e]
      exact h i (by omega)
theorem zPL_eq {f g : Nat → Int32} {n : Nat} {x : Int32} (h : ∀ i, i < n → f i = g i) : ∀ i, i < n + zBn x → zPL f n x i = zPL g n x i := by
  intro i hi
  unfold zBn at hi
  exact zP1_eq (zP1_eq (zP1_eq (zP1_eq h))) i (by omega)
def zAdd (a c k : Nat) (σ : sj_S) (n : Nat) (x : Int32) : sj_S := sj_st (sj_up σ a (zPL (σ a) n x)) c k (nI (n + zBn x))
theorem zW_st {a c k m : Nat} {f : Nat → Int32} {v w y : Int32} (hac : a ≠ c) : sj_st (sj_st (sj_st (sj_up σ a f) c k v) a m y) c k w = sj_st (sj_up σ a (upd f m y)) c k w := by
  funext b i
  by_cases h1 : b = c
  · subst h1
    by_cases h2 : i = k
    · subst h2; rw [z_ste, z_ste]
    · rw [z_sti h2, z_sti h2, z_stn (Ne.symm hac), z_sti h2, z_upn (Ne.symm hac), z_upn (Ne.symm hac)]
  · rw [z_stn h1, z_stn h1]
    by_cases h2 : b = a
    · subst h2
      by_cases h3 : i = m
      · subst h3; rw [z_ste, sj_up_s, z_ue]
      · rw [z_sti h3, z_stn h1, sj_up_s, sj_up_s, z_un h3]
    · rw [z_stn h2, z_stn h1, z_upn h2, z_upn h2]
theorem z_st_self {a i : Nat} : sj_st σ a i (σ a i) = σ := by
  funext b j
  by_cases h : b = a
  · subst h
    by_cases h2 : j = i
    · subst h2; rw [z_ste]
    · rw [z_sti h2]
  · rw [z_stn h]
theorem zW_0 {a c k n : Nat} (h : σ c k = nI n) : sj_st (sj_up σ a (σ a)) c k (nI n) = σ := by
  rw [z_up_self, ← h, z_st_self]
theorem zP1_0 {f : Nat → Int32} {n : Nat} {y : Int32} (q : y = 0) : zP1 f n y = f := if_pos q
theorem zP1_1 {f : Nat → Int32} {n : Nat} {y : Int32} (q : ¬ y = 0) : zP1 f n y = upd f n y := if_neg q
theorem z_add (ok : sj_ok G) {n : Nat} {x : Int32} (h2 : σ 52 2 = nI n) (hn : n + zBn x ≤ 100) : sj_C G 2 me_X9_add [.ref (sj_ad G 52), .int x] σ (.ok 0, zAdd 55 52 2 σ n x) := by
  refine c_X9_add ok ?_
  unfold wp_X9_add_0
  have step : ∀ (k : Nat) (f : Nat → Int32) (m : Nat), k ≤ 24 → m + zB1 x k ≤ 100 →
      (8 ≤ k → sj_J G 2 me_X9_add (.ok 0, zAdd 55 52 2 σ n x) 3 [.ref (sj_ad G 52), .int x, .int (nI (k - 8)), .null] (sj_st (sj_up σ 55 (zP1 f m (zBy x k))) 52 2 (nI (m + zB1 x k))) []) →
      (k < 8 → sj_J G 2 me_X9_add (.ok 0, zAdd 55 52 2 σ n x) 3 [.ref (sj_ad G 52), .int x, .int (nI k + (-8)), .null] (sj_st (sj_up σ 55 (zP1 f m (zBy x k))) 52 2 (nI (m + zB1 x k))) []) →
      sj_J G 2 me_X9_add (.ok 0, zAdd 55 52 2 σ n x) 3 [.ref (sj_ad G 52), .int x, .int (nI k), .null] (sj_st (sj_up σ 55 f) 52 2 (nI m)) [] := by
    intro k f m hk hm g1 g2
    have g : sj_J G 2 me_X9_add (.ok 0, zAdd 55 52 2 σ n x) 3 [.ref (sj_ad G 52), .int x, .int (nI k + (-8)), .null] (sj_st (sj_up σ 55 (zP1 f m (zBy x k))) 52 2 (nI (m + zB1 x k))) [] := by
      by_cases h8 : 8 ≤ k
      · rw [z_m8 h8]
        exact g1 h8
      · exact g2 (by omega)
    by_cases q : zBy x k = 0
    · have q' : (x >>> (nI k &&& 31)) &&& nI 255 = 0 := q
      refine t_X9_add_3 ⟨fun q => absurd q (z_nlt0 (by omega)), fun _ => ⟨fun r => absurd q' r, ?_⟩⟩
      unfold wp_X9_add_48
      rw [if_pos q']
      rw [zP1_0 q, show zB1 x k = 0 from if_pos q] at g
      exact g
    · have q' : ¬ (x >>> (nI k &&& 31)) &&& nI 255 = 0 := q
      have e1 : zB1 x k = 1 := if_neg q
      rw [e1] at hm g
      refine t_X9_add_3 ⟨fun q => absurd q (z_nlt0 (by omega)), fun _ => ⟨fun _ _ => ?_, ?_⟩⟩
      · rw [z_ste]
        exact z_in (by omega) (by decide)
      · unfold wp_X9_add_48
        rw [if_neg q', z_ste, if_neg (nI_ge (by omega) (by decide)), nI_clamp (by omega), nI_add, zW_st (by decide)]
        rw [zP1_1 q] at g
        exact g
  have hb : zB1 x 24 + zB1 x 16 + zB1 x 8 + zB1 x 0 = zBn x := rfl
  have h0 := step 24 (σ 55) n (by decide) (by omega) (fun _ => step 16 _ _ (by decide) (by omega) (fun _ => step 8 _ _ (by decide) (by omega) (fun _ => step 0 _ _ (by decide) (by omega) (fun q => absurd q (by decide)) (fun _ => ?_)) (fun q => absurd q (by decide))) (fun q => absurd q (by decide))) (fun q => absurd q (by decide))
  · rw [zW_0 h2] at h0
    exact h0
  · refine t_X9_add_3 ⟨fun _ => ?_, fun q => absurd (by decide) q⟩
    rw [show n + zB1 x 24 + zB1 x 16 + zB1 x 8 + zB1 x 0 = n + zBn x by omega]
    rfl
theorem zAdd_n {a c k n b : Nat} {x : Int32} (h1 : b ≠ a) (h2 : b ≠ c) : zAdd a c k σ n x b = σ b := by
  unfold zAdd
  rw [z_stn h2, z_upn h1]
theorem zAdd_a {a c k n : Nat} {x : Int32} (h : a ≠ c) : zAdd a c k σ n x a = zPL (σ a) n x := by
  unfold zAdd
  rw [z_stn h, sj_up_s]
theorem zAdd_c {a c k n : Nat} {x : Int32} : zAdd a c k σ n x c k = nI (n + zBn x) := z_ste
theorem zAdd_i {a c k n j : Nat} {x : Int32} (h : a ≠ c) (hj : j ≠ k) : zAdd a c k σ n x c j = σ c j := by
  unfold zAdd
  rw [z_sti hj, z_upn (Ne.symm h)]
end ZP8
