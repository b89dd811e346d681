/-! INVARIANT: a right table; school, history, proof: the class's and the reference's -/
def zMeet (D : zD) (T : Nat → Nat) (l o : Nat) : Bool := zTk D T l (T o) || (decide (dDb D o = 1) && zTk D T l (T o + 1))
def zRtH (D : zD) (H : Nat → Bool) (T : Nat → Nat) : Prop :=
  (∀ l, l < dN D → T l < 20 ∧ ¬ (dDb D l = 1 ∧ T l % 4 = 3)) ∧
  (∀ l o, l < dN D → o < l → (dG D l = dG D o ∨ dTe D l = dTe D o) → zMeet D T l o = false) ∧
  (∀ l o, l < dN D → o < l → dG D l = dG D o → dSu D l = dSu D o → T l / 4 ≠ T o / 4) ∧
  (∀ w, w < dW D → H w = true → zFul D T w = true) ∧
  (∀ l i, l < dN D → dKi D l ≠ 0 → zTk D T l i = true → q_cnt (fun o => decide (dKi D o = dKi D l) && zTk D T o i) (dN D) ≤ dRo D (dKi D l - 1))
def zHd (D : zD) (w : Nat) : Bool := decide (dWe D w = 0)
def zSR (c tb m : Nat → Int32) : Prop := ∃ D T, okD D ∧ repC D c ∧ repM D m ∧ (dT D = 1 → (∀ l, l < dN D → tb l = nI (T l) ∧ m (116 + l) = nI (T l) ∧ T l < 20) ∧ zRtH D (zHd D) T)
theorem zSR_congr {c tb m c' tb' m' : Nat → Int32} (h : zSR c tb m) (hc : ∀ i, i < 119 → c' i = c i) (ht : ∀ i, i < 9 → tb' i = tb i) (hm : ∀ i, i < 128 → m' i = m i) : zSR c' tb' m' := by
  obtain ⟨D, T, v, hC, hM, hT⟩ := h
  have h9 := v.1
  have h12 := v.2.1
  refine ⟨D, T, v, ⟨(hc _ (by omega)).trans hC.1, (hc _ (by omega)).trans hC.2.1, (hc _ (by omega)).trans hC.2.2.1, fun l hl => ?_, fun w hw => ?_, fun t h => ?_, fun k h => ?_, fun e h => ?_⟩, ⟨(hm _ (by omega)).trans hM.1, (hm _ (by omega)).trans hM.2.1, (hm _ (by omega)).trans hM.2.2.1, fun l hl => ?_, fun w hw => ?_, fun t h => ?_, fun k h => ?_, fun e h => ?_⟩, fun h => ⟨fun l hl => ?_, (hT h).2⟩⟩
  · obtain ⟨a1, a2, a3, a4, a5⟩ := hC.2.2.2.1 l hl
    exact ⟨(hc _ (by omega)).trans a1, (hc _ (by omega)).trans a2, (hc _ (by omega)).trans a3, (hc _ (by omega)).trans a4, (hc _ (by omega)).trans a5⟩
  · obtain ⟨a1, a2, a3, a4⟩ := hC.2.2.2.2.1 w hw
    exact ⟨(hc _ (by omega)).trans a1, (hc _ (by omega)).trans a2, (hc _ (by omega)).trans a3, (hc _ (by omega)).trans a4⟩
  · obtain ⟨a1, a2⟩ := hC.2.2.2.2.2.1 t h
    exact ⟨(hc _ (by omega)).trans a1, (hc _ (by omega)).trans a2⟩
  · exact (hc _ (by omega)).trans (hC.2.2.2.2.2.2.1 k h)
  · exact (hc _ (by omega)).trans (hC.2.2.2.2.2.2.2 e h)
  · obtain ⟨a1, a2, a3, a4, a5⟩ := hM.2.2.2.1 l hl
    exact ⟨(hm _ (by omega)).trans a1, (hm _ (by omega)).trans a2, (hm _ (by omega)).trans a3, (hm _ (by omega)).trans a4, (hm _ (by omega)).trans a5⟩
  · obtain ⟨a1, a2, a3, a4⟩ := hM.2.2.2.2.1 w hw
    exact ⟨(hm _ (by omega)).trans a1, (hm _ (by omega)).trans a2, (hm _ (by omega)).trans a3, (hm _ (by omega)).trans a4⟩
  · obtain ⟨a1, a2⟩ := hM.2.2.2.2.2.1 t h
    exact ⟨(hm _ (by omega)).trans a1, (hm _ (by omega)).trans a2⟩
  · exact (hm _ (by omega)).trans (hM.2.2.2.2.2.2.1 k h)
  · exact (hm _ (by omega)).trans (hM.2.2.2.2.2.2.2 e h)
  · obtain ⟨a1, a2, a3⟩ := (hT h).1 l hl
    exact ⟨(ht _ (by omega)).trans a1, (hm _ (by omega)).trans a2, a3⟩
/-! ### the history -/
def zHR (f4 f5 : Nat → Int32) (c3 : Int32) (f58 : Nat → Int32) : Prop := ∃ nx t, nx < 20 ∧ t ≤ 20 ∧ f4 1 = nI nx ∧ f4 2 = nI t ∧ c3 = nI t ∧
  ∀ j, j < t → zSR (fun i => f5 ((nx + 19 - j) % 20 * 128 + i)) (fun i => f5 ((nx + 19 - j) % 20 * 128 + 119 + i)) (fun i => f58 (128 * (t - 1 - j) + i))
theorem zH_keep {f5 f58 f58' c tb m : Nat → Int32} {nx t : Nat} (hnx : nx < 20) (ht : t ≤ 20)
    (hs : ∀ j, j < t → zSR (fun i => f5 ((nx + 19 - j) % 20 * 128 + i)) (fun i => f5 ((nx + 19 - j) % 20 * 128 + 119 + i)) (fun i => f58 (128 * (t - 1 - j) + i)))
    (hn : zSR c tb m)
    (hk : ∀ u i, i < 128 → u < (if 20 < t + 1 then 20 else t + 1) → f58' (128 * u + i) = if u + 1 = (if 20 < t + 1 then 20 else t + 1) then m i else if t = 20 then f58 (128 * (u + 1) + i) else f58 (128 * u + i))
    {f4' f5' : Nat → Int32} {c3' : Int32} (e5 : f5' = va_cpy tb (va_cpy c f5 0 (nx * 128) 119) 0 (nx * 128 + 119) 9) (e1 : f4' 1 = nI ((nx + 1) % 20)) (e2 : f4' 2 = nI (if 20 < t + 1 then 20 else t + 1)) (e3 : c3' = nI (if 20 < t + 1 then 20 else t + 1)) :
    zHR f4' f5' c3' f58' := by
  refine ⟨(nx + 1) % 20, if 20 < t + 1 then 20 else t + 1, by omega, by split <;> omega, e1, e2, e3, ?_⟩
  intro j hj
  subst e5
  have hj20 : j < 20 := by
    have : (if 20 < t + 1 then 20 else t + 1) ≤ 20 := by split <;> omega
    omega
  by_cases h0 : j = 0
  · subst h0
    have ei : ((nx + 1) % 20 + 19 - 0) % 20 = nx := by omega
    refine zSR_congr hn (fun i hi => ?_) (fun i hi => ?_) (fun i hi => ?_)
    · show va_cpy tb (va_cpy c f5 0 (nx * 128) 119) 0 (nx * 128 + 119) 9 (((nx + 1) % 20 + 19 - 0) % 20 * 128 + i) = c i
      rw [ei]
      unfold va_cpy
      rw [if_neg (by omega), if_pos (by omega)]
      congr 1
      omega
    · show va_cpy tb (va_cpy c f5 0 (nx * 128) 119) 0 (nx * 128 + 119) 9 (((nx + 1) % 20 + 19 - 0) % 20 * 128 + 119 + i) = tb i
      rw [ei]
      unfold va_cpy
      rw [if_pos (by omega)]
      congr 1
      omega
    · show f58' (128 * ((if 20 < t + 1 then 20 else t + 1) - 1 - 0) + i) = m i
      rw [hk _ i hi (by split <;> omega), if_pos (by split <;> omega)]
  · have es : ((nx + 1) % 20 + 19 - j) % 20 = (nx + 19 - (j - 1)) % 20 := by omega
    have en : (nx + 19 - (j - 1)) % 20 ≠ nx := by omega
    have hjt : j - 1 < t := by
      split at hj <;> omega
    have hfar : ∀ i, i < 128 → va_cpy tb (va_cpy c f5 0 (nx * 128) 119) 0 (nx * 128 + 119) 9 ((nx + 19 - (j - 1)) % 20 * 128 + i) = f5 ((nx + 19 - (j - 1)) % 20 * 128 + i) := by
      intro i hi
      generalize hq : (nx + 19 - (j - 1)) % 20 = q at en
      unfold va_cpy
      rw [if_neg (by omega), if_neg (by omega)]
    refine zSR_congr (hs (j - 1) hjt) (fun i hi => ?_) (fun i hi => ?_) (fun i hi => ?_)
    · show va_cpy tb (va_cpy c f5 0 (nx * 128) 119) 0 (nx * 128 + 119) 9 (((nx + 1) % 20 + 19 - j) % 20 * 128 + i) = f5 ((nx + 19 - (j - 1)) % 20 * 128 + i)
      rw [es, hfar i (by omega)]
    · show va_cpy tb (va_cpy c f5 0 (nx * 128) 119) 0 (nx * 128 + 119) 9 (((nx + 1) % 20 + 19 - j) % 20 * 128 + 119 + i) = f5 ((nx + 19 - (j - 1)) % 20 * 128 + 119 + i)
      rw [es, Nat.add_assoc, hfar (119 + i) (by omega), ← Nat.add_assoc]
    · show f58' (128 * ((if 20 < t + 1 then 20 else t + 1) - 1 - j) + i) = f58 (128 * (t - 1 - (j - 1)) + i)
      by_cases h20 : t = 20
      · subst h20
        have e : (if 20 < 20 + 1 then 20 else 20 + 1) = 20 := by decide
        rw [e] at hk hj ⊢
        rw [hk _ i hi (by omega), if_neg (by omega), if_pos rfl]
        congr 1
        omega
      · have e : (if 20 < t + 1 then 20 else t + 1) = t + 1 := if_neg (by omega)
        rw [e] at hk ⊢
        rw [hk _ i hi (by omega), if_neg (by omega), if_neg h20]
        congr 1
        omega
/-! ### the proof that find showed -/
def zPR (a : Int32) (f32 : Nat → Int32) (b : Int32) (f62 : Nat → Int32) : Prop := a = b ∧ (b = -1 ∨ ∃ q, q ≤ 12 ∧ b = nI q ∧ ∀ i, i < q → f32 i = f62 i)
/-- school, history and proof -/
def zA (σ : sj_S) : Prop := zSR (σ 2) (σ 3) (σ 57) ∧ zHR (σ 4) (σ 5) (σ 56 3) (σ 58) ∧ zPR (σ 30 3) (σ 32) (σ 56 7) (σ 62)
/-- what stands beside them -/
def zRest (σ σ' : sj_S) : Prop := (∀ b, b ∈ [33, 46, 47, 48, 49, 50, 51, 52, 54, 55, 70, 71, 72, 73, 74, 75, 76] → σ' b = σ b) ∧ (∀ k, k ∈ [21, 22, 26, 27, 29] → σ' 56 k = σ 56 k) ∧ σ' 30 7 = σ 30 7
def zPair (G : sj_G) (I : sj_S → Prop) (dc : Nat) (Mc : sj_M) (dm : Nat) (Mm : sj_M) (as : List Value) (cd : Nat → Nat) (σ : sj_S) : Prop :=
  ∃ Rc σ1 rm σ2, sj_C G dc Mc (.ref (sj_ad G 0) :: as) σ (Rc, σ1) ∧ sj_C G dm Mm (.ref (sj_ad G 56) :: as) σ1 (.ok rm, σ2) ∧ zSame cd Rc (σ2 56 0) rm ∧ I σ2
def zcd (a b c k : Nat) : Nat := if k = a then 1 else if k = b then 2 else if k = c then 3 else 0
section ZIN
variable {G : sj_G} {σ : sj_S}
def zBeg (σ : sj_S) (k t : Nat) : sj_S := sj_st (zKeep σ k t) 30 3 (-1)
theorem z_begin (ok : sj_ok G) {k t : Nat} (hk : k < 20) (ht : t ≤ 20) (h1 : σ 4 1 = nI k) (h2 : σ 4 2 = nI t) : sj_C G 3 me_X11_beginChange [.ref (sj_ad G 0)] σ (.ok 0, zBeg σ k t) :=
  c_X11_beginChange ok ⟨_, z_keep ok hk ht h1 h2, _, c_X4_forget ok rfl, rfl⟩
theorem zBeg_n {k t b : Nat} (h4 : b ≠ 4) (h5 : b ≠ 5) (h30 : b ≠ 30) : zBeg σ k t b = σ b := by
  unfold zBeg zKeep
  rw [z_stn h30, z_stn h4, z_stn h4, z_upn h5, z_upn h5]
theorem zBeg_30 {k t i : Nat} (h : i ≠ 3) : zBeg σ k t 30 i = σ 30 i := by
  unfold zBeg zKeep
  rw [z_sti h, z_stn (by decide), z_stn (by decide), z_upn (by decide), z_upn (by decide)]
theorem zBeg_p {k t : Nat} : zBeg σ k t 30 3 = -1 := z_ste
theorem zBeg_1 {k t : Nat} : zBeg σ k t 4 1 = nI ((k + 1) % 20) := by
  unfold zBeg zKeep
  rw [z_stn (by decide), z_sti (by decide), z_ste]
theorem zBeg_2 {k t : Nat} : zBeg σ k t 4 2 = nI (if 20 < t + 1 then 20 else t + 1) := by
  unfold zBeg zKeep
  rw [z_stn (by decide), z_ste]
theorem zBeg_5 {k t : Nat} : zBeg σ k t 5 = va_cpy (σ 3) (va_cpy (σ 2) (σ 5) 0 (k * 128) 119) 0 (k * 128 + 119) 9 := by
  unfold zBeg zKeep
  rw [z_stn (by decide), z_stn (by decide), z_stn (by decide), sj_up_s]
end ZIN
/-! PAIRS 1: lessons, wishes, lessonOf, wishOf, proof, proofAt, slotOf, setRooms -/
theorem zSame_ok {cd : Nat → Nat} {th rm v : Int32} (h1 : th = nI 0) (h2 : v = rm) : zSame cd (.ok v) th rm := And.intro h1 h2
theorem zSame_er {cd : Nat → Nat} {th rm : Int32} {k : Nat} (h1 : 0 < k ∧ 0 < cd k) (h2 : th = nI (cd k)) : zSame cd (.error k) th rm := And.intro h1 h2
theorem zne {l : List Nat} {a b : Nat} (h : a ∉ l) (hb : b ∈ l) : b ≠ a := fun e => h (e ▸ hb)
def zI2 (σ σ' : sj_S) : Prop := zA σ' ∧ zRest σ σ'
section ZP1
variable {G : sj_G} {σ : sj_S} {D : zD} {T : Nat → Nat}
theorem zT00 : (sj_st σ 56 0 (nI 0)) 56 0 = 0 := by rw [z_ste]; exact nI_0
theorem zA_of {σ' : sj_S} (h : zA σ) (hb : ∀ b, b ∈ [2, 3, 4, 5, 32, 57, 58, 62] → σ' b = σ b) (h3 : σ' 56 3 = σ 56 3) (h7 : σ' 56 7 = σ 56 7) (hp : σ' 30 3 = σ 30 3) : zA σ' := by
  unfold zA at h ⊢
  rw [hb 2 (by decide), hb 3 (by decide), hb 4 (by decide), hb 5 (by decide), hb 32 (by decide), hb 57 (by decide), hb 58 (by decide), hb 62 (by decide), h3, h7, hp]
  exact h
theorem zI2_th {c : Int32} (h : zA σ) : zI2 σ (sj_st σ 56 0 c) :=
  ⟨zA_of h (fun b hb => z_stn (zne (by decide) hb)) (z_sti (by decide)) (z_sti (by decide)) (by rw [z_stn (by decide)]), fun b hb => z_stn (zne (by decide) hb), fun k hk => z_sti (zne (by decide) hk), by rw [z_stn (by decide)]⟩
theorem zI2_th2 {c e : Int32} (h : zA σ) : zI2 σ (sj_st (sj_st σ 56 0 c) 56 0 e) := by
  obtain ⟨h1, h2, h3, h4⟩ := zI2_th (c := c) h
  obtain ⟨g1, g2, g3, g4⟩ := zI2_th (c := e) h1
  exact ⟨g1, fun b hb => (g2 b hb).trans (h2 b hb), fun k hk => (g3 k hk).trans (h3 k hk), g4.trans h4⟩
theorem y_inn1 (ok : sj_ok G) {j n : Nat} (hj : j < n) (hn : n < 2 ^ 30) : sj_C G 2 me_X12_in [.int (nI j), .int (nI 0), .int (nI n - nI 1)] σ (.ok (nI 1), σ) := by
  rw [pk_sub (by omega : 1 ≤ n)]
  exact y_in1 ok (by rw [nI_0]; exact nI_pos (by omega)) (nI_nlt (by omega) (by omega))
theorem z_ltm {j : Nat} (h : j < 2 ^ 31) : (nI 0 - nI 1) < nI j := by
  rw [Int32.lt_iff_toInt_lt, nI_toInt h, show (nI 0 - nI 1).toInt = -1 by decide]
  omega
theorem y_inn0 (ok : sj_ok G) {x : Int32} {n : Nat} (hx : ∀ j, j < n → ¬ x = nI j) (hn : n < 2 ^ 30) : sj_C G 2 me_X12_in [.int x, .int (nI 0), .int (nI n - nI 1)] σ (.ok (nI 0), σ) := by
  refine y_in0 ok ?_
  by_cases h : x < 0
  · exact Or.inl (by rw [nI_0]; exact h)
  · right
    obtain ⟨j, hj, e⟩ := nI_of h
    have hjn : ¬ j < n := fun q => hx j q e
    rw [e]
    by_cases h0 : n = 0
    · subst h0
      exact z_ltm hj
    · rw [pk_sub (by omega : 1 ≤ n)]
      exact nI_lt (by omega) hj
theorem y_noLesson0 (ok : sj_ok G) (hM : repM D (σ 57)) (v : okD D) (h0 : σ 56 0 = 0) {l : Nat} {c : Int32} (hl : l < dN D) : sj_C G 3 me_X12_noLesson [.ref (sj_ad G 56), .int (nI l), .int c] σ (.ok (nI 0), σ) := by
  have h9 := v.1
  refine c_X12_noLesson ok ⟨_, _, y_many ok, _, _, ?_, _, _, y_fails1 ok h0, rfl, Or.inl rfl⟩
  rw [hM.1]
  exact y_inn1 ok hl (by omega)
theorem y_noLesson1 (ok : sj_ok G) (hM : repM D (σ 57)) (v : okD D) (h0 : σ 56 0 = 0) {x c : Int32} (hx : ∀ j, j < dN D → ¬ x = nI j) (hc : ¬ c = 0) : sj_C G 3 me_X12_noLesson [.ref (sj_ad G 56), .int x, .int c] σ (.ok (nI 1), sj_st σ 56 0 c) := by
  have h9 := v.1
  refine c_X12_noLesson ok ⟨_, _, y_many ok, _, _, ?_, _, _, y_fails0 ok h0 hc, rfl, Or.inr rfl⟩
  rw [hM.1]
  exact y_inn0 ok hx (by omega)
theorem y_noWish0 (ok : sj_ok G) (hM : repM D (σ 57)) (v : okD D) (h0 : σ 56 0 = 0) {l : Nat} (hl : l < dW D) : sj_C G 3 me_X12_noWish [.ref (sj_ad G 56), .int (nI l)] σ (.ok (nI 0), σ) := by
  have h9 := v.2.1
  refine c_X12_noWish ok ⟨_, _, ?_, _, _, y_fails1 ok h0, rfl, Or.inl rfl⟩
  rw [hM.2.1]
  exact y_inn1 ok hl (by omega)
theorem y_noWish1 (ok : sj_ok G) (hM : repM D (σ 57)) (v : okD D) (h0 : σ 56 0 = 0) {x : Int32} (hx : ∀ j, j < dW D → ¬ x = nI j) : sj_C G 3 me_X12_noWish [.ref (sj_ad G 56), .int x] σ (.ok (nI 1), sj_st σ 56 0 (nI 1)) := by
  have h9 := v.2.1
  refine c_X12_noWish ok ⟨_, _, ?_, _, _, y_fails0 ok h0 (by decide), rfl, Or.inr rfl⟩
  rw [hM.2.1]
  exact y_inn0 ok hx (by omega)
theorem y_noTable0 (ok : sj_ok G) (h0 : σ 56 0 = 0) (ht : σ 57 127 = nI 1) {c : Int32} : sj_C G 3 me_X12_noTable [.ref (sj_ad G 56), .int c] σ (.ok (nI 0), σ) := by
  refine c_X12_noTable ok ?_
  unfold wp_X12_noTable_0 wp_X12_noTable_17
  rw [if_pos ht]
  exact ⟨_, _, y_fails1 ok h0, rfl, Or.inl rfl⟩
theorem y_noTable1 (ok : sj_ok G) (h0 : σ 56 0 = 0) (ht : σ 57 127 = nI 0) {c : Int32} (hc : ¬ c = 0) : sj_C G 3 me_X12_noTable [.ref (sj_ad G 56), .int c] σ (.ok (nI 1), sj_st σ 56 0 c) := by
  refine c_X12_noTable ok ?_
  unfold wp_X12_noTable_0 wp_X12_noTable_17
  rw [if_neg (by rw [ht]; decide)]
  exact ⟨_, _, y_fails0 ok h0 hc, rfl, Or.inr rfl⟩
theorem p_lessons (ok : sj_ok G) (h : zA σ) : zPair G (zI2 σ) 3 me_X11_lessons 3 me_X12_lessons [] (zcd 0 0 0) σ := by
  obtain ⟨D, T, v, hC, hM, hT⟩ := h.1
  refine ⟨_, _, _, _, c_X11_lessons ok ⟨_, _, z_lessonTotal ok, rfl⟩, c_X12_lessons ok ⟨_, _, y_many ok, rfl⟩, zSame_ok z_ste ?_, zI2_th h⟩
  rw [z_stn (by decide), hC.1, hM.1]
theorem p_wishes (ok : sj_ok G) (h : zA σ) : zPair G (zI2 σ) 3 me_X11_wishes 2 me_X12_wishes [] (zcd 0 0 0) σ := by
  obtain ⟨D, T, v, hC, hM, hT⟩ := h.1
  refine ⟨_, _, _, _, c_X11_wishes ok ⟨_, _, z_wishTotal ok, rfl⟩, c_X12_wishes ok rfl, zSame_ok z_ste ?_, zI2_th h⟩
  rw [hC.2.1, hM.2.1]
theorem z_five {D : zD} {c m : Nat → Int32} (hC : repC D c) (hM : repM D m) {l k : Nat} (hl : l < dN D) (hk : k < 5) : c (3 + l * 5 + k) = m (9 * k + l) := by
  obtain ⟨a0, a1, a2, a3, a4⟩ := hC.2.2.2.1 l hl
  obtain ⟨b0, b1, b2, b3, b4⟩ := hM.2.2.2.1 l hl
  rcases (by omega : k = 0 ∨ k = 1 ∨ k = 2 ∨ k = 3 ∨ k = 4) with e | e | e | e | e <;> subst e
  · exact a0.trans b0.symm
  · exact a1.trans b1.symm
  · exact a2.trans b2.symm
  · exact a3.trans b3.symm
  · exact a4.trans b4.symm
theorem z_four {D : zD} {c m : Nat → Int32} (hC : repC D c) (hM : repM D m) {l k : Nat} (hl : l < dW D) (hk : k < 4) : c (48 + l * 4 + k) = m (45 + 12 * k + l) := by
  obtain ⟨a0, a1, a2, a3⟩ := hC.2.2.2.2.1 l hl
  obtain ⟨b0, b1, b2, b3⟩ := hM.2.2.2.2.1 l hl
  rcases (by omega : k = 0 ∨ k = 1 ∨ k = 2 ∨ k = 3) with e | e | e | e <;> subst e
  · exact a0.trans b0.symm
  · exact a1.trans b1.symm
  · exact a2.trans b2.symm
  · exact a3.trans b3.symm
theorem p_lessonOf (ok : sj_ok G) (h : zA σ) (x y : Int32) : zPair G (zI2 σ) 11 me_X11_lessonOf 4 me_X12_lessonOf [.int x, .int y] (zcd 3 1 0) σ := by
  obtain ⟨D, T, v, hC, hM, hT⟩ := h.1
  have h9 := v.1
  have hM0 : repM D ((sj_st σ 56 0 (nI 0)) 57) := by rw [z_stn (by decide)]; exact hM
  rcases z_rg x (dN D) with ⟨l, hl, rfl⟩ | hx
  · rcases z_rg y 5 with ⟨k, hk, rfl⟩ | hy
    · have hm : sj_C G 4 me_X12_lessonOf [.ref (sj_ad G 56), .int (nI l), .int (nI k)] σ (.ok (σ 57 (9 * k + l)), (sj_st σ 56 0 (nI 0))) := by
        refine c_X12_lessonOf ok ⟨_, _, y_noLesson0 ok hM0 v zT00 hl, fun h => absurd nI_0 h, fun _ => ⟨_, _, y_inr1 ok (B := 4) hk (by decide), _, _, y_fails1 ok zT00, fun _ => ?_, fun h => absurd nI_0 h⟩⟩
        simp only [nI_add, pk_mul]
        refine ⟨z_in (by omega) (by decide), ?_⟩
        rw [nI_clamp (by omega), z_stn (by decide)]
      refine ⟨_, _, _, _, c_X11_lessonOf ok (Or.inl ⟨_, z_requireLesson0 ok hC v hl, Or.inl ⟨_, z_range0 ok hk (by decide), _, _, z_ofLesson ok (by omega) hk, rfl⟩⟩), hm, zSame_ok z_ste (z_five hC hM hl hk), zI2_th h⟩
    · have hm : sj_C G 4 me_X12_lessonOf [.ref (sj_ad G 56), .int (nI l), .int y] σ (.ok (nI 0), (sj_st (sj_st σ 56 0 (nI 0)) 56 0 (nI 2))) :=
        c_X12_lessonOf ok ⟨_, _, y_noLesson0 ok hM0 v zT00 hl, fun h => absurd nI_0 h, fun _ => ⟨_, _, y_inr0 ok (B := 4) hy (by decide), _, _, y_fails0 ok zT00 (by decide), fun h => absurd h (by decide), fun _ => rfl⟩⟩
      exact ⟨_, _, _, _, c_X11_lessonOf ok (Or.inl ⟨_, z_requireLesson0 ok hC v hl, Or.inr ⟨_, _, z_range1 ok hy (by decide) (by decide), rfl⟩⟩), hm, zSame_er (by decide) z_ste, zI2_th2 h⟩
  · have hm : sj_C G 4 me_X12_lessonOf [.ref (sj_ad G 56), .int x, .int y] σ (.ok (nI 0), (sj_st (sj_st σ 56 0 (nI 0)) 56 0 (nI 1))) :=
      c_X12_lessonOf ok ⟨_, _, y_noLesson1 ok hM0 v zT00 hx (by decide), fun _ => rfl, fun h => absurd h (by decide)⟩
    exact ⟨_, _, _, _, c_X11_lessonOf ok (Or.inr ⟨_, _, z_requireLesson1 ok hC v hx, rfl⟩), hm, zSame_er (by decide) z_ste, zI2_th2 h⟩
theorem p_wishOf (ok : sj_ok G) (h : zA σ) (x y : Int32) : zPair G (zI2 σ) 11 me_X11_wishOf 4 me_X12_wishOf [.int x, .int y] (zcd 3 1 0) σ := by
  obtain ⟨D, T, v, hC, hM, hT⟩ := h.1
  have h9 := v.2.1
  have hM0 : repM D ((sj_st σ 56 0 (nI 0)) 57) := by rw [z_stn (by decide)]; exact hM
  rcases z_rg x (dW D) with ⟨l, hl, rfl⟩ | hx
  · rcases z_rg y 4 with ⟨k, hk, rfl⟩ | hy
    · have hm : sj_C G 4 me_X12_wishOf [.ref (sj_ad G 56), .int (nI l), .int (nI k)] σ (.ok (σ 57 (45 + 12 * k + l)), (sj_st σ 56 0 (nI 0))) := by
        refine c_X12_wishOf ok ⟨_, _, y_noWish0 ok hM0 v zT00 hl, fun h => absurd nI_0 h, fun _ => ⟨_, _, y_inr1 ok (B := 3) hk (by decide), _, _, y_fails1 ok zT00, fun _ => ?_, fun h => absurd nI_0 h⟩⟩
        simp only [nI_add, pk_mul]
        refine ⟨z_in (by omega) (by decide), ?_⟩
        rw [nI_clamp (by omega), z_stn (by decide)]
      refine ⟨_, _, _, _, c_X11_wishOf ok (Or.inl ⟨_, z_requireWish0 ok hC v hl, Or.inl ⟨_, z_range0 ok hk (by decide), _, _, z_ofWish ok (by omega) hk, rfl⟩⟩), hm, zSame_ok z_ste (z_four hC hM hl hk), zI2_th h⟩
    · have hm : sj_C G 4 me_X12_wishOf [.ref (sj_ad G 56), .int (nI l), .int y] σ (.ok (nI 0), (sj_st (sj_st σ 56 0 (nI 0)) 56 0 (nI 2))) :=
        c_X12_wishOf ok ⟨_, _, y_noWish0 ok hM0 v zT00 hl, fun h => absurd nI_0 h, fun _ => ⟨_, _, y_inr0 ok (B := 3) hy (by decide), _, _, y_fails0 ok zT00 (by decide), fun h => absurd h (by decide), fun _ => rfl⟩⟩
      exact ⟨_, _, _, _, c_X11_wishOf ok (Or.inl ⟨_, z_requireWish0 ok hC v hl, Or.inr ⟨_, _, z_range1 ok hy (by decide) (by decide), rfl⟩⟩), hm, zSame_er (by decide) z_ste, zI2_th2 h⟩
  · have hm : sj_C G 4 me_X12_wishOf [.ref (sj_ad G 56), .int x, .int y] σ (.ok (nI 0), (sj_st (sj_st σ 56 0 (nI 0)) 56 0 (nI 1))) :=
      c_X12_wishOf ok ⟨_, _, y_noWish1 ok hM0 v zT00 hx, fun _ => rfl, fun h => absurd h (by decide)⟩
    exact ⟨_, _, _, _, c_X11_wishOf ok (Or.inr ⟨_, _, z_requireWish1 ok hC v hx, rfl⟩), hm, zSame_er (by decide) z_ste, zI2_th2 h⟩
theorem p_proof (ok : sj_ok G) (h : zA σ) : zPair G (zI2 σ) 2 me_X11_proof 2 me_X12_proof [] (zcd 0 0 0) σ :=
  ⟨_, _, _, _, c_X11_proof ok rfl, c_X12_proof ok rfl, zSame_ok z_ste h.2.2.1, zI2_th h⟩
theorem zT_of {D : zD} (v : okD D) (h : ¬ dT D = 1) : dT D = 0 := by
  have := v.2.2.1
  omega
theorem p_slotOf (ok : sj_ok G) (h : zA σ) (x : Int32) : zPair G (zI2 σ) 10 me_X11_slotOf 4 me_X12_slotOf [.int x] (zcd 3 2 0) σ := by
  obtain ⟨D, T, v, hC, hM, hT⟩ := h.1
  have h9 := v.1
  have hM0 : repM D ((sj_st σ 56 0 (nI 0)) 57) := by rw [z_stn (by decide)]; exact hM
  rcases z_rg x (dN D) with ⟨l, hl, rfl⟩ | hx
  · by_cases hq : dT D = 1
    · have hm : sj_C G 4 me_X12_slotOf [.ref (sj_ad G 56), .int (nI l)] σ (.ok (σ 57 (116 + l)), (sj_st σ 56 0 (nI 0))) := by
        refine c_X12_slotOf ok ⟨_, _, y_noLesson0 ok hM0 v zT00 hl, fun h => absurd nI_0 h, fun _ => ⟨_, _, y_noTable0 ok zT00 (hM0.2.2.1.trans (by rw [hq])), fun _ => ?_, ?_⟩⟩
        · rw [nI_add]
          exact z_in (by omega) (by decide)
        · unfold wp_X12_slotOf_35
          rw [if_pos nI_0, nI_add, nI_clamp (by omega), z_stn (by decide)]
      refine ⟨_, _, _, _, c_X11_slotOf ok (Or.inl ⟨_, z_requireLesson0 ok hC v hl, Or.inl ⟨_, z_requireTable0 ok (hC.2.2.1.trans (by rw [hq])), z_in (by omega) (by decide), rfl⟩⟩), hm, zSame_ok z_ste ?_, zI2_th h⟩
      obtain ⟨e1, e2, -⟩ := (hT hq).1 l hl
      rw [nI_clamp (by omega), e1, e2]
    · have hq := zT_of v hq
      have hm : sj_C G 4 me_X12_slotOf [.ref (sj_ad G 56), .int (nI l)] σ (.ok (nI 0), (sj_st (sj_st σ 56 0 (nI 0)) 56 0 (nI 2))) := by
        refine c_X12_slotOf ok ⟨_, _, y_noLesson0 ok hM0 v zT00 hl, fun h => absurd nI_0 h, fun _ => ⟨_, _, y_noTable1 ok zT00 (hM0.2.2.1.trans (by rw [hq])) (by decide), fun h => absurd h (by decide), ?_⟩⟩
        unfold wp_X12_slotOf_35
        rw [if_neg (by decide)]
      exact ⟨_, _, _, _, c_X11_slotOf ok (Or.inl ⟨_, z_requireLesson0 ok hC v hl, Or.inr ⟨_, _, z_requireTable1 ok (hC.2.2.1.trans (by rw [hq])), rfl⟩⟩), hm, zSame_er (by decide) z_ste, zI2_th2 h⟩
  · have hm : sj_C G 4 me_X12_slotOf [.ref (sj_ad G 56), .int x] σ (.ok (nI 0), (sj_st (sj_st σ 56 0 (nI 0)) 56 0 (nI 1))) :=
      c_X12_slotOf ok ⟨_, _, y_noLesson1 ok hM0 v zT00 hx (by decide), fun _ => rfl, fun h => absurd h (by decide)⟩
    exact ⟨_, _, _, _, c_X11_slotOf ok (Or.inr ⟨_, _, z_requireLesson1 ok hC v hx, rfl⟩), hm, zSame_er (by decide) z_ste, zI2_th2 h⟩
theorem p_proofAt (ok : sj_ok G) (h : zA σ) (x : Int32) : zPair G (zI2 σ) 9 me_X11_proofAt 3 me_X12_proofAt [.int x] (zcd 3 0 0) σ := by
  obtain ⟨e, hp⟩ := h.2.2
  have e7 : (sj_st σ 56 0 (nI 0)) 56 7 = σ 56 7 := z_sti (by decide)
  obtain ⟨q, hq, hx1, hx2⟩ : ∃ q, q ≤ 12 ∧ ((∀ j, j < q → σ 32 j = σ 62 j) ∧ (∀ j, j < q → x = nI j → x < σ 30 3 ∧ sj_C G 2 me_X12_in [.int x, .int (nI 0), .int (σ 56 7 - nI 1)] (sj_st σ 56 0 (nI 0)) (.ok (nI 1), (sj_st σ 56 0 (nI 0))))) ∧ ((∀ j, j < q → ¬ x = nI j) → (x < 0 ∨ ¬ x < σ 30 3) ∧ sj_C G 2 me_X12_in [.int x, .int (nI 0), .int (σ 56 7 - nI 1)] (sj_st σ 56 0 (nI 0)) (.ok (nI 0), (sj_st σ 56 0 (nI 0)))) := by
    rcases hp with hp | ⟨q, hq, hp, hr⟩
    · refine ⟨0, by omega, ⟨fun j hj => absurd hj (by omega), fun j hj => absurd hj (by omega)⟩, fun _ => ?_⟩
      rw [e, hp]
      have hc : x < 0 ∨ ¬ x < -1 := by
        rw [Int32.lt_iff_toInt_lt, Int32.lt_iff_toInt_lt, Int32.toInt_zero, show (-1 : Int32).toInt = -1 by decide]
        omega
      refine ⟨hc, y_in0 ok ?_⟩
      rw [nI_0, Int32.lt_iff_toInt_lt, Int32.lt_iff_toInt_lt, Int32.toInt_zero, show (-1 - nI 1 : Int32).toInt = -2 by decide]
      omega
    · rw [e, hp]
      refine ⟨q, hq, ⟨hr, fun j hj ex => ?_⟩, fun hx => ⟨?_, y_inn0 ok hx (by omega)⟩⟩
      · rw [ex]
        exact ⟨nI_lt hj (by omega), y_inn1 ok hj (by omega)⟩
      · by_cases h0 : x < 0
        · exact Or.inl h0
        · right
          obtain ⟨j, hj, ex⟩ := nI_of h0
          rw [ex]
          have : ¬ j < q := fun r => hx j r ex
          exact nI_nlt (by omega) hj
  rcases z_rg x q with ⟨j, hj, rfl⟩ | hx
  · obtain ⟨g1, g2⟩ := hx1.2 j hj rfl
    have hm : sj_C G 3 me_X12_proofAt [.ref (sj_ad G 56), .int (nI j)] σ (.ok (σ 62 j), (sj_st σ 56 0 (nI 0))) := by
      refine c_X12_proofAt ok ⟨_, _, g2, _, _, y_fails1 ok zT00, fun _ => z_in (by omega) (by decide), ?_⟩
      unfold wp_X12_proofAt_34
      rw [if_pos nI_0, nI_clamp (by omega), z_stn (by decide)]
    refine ⟨_, _, _, _, c_X11_proofAt ok ⟨fun h => absurd h (nI_pos (by omega)), fun _ => ⟨fun _ => ⟨z_in (by omega) (by decide), rfl⟩, fun h => absurd g1 h⟩⟩, hm, zSame_ok z_ste ?_, zI2_th h⟩
    rw [nI_clamp (by omega)]
    exact hx1.1 j hj
  · obtain ⟨g1, g2⟩ := hx2 hx
    have hm : sj_C G 3 me_X12_proofAt [.ref (sj_ad G 56), .int x] σ (.ok (nI 0), (sj_st (sj_st σ 56 0 (nI 0)) 56 0 (nI 1))) := by
      refine c_X12_proofAt ok ⟨_, _, g2, _, _, y_fails0 ok zT00 (by decide), fun h => absurd h (by decide), ?_⟩
      unfold wp_X12_proofAt_34
      rw [if_neg (by decide)]
    have hc : sj_C G 9 me_X11_proofAt [.ref (sj_ad G 0), .int x] σ (.error 3, σ) := by
      refine c_X11_proofAt ok ⟨fun _ => rfl, fun h => ⟨fun h2 => ?_, fun _ => rfl⟩⟩
      rcases g1 with g | g
      · exact absurd g h
      · exact absurd h2 g
    exact ⟨_, _, _, _, hc, hm, zSame_er (by decide) z_ste, zI2_th2 h⟩
end ZP1
