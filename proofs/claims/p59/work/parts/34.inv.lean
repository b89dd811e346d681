/-! INVARIANT: a right table; school, history, proof: the class's and the reference's -/
def zMeet (D : zD) (T : Nat → Nat) (l o : Nat) : Bool := zTk D T l (T o) || (decide (dDb D o = 1) && zTk D T l (T o + 1))
def zRtH (D : zD) (H : Nat → Bool) (T : Nat → Nat) : Prop :=
  (∀ l, l < dN D → T l < 20 ∧ ¬ (dDb D l = 1 ∧ T l % 4 = 3)) ∧
  (∀ l o, l < dN D → o < l → (dG D l = dG D o ∨ dTe D l = dTe D o) → zMeet D T l o = false) ∧
  (∀ l o, l < dN D → o < l → dG D l = dG D o → dSu D l = dSu D o → T l / 4 ≠ T o / 4) ∧
  (∀ w, w < dW D → H w = true → zFul D T w = true) ∧
  (∀ l i, l < dN D → dKi D l ≠ 0 → zTk D T l i = true → q_cnt (fun o => decide (dKi D o = dKi D l) && zTk D T o i) (dN D) ≤ dRo D (dKi D l - 1))
def zHd (D : zD) (w : Nat) : Bool := decide (dWe D w = 0)
def zSR (c tb m : Nat → Int32) : Prop := ∃ D T, okD D ∧ repC D c ∧ repM D m ∧ (dT D = 1 → (∀ l, l < dN D → tb l = nI (T l) ∧ m (116 + l) = nI (T l) ∧ T l < 20) ∧ zRtH D (zHd D) T)
theorem zSR_congr {c tb m c' tb' m' : Nat → Int32} (h : zSR c tb m) (hc : ∀ i, i < 119 → c' i = c i) (ht : ∀ i, i < 9 → tb' i = tb i) (hm : ∀ i, i < 128 → m' i = m i) : zSR c' tb' m' := by
  obtain ⟨D, T, v, hC, hM, hT⟩ := h
  have h9 := v.1
  have h12 := v.2.1
  refine ⟨D, T, v, ⟨(hc _ (by omega)).trans hC.1, (hc _ (by omega)).trans hC.2.1, (hc _ (by omega)).trans hC.2.2.1, fun l hl => ?_, fun w hw => ?_, fun t h => ?_, fun k h => ?_, fun e h => ?_⟩, ⟨(hm _ (by omega)).trans hM.1, (hm _ (by omega)).trans hM.2.1, (hm _ (by omega)).trans hM.2.2.1, fun l hl => ?_, fun w hw => ?_, fun t h => ?_, fun k h => ?_, fun e h => ?_⟩, fun h => ⟨fun l hl => ?_, (hT h).2⟩⟩
  · obtain ⟨a1, a2, a3, a4, a5⟩ := hC.2.2.2.1 l hl
    exact ⟨(hc _ (by omega)).trans a1, (hc _ (by omega)).trans a2, (hc _ (by omega)).trans a3, (hc _ (by omega)).trans a4, (hc _ (by omega)).trans a5⟩
  · obtain ⟨a1, a2, a3, a4⟩ := hC.2.2.2.2.1 w hw
    exact ⟨(hc _ (by omega)).trans a1, (hc _ (by omega)).trans a2, (hc _ (by omega)).trans a3, (hc _ (by omega)).trans a4⟩
  · obtain ⟨a1, a2⟩ := hC.2.2.2.2.2.1 t h
    exact ⟨(hc _ (by omega)).trans a1, (hc _ (by omega)).trans a2⟩
  · exact (hc _ (by omega)).trans (hC.2.2.2.2.2.2.1 k h)
  · exact (hc _ (by omega)).trans (hC.2.2.2.2.2.2.2 e h)
  · obtain ⟨a1, a2, a3, a4, a5⟩ := hM.2.2.2.1 l hl
    exact ⟨(hm _ (by omega)).trans a1, (hm _ (by omega)).trans a2, (hm _ (by omega)).trans a3, (hm _ (by omega)).trans a4, (hm _ (by omega)).trans a5⟩
  · obtain ⟨a1, a2, a3, a4⟩ := hM.2.2.2.2.1 w hw
    exact ⟨(hm _ (by omega)).trans a1, (hm _ (by omega)).trans a2, (hm _ (by omega)).trans a3, (hm _ (by omega)).trans a4⟩
  · obtain ⟨a1, a2⟩ := hM.2.2.2.2.2.1 t h
    exact ⟨(hm _ (by omega)).trans a1, (hm _ (by omega)).trans a2⟩
  · exact (hm _ (by omega)).trans (hM.2.2.2.2.2.2.1 k h)
  · exact (hm _ (by omega)).trans (hM.2.2.2.2.2.2.2 e h)
  · obtain ⟨a1, a2, a3⟩ := (hT h).1 l hl
    exact ⟨(ht _ (by omega)).trans a1, (hm _ (by omega)).trans a2, a3⟩
/-! ### the history -/
def zHR (f4 f5 : Nat → Int32) (c3 : Int32) (f58 : Nat → Int32) : Prop := ∃ nx t, nx < 20 ∧ t ≤ 20 ∧ f4 1 = nI nx ∧ f4 2 = nI t ∧ c3 = nI t ∧
  ∀ j, j < t → zSR (fun i => f5 ((nx + 19 - j) % 20 * 128 + i)) (fun i => f5 ((nx + 19 - j) % 20 * 128 + 119 + i)) (fun i => f58 (128 * (t - 1 - j) + i))
theorem zH_keep {f5 f58 f58' c tb m : Nat → Int32} {nx t : Nat} (hnx : nx < 20) (ht : t ≤ 20)
    (hs : ∀ j, j < t → zSR (fun i => f5 ((nx + 19 - j) % 20 * 128 + i)) (fun i => f5 ((nx + 19 - j) % 20 * 128 + 119 + i)) (fun i => f58 (128 * (t - 1 - j) + i)))
    (hn : zSR c tb m)
    (hk : ∀ u i, i < 128 → u < (if 20 < t + 1 then 20 else t + 1) → f58' (128 * u + i) = if u + 1 = (if 20 < t + 1 then 20 else t + 1) then m i else if t = 20 then f58 (128 * (u + 1) + i) else f58 (128 * u + i))
    {f4' f5' : Nat → Int32} {c3' : Int32} (e5 : f5' = va_cpy tb (va_cpy c f5 0 (nx * 128) 119) 0 (nx * 128 + 119) 9) (e1 : f4' 1 = nI ((nx + 1) % 20)) (e2 : f4' 2 = nI (if 20 < t + 1 then 20 else t + 1)) (e3 : c3' = nI (if 20 < t + 1 then 20 else t + 1)) :
    zHR f4' f5' c3' f58' := by
  refine ⟨(nx + 1) % 20, if 20 < t + 1 then 20 else t + 1, by omega, by split <;> omega, e1, e2, e3, ?_⟩
  intro j hj
  subst e5
  have hj20 : j < 20 := by
    have : (if 20 < t + 1 then 20 else t + 1) ≤ 20 := by split <;> omega
    omega
  by_cases h0 : j = 0
  · subst h0
    have ei : ((nx + 1) % 20 + 19 - 0) % 20 = nx := by omega
    refine zSR_congr hn (fun i hi => ?_) (fun i hi => ?_) (fun i hi => ?_)
    · show va_cpy tb (va_cpy c f5 0 (nx * 128) 119) 0 (nx * 128 + 119) 9 (((nx + 1) % 20 + 19 - 0) % 20 * 128 + i) = c i
      rw [ei]
      unfold va_cpy
      rw [if_neg (by omega), if_pos (by omega)]
      congr 1
      omega
    · show va_cpy tb (va_cpy c f5 0 (nx * 128) 119) 0 (nx * 128 + 119) 9 (((nx + 1) % 20 + 19 - 0) % 20 * 128 + 119 + i) = tb i
      rw [ei]
      unfold va_cpy
      rw [if_pos (by omega)]
      congr 1
      omega
    · show f58' (128 * ((if 20 < t + 1 then 20 else t + 1) - 1 - 0) + i) = m i
      rw [hk _ i hi (by split <;> omega), if_pos (by split <;> omega)]
  · have es : ((nx + 1) % 20 + 19 - j) % 20 = (nx + 19 - (j - 1)) % 20 := by omega
    have en : (nx + 19 - (j - 1)) % 20 ≠ nx := by omega
    have hjt : j - 1 < t := by
      split at hj <;> omega
    have hfar : ∀ i, i < 128 → va_cpy tb (va_cpy c f5 0 (nx * 128) 119) 0 (nx * 128 + 119) 9 ((nx + 19 - (j - 1)) % 20 * 128 + i) = f5 ((nx + 19 - (j - 1)) % 20 * 128 + i) := by
      intro i hi
      generalize hq : (nx + 19 - (j - 1)) % 20 = q at en
      unfold va_cpy
      rw [if_neg (by omega), if_neg (by omega)]
    refine zSR_congr (hs (j - 1) hjt) (fun i hi => ?_) (fun i hi => ?_) (fun i hi => ?_)
    · show va_cpy tb (va_cpy c f5 0 (nx * 128) 119) 0 (nx * 128 + 119) 9 (((nx + 1) % 20 + 19 - j) % 20 * 128 + i) = f5 ((nx + 19 - (j - 1)) % 20 * 128 + i)
      rw [es, hfar i (by omega)]
    · show va_cpy tb (va_cpy c f5 0 (nx * 128) 119) 0 (nx * 128 + 119) 9 (((nx + 1) % 20 + 19 - j) % 20 * 128 + 119 + i) = f5 ((nx + 19 - (j - 1)) % 20 * 128 + 119 + i)
      rw [es, Nat.add_assoc, hfar (119 + i) (by omega), ← Nat.add_assoc]
    · show f58' (128 * ((if 20 < t + 1 then 20 else t + 1) - 1 - j) + i) = f58 (128 * (t - 1 - (j - 1)) + i)
      by_cases h20 : t = 20
      · subst h20
        have e : (if 20 < 20 + 1 then 20 else 20 + 1) = 20 := by decide
        rw [e] at hk hj ⊢
        rw [hk _ i hi (by omega), if_neg (by omega), if_pos rfl]
        congr 1
        omega
      · have e : (if 20 < t + 1 then 20 else t + 1) = t + 1 := if_neg (by omega)
        rw [e] at hk ⊢
        rw [hk _ i hi (by omega), if_neg (by omega), if_neg h20]
        congr 1
        omega
/-! ### the proof that find showed -/
def zPR (a : Int32) (f32 : Nat → Int32) (b : Int32) (f62 : Nat → Int32) : Prop := a = b ∧ (b = -1 ∨ ∃ q, q ≤ 12 ∧ b = nI q ∧ ∀ i, i < q → f32 i = f62 i)
def zA (σ : sj_S) : Prop := zSR (σ 2) (σ 3) (σ 57) ∧ zHR (σ 4) (σ 5) (σ 56 3) (σ 58) ∧ zPR (σ 30 3) (σ 32) (σ 56 7) (σ 62)
def zRest (σ σ' : sj_S) : Prop := (∀ b, b ∈ [33, 46, 47, 48, 49, 50, 51, 52, 54, 55, 70, 71, 72, 73, 74, 75, 76] → σ' b = σ b) ∧ (∀ k, k ∈ [21, 22, 26, 27, 29] → σ' 56 k = σ 56 k) ∧ σ' 30 7 = σ 30 7
def zPair (G : sj_G) (I : sj_S → Prop) (dc : Nat) (Mc : sj_M) (dm : Nat) (Mm : sj_M) (as : List Value) (cd : Nat → Nat) (σ : sj_S) : Prop :=
  ∃ Rc σ1 rm σ2, sj_C G dc Mc (.ref (sj_ad G 0) :: as) σ (Rc, σ1) ∧ sj_C G dm Mm (.ref (sj_ad G 56) :: as) σ1 (.ok rm, σ2) ∧ zSame cd Rc (σ2 56 0) rm ∧ I σ2
def zcd (a b c k : Nat) : Nat := if k = a then 1 else if k = b then 2 else if k = c then 3 else 0
section ZIN
variable {G : sj_G} {σ : sj_S}
def zBeg (σ : sj_S) (k t : Nat) : sj_S := sj_st (zKeep σ k t) 30 3 (-1)
theorem z_begin (ok : sj_ok G) {k t : Nat} (hk : k < 20) (ht : t ≤ 20) (h1 : σ 4 1 = nI k) (h2 : σ 4 2 = nI t) : sj_C G 3 me_X11_beginChange [.ref (sj_ad G 0)] σ (.ok 0, zBeg σ k t) :=
  c_X11_beginChange ok ⟨_, z_keep ok hk ht h1 h2, _, c_X4_forget ok rfl, rfl⟩
theorem zBeg_n {k t b : Nat} (h4 : b ≠ 4) (h5 : b ≠ 5) (h30 : b ≠ 30) : zBeg σ k t b = σ b := by
  unfold zBeg zKeep
  rw [z_stn h30, z_stn h4, z_stn h4, z_upn h5, z_upn h5]
theorem zBeg_30 {k t i : Nat} (h : i ≠ 3) : zBeg σ k t 30 i = σ 30 i := by
  unfold zBeg zKeep
  rw [z_sti h, z_stn (by decide), z_stn (by decide), z_upn (by decide), z_upn (by decide)]
theorem zBeg_p {k t : Nat} : zBeg σ k t 30 3 = -1 := z_ste
theorem zBeg_1 {k t : Nat} : zBeg σ k t 4 1 = nI ((k + 1) % 20) := by
  unfold zBeg zKeep
  rw [z_stn (by decide), z_sti (by decide), z_ste]
theorem zBeg_2 {k t : Nat} : zBeg σ k t 4 2 = nI (if 20 < t + 1 then 20 else t + 1) := by
  unfold zBeg zKeep
  rw [z_stn (by decide), z_ste]
theorem zBeg_5 {k t : Nat} : zBeg σ k t 5 = va_cpy (σ 3) (va_cpy (σ 2) (σ 5) 0 (k * 128) 119) 0 (k * 128 + 119) 9 := by
  unfold zBeg zKeep
  rw [z_stn (by decide), z_stn (by decide), z_stn (by decide), sj_up_s]
end ZIN
/-! PAIRS 1: lessons, wishes, lessonOf, wishOf, proof, proofAt, slotOf, setRooms -/
theorem zSame_ok {cd : Nat → Nat} {th rm v : Int32} (h1 : th = nI 0) (h2 : v = rm) : zSame cd (.ok v) th rm := And.intro h1 h2
theorem zSame_er {cd : Nat → Nat} {th rm : Int32} {k : Nat} (h1 : 0 < k ∧ 0 < cd k) (h2 : th = nI (cd k)) : zSame cd (.error k) th rm := And.intro h1 h2
theorem zne {l : List Nat} {a b : Nat} (h : a ∉ l) (hb : b ∈ l) : b ≠ a := fun e => h (e ▸ hb)
def zI2 (σ σ' : sj_S) : Prop := zA σ' ∧ zRest σ σ'
section ZP1
variable {G : sj_G} {σ : sj_S} {D : zD} {T : Nat → Nat}
theorem zT00 : (sj_st σ 56 0 (nI 0)) 56 0 = 0 := by rw [z_ste]; exact nI_0
theorem zA_of {σ' : sj_S} (h : zA σ) (hb : ∀ b, b ∈ [2, 3, 4, 5, 32, 57, 58, 62] → σ' b = σ b) (h3 : σ' 56 3 = σ 56 3) (h7 : σ' 56 7 = σ 56 7) (hp : σ' 30 3 = σ 30 3) : zA σ' := by
  unfold zA at h ⊢
  rw [hb 2 (by decide), hb 3 (by decide), hb 4 (by decide), hb 5 (by decide), hb 32 (by decide), hb 57 (by decide), hb 58 (by decide), hb 62 (by decide), h3, h7, hp]
  exact h
theorem zI2_th {c : Int32} (h : zA σ) : zI2 σ (sj_st σ 56 0 c) :=
  ⟨zA_of h (fun b hb => z_stn (zne (by decide) hb)) (z_sti (by decide)) (z_sti (by decide)) (by rw [z_stn (by decide)]), fun b hb => z_stn (zne (by decide) hb), fun k hk => z_sti (zne (by decide) hk), by rw [z_stn (by decide)]⟩
theorem zI2_th2 {c e : Int32} (h : zA σ) : zI2 σ (sj_st (sj_st σ 56 0 c) 56 0 e) := by
  obtain ⟨h1, h2, h3, h4⟩ := zI2_th (c := c) h
  obtain ⟨g1, g2, g3, g4⟩ := zI2_th (c := e) h1
  exact ⟨g1, fun b hb => (g2 b hb).trans (h2 b hb), fun k hk => (g3 k hk).trans (h3 k hk), g4.trans h4⟩
theorem z_ltm {j : Nat} (h : j < 2 ^ 31) : (nI 0 - nI 1) < nI j := by
  rw [Int32.lt_iff_toInt_lt, nI_toInt h, show (nI 0 - nI 1).toInt = -1 by decide]
  omega
theorem z_five {D : zD} {c m : Nat → Int32} (hC : repC D c) (hM : repM D m) {l k : Nat} (hl : l < dN D) (hk : k < 5) : c (3 + l * 5 + k) = m (9 * k + l) := by
  obtain ⟨a0, a1, a2, a3, a4⟩ := hC.2.2.2.1 l hl
  obtain ⟨b0, b1, b2, b3, b4⟩ := hM.2.2.2.1 l hl
  rcases (by omega : k = 0 ∨ k = 1 ∨ k = 2 ∨ k = 3 ∨ k = 4) with e | e | e | e | e <;> subst e
  · exact a0.trans b0.symm
  · exact a1.trans b1.symm
  · exact a2.trans b2.symm
  · exact a3.trans b3.symm
  · exact a4.trans b4.symm
theorem z_four {D : zD} {c m : Nat → Int32} (hC : repC D c) (hM : repM D m) {l k : Nat} (hl : l < dW D) (hk : k < 4) : c (48 + l * 4 + k) = m (45 + 12 * k + l) := by
  obtain ⟨a0, a1, a2, a3⟩ := hC.2.2.2.2.1 l hl
  obtain ⟨b0, b1, b2, b3⟩ := hM.2.2.2.2.1 l hl
  rcases (by omega : k = 0 ∨ k = 1 ∨ k = 2 ∨ k = 3) with e | e | e | e <;> subst e
  · exact a0.trans b0.symm
  · exact a1.trans b1.symm
  · exact a2.trans b2.symm
  · exact a3.trans b3.symm
theorem zT_of {D : zD} (v : okD D) (h : ¬ dT D = 1) : dT D = 0 := by
  have := v.2.2.1
  omega
end ZP1
