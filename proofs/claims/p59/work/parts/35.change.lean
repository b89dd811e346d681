/-! PAIRS 2: what changes the school: updates of D; setRooms, setIll, undo -/
def zUp (D : zD) (f i v : Nat) : zD := fun f' i' => if f' = f then (if i' = i then v else D f' i') else D f' i'
def zNoT (D : zD) : zD := zUp D 2 0 0
section ZRC
variable {D : zD} {c c' : Nat → Int32}
theorem rC_L {q : Prop} (v : dN D ≤ 9 ∧ dW D ≤ 12 ∧ q) (hC : repC D c) (h : ∀ i, 3 ≤ i → i < 48 → c' i = c i) : ∀ l, l < dN D → c' (3 + l * 5 + 0) = nI (dG D l) ∧ c' (3 + l * 5 + 1) = nI (dTe D l) ∧ c' (3 + l * 5 + 2) = nI (dSu D l) ∧ c' (3 + l * 5 + 3) = zk (dKi D l) ∧ c' (3 + l * 5 + 4) = nI (dDb D l) := by
  have h9 := v.1
  intro l hl
  obtain ⟨a1, a2, a3, a4, a5⟩ := hC.2.2.2.1 l hl
  exact ⟨(h _ (by omega) (by omega)).trans a1, (h _ (by omega) (by omega)).trans a2, (h _ (by omega) (by omega)).trans a3, (h _ (by omega) (by omega)).trans a4, (h _ (by omega) (by omega)).trans a5⟩
theorem rC_W {q : Prop} (v : dN D ≤ 9 ∧ dW D ≤ 12 ∧ q) (hC : repC D c) (h : ∀ i, 48 ≤ i → i < 96 → c' i = c i) : ∀ w, w < dW D → c' (48 + w * 4 + 0) = nI (dSo D w) ∧ c' (48 + w * 4 + 1) = nI (dA D w) ∧ c' (48 + w * 4 + 2) = nI (dB D w) ∧ c' (48 + w * 4 + 3) = nI (dWe D w) := by
  have h9 := v.2.1
  intro w hw
  obtain ⟨a1, a2, a3, a4⟩ := hC.2.2.2.2.1 w hw
  exact ⟨(h _ (by omega) (by omega)).trans a1, (h _ (by omega) (by omega)).trans a2, (h _ (by omega) (by omega)).trans a3, (h _ (by omega) (by omega)).trans a4⟩
theorem rC_T (hC : repC D c) (h : ∀ i, 96 ≤ i → i < 102 → c' i = c i) (h2 : ∀ i, 105 ≤ i → i < 111 → c' i = c i) : ∀ t, t < 6 → c' (96 + t) = nI (dTch D t) ∧ c' (105 + t) = nI (dIll D t) := by
  intro t ht
  obtain ⟨a1, a2⟩ := hC.2.2.2.2.2.1 t ht
  exact ⟨(h _ (by omega) (by omega)).trans a1, (h2 _ (by omega) (by omega)).trans a2⟩
theorem rC_R (hC : repC D c) (h : ∀ i, 102 ≤ i → i < 105 → c' i = c i) : ∀ k, k < 3 → c' (102 + k) = nI (dRo D k) :=
  fun k hk => (h _ (by omega) (by omega)).trans (hC.2.2.2.2.2.2.1 k hk)
theorem rC_A (hC : repC D c) (h : ∀ i, 111 ≤ i → i < 119 → c' i = c i) : ∀ e, e < 8 → c' (111 + e) = nI (dAp D e) :=
  fun e he => (h _ (by omega) (by omega)).trans (hC.2.2.2.2.2.2.2 e he)
theorem rM_L {q : Prop} (v : dN D ≤ 9 ∧ dW D ≤ 12 ∧ q) (hC : repM D c) (h : ∀ i, i < 45 → c' i = c i) : ∀ l, l < dN D → c' (0 + l) = nI (dG D l) ∧ c' (9 + l) = nI (dTe D l) ∧ c' (18 + l) = nI (dSu D l) ∧ c' (27 + l) = zk (dKi D l) ∧ c' (36 + l) = nI (dDb D l) := by
  have h9 := v.1
  intro l hl
  obtain ⟨a1, a2, a3, a4, a5⟩ := hC.2.2.2.1 l hl
  exact ⟨(h _ (by omega)).trans a1, (h _ (by omega)).trans a2, (h _ (by omega)).trans a3, (h _ (by omega)).trans a4, (h _ (by omega)).trans a5⟩
theorem rM_W {q : Prop} (v : dN D ≤ 9 ∧ dW D ≤ 12 ∧ q) (hC : repM D c) (h : ∀ i, 45 ≤ i → i < 93 → c' i = c i) : ∀ w, w < dW D → c' (45 + w) = nI (dSo D w) ∧ c' (57 + w) = nI (dA D w) ∧ c' (69 + w) = nI (dB D w) ∧ c' (81 + w) = nI (dWe D w) := by
  have h9 := v.2.1
  intro w hw
  obtain ⟨a1, a2, a3, a4⟩ := hC.2.2.2.2.1 w hw
  exact ⟨(h _ (by omega) (by omega)).trans a1, (h _ (by omega) (by omega)).trans a2, (h _ (by omega) (by omega)).trans a3, (h _ (by omega) (by omega)).trans a4⟩
theorem rM_T (hC : repM D c) (h : ∀ i, 93 ≤ i → i < 99 → c' i = c i) (h2 : ∀ i, 102 ≤ i → i < 108 → c' i = c i) : ∀ t, t < 6 → c' (93 + t) = nI (dTch D t) ∧ c' (102 + t) = nI (dIll D t) := by
  intro t ht
  obtain ⟨a1, a2⟩ := hC.2.2.2.2.2.1 t ht
  exact ⟨(h _ (by omega) (by omega)).trans a1, (h2 _ (by omega) (by omega)).trans a2⟩
theorem rM_R (hC : repM D c) (h : ∀ i, 99 ≤ i → i < 102 → c' i = c i) : ∀ k, k < 3 → c' (99 + k) = nI (dRo D k) :=
  fun k hk => (h _ (by omega) (by omega)).trans (hC.2.2.2.2.2.2.1 k hk)
theorem rM_A (hC : repM D c) (h : ∀ i, 108 ≤ i → i < 116 → c' i = c i) : ∀ e, e < 8 → c' (108 + e) = nI (dAp D e) :=
  fun e he => (h _ (by omega) (by omega)).trans (hC.2.2.2.2.2.2.2 e he)
theorem okD_noT (v : okD D) : okD (zNoT D) := ⟨v.1, v.2.1, Nat.zero_le 1, v.2.2.2.1, v.2.2.2.2.1, v.2.2.2.2.2.1, v.2.2.2.2.2.2.1, v.2.2.2.2.2.2.2⟩
theorem repC_noT (v : okD D) (hC : repC D c) : repC (zNoT D) (upd c 2 (nI 0)) :=
  ⟨(z_un (by decide)).trans hC.1, (z_un (by decide)).trans hC.2.1, z_ue, rC_L (D := D) v hC (fun i _ _ => z_un (by omega)), rC_W (D := D) v hC (fun i _ _ => z_un (by omega)), rC_T (D := D) hC (fun i _ _ => z_un (by omega)) (fun i _ _ => z_un (by omega)), rC_R (D := D) hC (fun i _ _ => z_un (by omega)), rC_A (D := D) hC (fun i _ _ => z_un (by omega))⟩
theorem repM_noT (v : okD D) (hC : repM D c) : repM (zNoT D) (upd c 127 (nI 0)) :=
  ⟨(z_un (by decide)).trans hC.1, (z_un (by decide)).trans hC.2.1, z_ue, rM_L (D := D) v hC (fun i _ => z_un (by omega)), rM_W (D := D) v hC (fun i _ _ => z_un (by omega)), rM_T (D := D) hC (fun i _ _ => z_un (by omega)) (fun i _ _ => z_un (by omega)), rM_R (D := D) hC (fun i _ _ => z_un (by omega)), rM_A (D := D) hC (fun i _ _ => z_un (by omega))⟩
theorem okD_13 {k r : Nat} (v : okD D) (hr : r ≤ 3) : okD (zUp D 13 k r) := by
  refine ⟨v.1, v.2.1, v.2.2.1, v.2.2.2.1, v.2.2.2.2.1, v.2.2.2.2.2.1, fun k' h => ?_, v.2.2.2.2.2.2.2⟩
  show (if k' = k then r else D 13 k') ≤ 3
  split
  · exact hr
  · exact v.2.2.2.2.2.2.1 k' h
theorem repC_13 {k r : Nat} (v : okD D) (hC : repC D c) (hk : k < 3) : repC (zUp D 13 k r) (upd c (102 + k) (nI r)) := by
  refine ⟨(z_un (by omega)).trans hC.1, (z_un (by omega)).trans hC.2.1, (z_un (by omega)).trans hC.2.2.1, rC_L (D := D) v hC (fun i _ _ => z_un (by omega)), rC_W (D := D) v hC (fun i _ _ => z_un (by omega)), rC_T (D := D) hC (fun i _ _ => z_un (by omega)) (fun i _ _ => z_un (by omega)), fun k' h => ?_, rC_A (D := D) hC (fun i _ _ => z_un (by omega))⟩
  show upd c (102 + k) (nI r) (102 + k') = nI (if k' = k then r else D 13 k')
  by_cases e : k' = k
  · subst e; rw [z_ue, if_pos rfl]
  · rw [z_un (by omega), if_neg e]; exact hC.2.2.2.2.2.2.1 k' h
theorem repM_13 {k r : Nat} (v : okD D) (hC : repM D c) (hk : k < 3) : repM (zUp D 13 k r) (upd c (99 + k) (nI r)) := by
  refine ⟨(z_un (by omega)).trans hC.1, (z_un (by omega)).trans hC.2.1, (z_un (by omega)).trans hC.2.2.1, rM_L (D := D) v hC (fun i _ => z_un (by omega)), rM_W (D := D) v hC (fun i _ _ => z_un (by omega)), rM_T (D := D) hC (fun i _ _ => z_un (by omega)) (fun i _ _ => z_un (by omega)), fun k' h => ?_, rM_A (D := D) hC (fun i _ _ => z_un (by omega))⟩
  show upd c (99 + k) (nI r) (99 + k') = nI (if k' = k then r else D 13 k')
  by_cases e : k' = k
  · subst e; rw [z_ue, if_pos rfl]
  · rw [z_un (by omega), if_neg e]; exact hC.2.2.2.2.2.2.1 k' h
theorem okD_14 {k r : Nat} (v : okD D) (hr : r < 32) : okD (zUp D 14 k r) := by
  refine ⟨v.1, v.2.1, v.2.2.1, v.2.2.2.1, v.2.2.2.2.1, fun t h => ⟨(v.2.2.2.2.2.1 t h).1, ?_⟩, v.2.2.2.2.2.2.1, v.2.2.2.2.2.2.2⟩
  show (if t = k then r else D 14 t) < 32
  split
  · exact hr
  · exact (v.2.2.2.2.2.1 t h).2
theorem repC_14 {k r : Nat} (v : okD D) (hC : repC D c) (hk : k < 6) : repC (zUp D 14 k r) (upd c (105 + k) (nI r)) := by
  refine ⟨(z_un (by omega)).trans hC.1, (z_un (by omega)).trans hC.2.1, (z_un (by omega)).trans hC.2.2.1, rC_L (D := D) v hC (fun i _ _ => z_un (by omega)), rC_W (D := D) v hC (fun i _ _ => z_un (by omega)), fun t h => ⟨(z_un (by omega)).trans (hC.2.2.2.2.2.1 t h).1, ?_⟩, rC_R (D := D) hC (fun i _ _ => z_un (by omega)), rC_A (D := D) hC (fun i _ _ => z_un (by omega))⟩
  show upd c (105 + k) (nI r) (105 + t) = nI (if t = k then r else D 14 t)
  by_cases e : t = k
  · subst e; rw [z_ue, if_pos rfl]
  · rw [z_un (by omega), if_neg e]; exact (hC.2.2.2.2.2.1 t h).2
theorem repM_14 {k r : Nat} (v : okD D) (hC : repM D c) (hk : k < 6) : repM (zUp D 14 k r) (upd c (102 + k) (nI r)) := by
  refine ⟨(z_un (by omega)).trans hC.1, (z_un (by omega)).trans hC.2.1, (z_un (by omega)).trans hC.2.2.1, rM_L (D := D) v hC (fun i _ => z_un (by omega)), rM_W (D := D) v hC (fun i _ _ => z_un (by omega)), fun t h => ⟨(z_un (by omega)).trans (hC.2.2.2.2.2.1 t h).1, ?_⟩, rM_R (D := D) hC (fun i _ _ => z_un (by omega)), rM_A (D := D) hC (fun i _ _ => z_un (by omega))⟩
  show upd c (102 + k) (nI r) (102 + t) = nI (if t = k then r else D 14 t)
  by_cases e : t = k
  · subst e; rw [z_ue, if_pos rfl]
  · rw [z_un (by omega), if_neg e]; exact (hC.2.2.2.2.2.1 t h).2
theorem zAny_congr {D' : zD} {b p i : Nat} {T : Nat → Nat} (h : ∀ f j, f < 14 → D' f j = D f j) : ∀ n, zAny D' b p T i n = zAny D b p T i n := by
  intro n
  induction n with
  | zero => rfl
  | succ n ih =>
    have e1 : dP D' b n = dP D b n := by
      unfold dP
      rw [show dTe D' n = dTe D n from h 4 n (by decide), show dG D' n = dG D n from h 3 n (by decide)]
    have e2 : zTk D' T n i = zTk D T n i := by
      unfold zTk
      rw [show dDb D' n = dDb D n from h 7 n (by decide)]
    show (zAny D' b p T i n || (decide (dP D' b n = p) && zTk D' T n i)) = (zAny D b p T i n || (decide (dP D b n = p) && zTk D T n i))
    rw [ih, e1, e2]
theorem zRtH_congr {D' : zD} {H : Nat → Bool} {T : Nat → Nat} (h : ∀ f j, f < 14 → D' f j = D f j) (r : zRtH D H T) : zRtH D' H T := by
  have eN : dN D' = dN D := h 0 0 (by decide)
  have eW : dW D' = dW D := h 1 0 (by decide)
  have eG : ∀ l, dG D' l = dG D l := fun l => h 3 l (by decide)
  have eT : ∀ l, dTe D' l = dTe D l := fun l => h 4 l (by decide)
  have eS : ∀ l, dSu D' l = dSu D l := fun l => h 5 l (by decide)
  have eK : ∀ l, dKi D' l = dKi D l := fun l => h 6 l (by decide)
  have eD : ∀ l, dDb D' l = dDb D l := fun l => h 7 l (by decide)
  have eSo : ∀ l, dSo D' l = dSo D l := fun l => h 8 l (by decide)
  have eA : ∀ l, dA D' l = dA D l := fun l => h 9 l (by decide)
  have eB : ∀ l, dB D' l = dB D l := fun l => h 10 l (by decide)
  have eR : ∀ l, dRo D' l = dRo D l := fun l => h 13 l (by decide)
  have eTk : ∀ l i, zTk D' T l i = zTk D T l i := fun l i => by
    unfold zTk
    rw [eD]
  have eM : ∀ l o, zMeet D' T l o = zMeet D T l o := fun l o => by
    unfold zMeet
    rw [eD, eTk, eTk]
  have eF : ∀ w, zFul D' T w = zFul D T w := fun w => by
    unfold zFul
    rw [eN, eSo, eA, eB, zAny_congr h, zAny_congr h]
  obtain ⟨r1, r2, r3, r4, r5⟩ := r
  refine ⟨fun l hl => ?_, fun l o hl ho hg => ?_, fun l o hl ho hg hs => ?_, fun w hw hh => ?_, fun l i hl hk ht => ?_⟩
  · rw [eN] at hl
    rw [eD]
    exact r1 l hl
  · rw [eN] at hl
    rw [eG, eG, eT, eT] at hg
    rw [eM]
    exact r2 l o hl ho hg
  · rw [eN] at hl
    rw [eG, eG] at hg
    rw [eS, eS] at hs
    exact r3 l o hl ho hg hs
  · rw [eW] at hw
    rw [eF]
    exact r4 w hw hh
  · rw [eN] at hl
    rw [eK] at hk
    rw [eTk] at ht
    rw [eN, eK, eR]
    have := r5 l i hl hk ht
    simp only [eK, eTk]
    exact this
end ZRC
section ZP2
variable {G : sj_G} {σ : sj_S} {D : zD} {T : Nat → Nat}
abbrev zLB : List Nat := [4, 5, 30, 32, 33, 46, 47, 48, 49, 50, 51, 52, 54, 55, 56, 57, 58, 62, 70, 71, 72, 73, 74, 75, 76]
abbrev zLR : List Nat := [4, 5, 30, 32, 33, 46, 47, 48, 49, 50, 51, 52, 54, 55, 56, 58, 62, 70, 71, 72, 73, 74, 75, 76]
theorem zI2_chg {τ σ' ρ : sj_S} {nx t : Nat} (h : zA σ) (hnx : nx < 20) (ht : t ≤ 20)
    (hs : ∀ j, j < t → zSR (fun i => σ 5 ((nx + 19 - j) % 20 * 128 + i)) (fun i => σ 5 ((nx + 19 - j) % 20 * 128 + 119 + i)) (fun i => σ 58 (128 * (t - 1 - j) + i)))
    (hτ : ∀ b, b ∈ zLB → τ b = zBeg σ nx t b)
    (k1 : ∀ b, b ≠ 56 → b ≠ 58 → σ' b = (sj_st τ 56 0 (nI 0)) b) (k2 : σ' 56 3 = nI (if 20 < t + 1 then 20 else t + 1)) (k3 : σ' 56 7 = -1) (k4 : ∀ k, k ≠ 3 → k ≠ 7 → σ' 56 k = (sj_st τ 56 0 (nI 0)) 56 k)
    (k5 : ∀ u i, i < 128 → u < (if 20 < t + 1 then 20 else t + 1) → σ' 58 (128 * u + i) = if u + 1 = (if 20 < t + 1 then 20 else t + 1) then (sj_st τ 56 0 (nI 0)) 57 i else if t = 20 then (sj_st τ 56 0 (nI 0)) 58 (128 * (u + 1) + i) else (sj_st τ 56 0 (nI 0)) 58 (128 * u + i))
    (hρ : ∀ b, b ∈ zLR → ρ b = σ' b) (hS : zSR (ρ 2) (ρ 3) (ρ 57)) : zI2 σ ρ := by
  have e0 : ∀ b, b ∈ zLR → b ≠ 56 → b ≠ 58 → b ∈ zLB → ρ b = zBeg σ nx t b := fun b hb h1 h2 h3 => by
    rw [hρ b hb, k1 b h1 h2, z_stn h1, hτ b h3]
  have e57 : (sj_st τ 56 0 (nI 0)) 57 = σ 57 := by rw [z_stn (by decide), hτ 57 (by decide), zBeg_n (by decide) (by decide) (by decide)]
  have e58 : (sj_st τ 56 0 (nI 0)) 58 = σ 58 := by rw [z_stn (by decide), hτ 58 (by decide), zBeg_n (by decide) (by decide) (by decide)]
  have e56 : ∀ k, k ≠ 0 → k ≠ 3 → k ≠ 7 → ρ 56 k = σ 56 k := fun k h0 h1 h2 => by
    rw [hρ 56 (by decide), k4 k h1 h2, z_sti h0, hτ 56 (by decide), zBeg_n (by decide) (by decide) (by decide)]
  have e30 := e0 30 (by decide) (by decide) (by decide) (by decide)
  refine ⟨⟨hS, ?_, ?_⟩, fun b hb => ?_, fun k hk => e56 k (zne (by decide) hk) (zne (by decide) hk) (zne (by decide) hk), ?_⟩
  · rw [e57, e58] at k5
    rw [hρ 58 (by decide), hρ 56 (by decide)]
    refine zH_keep hnx ht hs h.1 k5 (f4' := ρ 4) (f5' := ρ 5) ?_ ?_ ?_ k2
    · rw [e0 5 (by decide) (by decide) (by decide) (by decide), zBeg_5]
    · rw [e0 4 (by decide) (by decide) (by decide) (by decide), zBeg_1]
    · rw [e0 4 (by decide) (by decide) (by decide) (by decide), zBeg_2]
  · rw [hρ 56 (by decide), k3, e30, zBeg_p]
    exact ⟨rfl, Or.inl rfl⟩
  · rw [e0 b (by revert b; decide) (zne (by decide) hb) (zne (by decide) hb) (by revert b; decide), zBeg_n (zne (by decide) hb) (zne (by decide) hb) (zne (by decide) hb)]
  · rw [e30, zBeg_30 (by decide)]
end ZP2
