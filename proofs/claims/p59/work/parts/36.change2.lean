/-! PAIRS 3: setIll, setApart, setSubjects, undo -/
section ZP3
variable {G : sj_G} {σ : sj_S} {D : zD} {T : Nat → Nat}
theorem z_01 (b : Bool) : (if b then nI 1 else nI 0) = nI 0 ∨ (if b then nI 1 else nI 0) = nI 1 := by
  cases b
  · exact Or.inl rfl
  · exact Or.inr rfl
theorem z_bit1 {x : Int32} {k : Nat} (hk : k < 32) : (if ((x >>> (nI k &&& 31)) &&& nI 1) = nI 1 then nI 1 else nI 0) = if bt x k then nI 1 else nI 0 := by
  rw [z_bitv hk]
  cases bt x k <;> decide
def zSetN (x d : Nat) (b : Bool) : Nat := if b then x ||| 2 ^ d else x - x / 2 ^ d % 2 * 2 ^ d
theorem z_setN5t : ∀ x, x < 32 → ∀ d, d < 5 → zSet (nI x) d true = nI (zSetN x d true) ∧ zSetN x d true < 32 := by decide +kernel
theorem z_setN5f : ∀ x, x < 32 → ∀ d, d < 5 → zSet (nI x) d false = nI (zSetN x d false) ∧ zSetN x d false < 32 := by decide +kernel
theorem z_setN8t : ∀ x, x < 256 → ∀ d, d < 8 → zSet (nI x) d true = nI (zSetN x d true) ∧ zSetN x d true < 256 := by decide +kernel
theorem z_setN8f : ∀ x, x < 256 → ∀ d, d < 8 → zSet (nI x) d false = nI (zSetN x d false) ∧ zSetN x d false < 256 := by decide +kernel
theorem z_setN5 {x d : Nat} (hx : x < 32) (hd : d < 5) (b : Bool) : zSet (nI x) d b = nI (zSetN x d b) ∧ zSetN x d b < 32 := by
  cases b
  · exact z_setN5f x hx d hd
  · exact z_setN5t x hx d hd
theorem z_setN8 {x d : Nat} (hx : x < 256) (hd : d < 8) (b : Bool) : zSet (nI x) d b = nI (zSetN x d b) ∧ zSetN x d b < 256 := by
  cases b
  · exact z_setN8f x hx d hd
  · exact z_setN8t x hx d hd
theorem z_setM {x : Int32} {d : Nat} (b : Bool) : (if (if b then nI 1 else nI 0) = 0 then (x &&& ((nI 1 <<< (nI d &&& 31)) ^^^ (-1))) else (x ||| (nI 1 <<< (nI d &&& 31)))) = zSet x d b := by
  cases b
  · rfl
  · rfl
theorem z_setNb8t : ∀ x, x < 256 → ∀ d, d < 8 → ∀ o, o < 8 → (zSetN x d true).testBit o = if o = d then true else x.testBit o := by decide +kernel
theorem z_setNb8f : ∀ x, x < 256 → ∀ d, d < 8 → ∀ o, o < 8 → (zSetN x d false).testBit o = if o = d then false else x.testBit o := by decide +kernel
theorem z_setNb8 {x d o : Nat} (hx : x < 256) (hd : d < 8) (ho : o < 8) (b : Bool) : (zSetN x d b).testBit o = if o = d then b else x.testBit o := by
  cases b
  · exact z_setNb8f x hx d hd o ho
  · exact z_setNb8t x hx d hd o ho
theorem okD_15 {t d : Nat} (v : okD D) (ht : t < 8) (hd : d < 8) (hne : t ≠ d) (b : Bool) (h1 : zSetN (dAp D t) d b < 256) (h2 : zSetN (dAp D d) t b < 256) : okD (zUp (zUp D 15 d (zSetN (dAp D d) t b)) 15 t (zSetN (dAp D t) d b)) := by
  refine ⟨v.1, v.2.1, v.2.2.1, v.2.2.2.1, v.2.2.2.2.1, v.2.2.2.2.2.1, v.2.2.2.2.2.2.1, fun e h => ?_⟩
  have g : ∀ e, dAp (zUp (zUp D 15 d (zSetN (dAp D d) t b)) 15 t (zSetN (dAp D t) d b)) e = if e = t then zSetN (dAp D t) d b else if e = d then zSetN (dAp D d) t b else dAp D e := fun e => rfl
  have hv := v.2.2.2.2.2.2.2
  refine ⟨?_, fun o ho => ?_⟩
  · rw [g]
    split
    · exact h1
    · split
      · exact h2
      · exact (hv e h).1
  · rw [g, g]
    by_cases e1 : e = t
    · subst e1
      rw [if_pos rfl, z_setNb8 (hv e h).1 hd ho]
      by_cases o1 : o = e
      · subst o1
        rw [if_pos rfl, if_neg hne, z_setNb8 (hv o h).1 hd h, if_neg hne]
      · rw [if_neg o1]
        by_cases o2 : o = d
        · subst o2
          rw [if_pos rfl, if_pos rfl, z_setNb8 (hv o ho).1 h h, if_pos rfl]
        · rw [if_neg o2, if_neg o2]
          exact (hv e h).2 o ho
    · rw [if_neg e1]
      by_cases e2 : e = d
      · subst e2
        rw [if_pos rfl, z_setNb8 (hv e h).1 ht ho]
        by_cases o1 : o = t
        · subst o1
          rw [if_pos rfl, if_pos rfl, z_setNb8 (hv o ho).1 h h, if_pos rfl]
        · rw [if_neg o1, if_neg o1]
          by_cases o2 : o = e
          · subst o2
            rw [if_pos rfl, z_setNb8 (hv o h).1 ht h, if_neg o1]
          · rw [if_neg o2]
            exact (hv e h).2 o ho
      · rw [if_neg e2]
        by_cases o1 : o = t
        · subst o1
          rw [if_pos rfl, z_setNb8 (hv o ho).1 hd h, if_neg e2]
          exact (hv e h).2 o ho
        · rw [if_neg o1]
          by_cases o2 : o = d
          · subst o2
            rw [if_pos rfl, z_setNb8 (hv o ho).1 ht h, if_neg e1]
            exact (hv e h).2 o ho
          · rw [if_neg o2]
            exact (hv e h).2 o ho
theorem repC_15 {c : Nat → Int32} {k r : Nat} {q : Prop} (v : dN D ≤ 9 ∧ dW D ≤ 12 ∧ q) (hC : repC D c) : repC (zUp D 15 k r) (upd c (111 + k) (nI r)) := by
  refine ⟨(z_un (by omega)).trans hC.1, (z_un (by omega)).trans hC.2.1, (z_un (by omega)).trans hC.2.2.1, rC_L (D := D) v hC (fun i _ _ => z_un (by omega)), rC_W (D := D) v hC (fun i _ _ => z_un (by omega)), rC_T (D := D) hC (fun i _ _ => z_un (by omega)) (fun i _ _ => z_un (by omega)), rC_R (D := D) hC (fun i _ _ => z_un (by omega)), fun t h => ?_⟩
  show upd c (111 + k) (nI r) (111 + t) = nI (if t = k then r else D 15 t)
  by_cases e : t = k
  · subst e; rw [z_ue, if_pos rfl]
  · rw [z_un (by omega), if_neg e]; exact hC.2.2.2.2.2.2.2 t h
theorem repM_15 {c : Nat → Int32} {k r : Nat} {q : Prop} (v : dN D ≤ 9 ∧ dW D ≤ 12 ∧ q) (hC : repM D c) (hk : k < 8) : repM (zUp D 15 k r) (upd c (108 + k) (nI r)) := by
  refine ⟨(z_un (by omega)).trans hC.1, (z_un (by omega)).trans hC.2.1, (z_un (by omega)).trans hC.2.2.1, rM_L (D := D) v hC (fun i _ => z_un (by omega)), rM_W (D := D) v hC (fun i _ _ => z_un (by omega)), rM_T (D := D) hC (fun i _ _ => z_un (by omega)) (fun i _ _ => z_un (by omega)), rM_R (D := D) hC (fun i _ _ => z_un (by omega)), fun t h => ?_⟩
  show upd c (108 + k) (nI r) (108 + t) = nI (if t = k then r else D 15 t)
  by_cases e : t = k
  · subst e; rw [z_ue, if_pos rfl]
  · rw [z_un (by omega), if_neg e]; exact hC.2.2.2.2.2.2.2 t h
theorem z_uc {f : Nat → Int32} {i j : Nat} {x y : Int32} (h : i ≠ j) : upd (upd f i x) j y = upd (upd f j y) i x := by
  funext k
  unfold upd
  by_cases h1 : k = i
  · subst h1
    simp [h]
  · simp [h1]
def zBack (σ : sj_S) (k t : Nat) : sj_S := sj_up (sj_up (sj_st (sj_st σ 4 1 (nI ((k + 20 - 1) % 20))) 4 2 (nI (t - 1))) 2 (va_cpy (σ 5) (σ 2) ((k + 20 - 1) % 20 * 128) 0 119)) 3 (va_cpy (σ 5) (σ 3) ((k + 20 - 1) % 20 * 128 + 119) 0 9)
theorem z_back (ok : sj_ok G) {k t : Nat} (hk : k < 20) (h0 : 0 < t) (ht : t ≤ 20) (h1 : σ 4 1 = nI k) (h2 : σ 4 2 = nI t) : sj_C G 2 me_X5_back [.ref (sj_ad G 4), .ref (sj_ad G 1)] σ (.ok (nI (t - 1)), zBack σ k t) := by
  refine c_X5_back ok ?_
  unfold wp_X5_back_0
  rw [h1, h2, nI_add, pk_sub (by omega : 1 ≤ k + 20), z_rem (by omega) (by decide) (by decide), pk_mul, nI_add, nI_clamp (by omega), nI_clamp (by omega), pk_sub h0]
  exact ⟨z_nlt0 (by omega), by omega, z_nlt0 (by omega), by omega, rfl⟩
end ZP3
