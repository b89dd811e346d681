/-! the reference's rooms; the pair of roomOf -/
section ZRM
variable {G : sj_G} {σ : sj_S} {D : zD} {T : Nat → Nat} {H : Nat → Bool}
def zGw (D : zD) (T : Nat → Nat) (f : Nat → Int32) (s i : Nat) : Nat → Int32 := fun o => if o < dN D then (if zPc T (dN D) s i o && !decide (dKi D o = 0) then nI (zGi D T s (zGo D T s) i o) else -1) else f o
theorem zGw_next {f : Nat → Int32} {s : Nat} : zGw D T f s (dN D) = zGw D T f (s + 1) 0 := by
  funext o
  unfold zGw
  have e : zPc T (dN D) s (dN D) o = zPc T (dN D) (s + 1) 0 o := by
    rw [Bool.eq_iff_iff, zPc_iff, zPc_iff]
    omega
  rw [e]
  rfl
theorem zGw_skip {f : Nat → Int32} {s i : Nat} (h : T i ≠ s ∨ dKi D i = 0) : zGw D T f s (i + 1) = zGw D T f s i := by
  funext o
  unfold zGw
  by_cases hi : o = i
  · subst hi
    rcases h with h | h
    · have e : zPc T (dN D) s (o + 1) o = zPc T (dN D) s o o := by
        rw [Bool.eq_iff_iff, zPc_iff, zPc_iff]
        omega
      rw [e, zGi_keep (Or.inr h)]
    · rw [decide_eq_true h]; simp
  · have e : zPc T (dN D) s (i + 1) o = zPc T (dN D) s i o := by
      rw [Bool.eq_iff_iff, zPc_iff, zPc_iff]
      omega
    rw [e, zGi_keep (Or.inl hi)]
theorem zGw_set {f : Nat → Int32} {s i : Nat} (hi : i < dN D) (h : T i = s) (k : dKi D i ≠ 0) : zGw D T f s (i + 1) = upd (zGw D T f s i) i (nI (zLr D T (zGi D T s (zGo D T s) i) i)) := by
  funext o
  unfold upd
  by_cases e : o = i
  · subst e
    rw [if_pos rfl]
    unfold zGw
    rw [if_pos hi, zPc_iff.mpr ⟨hi, Or.inr ⟨h, by omega⟩⟩, decide_eq_false k]
    show nI (zGi D T s (zGo D T s) (o + 1) o) = _
    have : zGi D T s (zGo D T s) (o + 1) o = zLr D T (zGi D T s (zGo D T s) o) o := by
      show (if T o = s ∧ dKi D o ≠ 0 then (fun q => if q = o then zLr D T (zGi D T s (zGo D T s) o) o else zGi D T s (zGo D T s) o q) else zGi D T s (zGo D T s) o) o = _
      rw [if_pos ⟨h, k⟩]
      exact if_pos rfl
    rw [this]
  · rw [if_neg e]
    unfold zGw
    have e2 : zPc T (dN D) s (i + 1) o = zPc T (dN D) s i o := by
      rw [Bool.eq_iff_iff, zPc_iff, zPc_iff]
      omega
    rw [e2, zGi_keep (Or.inl e)]
end ZRM
