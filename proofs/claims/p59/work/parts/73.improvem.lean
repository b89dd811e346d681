/-! the reference's improve; the pair -/
abbrev zLK : List Nat := [2, 3, 4, 5, 30, 32, 33, 46, 47, 48, 49, 50, 51, 52, 54, 55, 56, 57, 58, 62, 70, 71, 72, 73, 74, 75, 76]
def zMX (st : zMS) (one other to : Int32) : Prop := st.2.1 ≤ 2 ∧ one = (if st.2.1 = 0 then -1 else nI st.2.2.1) ∧ other = (if st.2.1 = 2 then nI st.2.2.2 else -1) ∧ (st.2.1 = 1 → to = nI st.2.2.2)
section ZIN
variable {G : sj_G} {σ : sj_S} {D : zD} {T : Nat → Nat}
theorem zI2_tr3 {σ1 ρ : sj_S} (hk : ∀ k, k ∈ zLK → σ1 k = σ k) (h : zI2 σ1 ρ) : zI2 σ ρ := by
  obtain ⟨h1, h2, h3, h4⟩ := h
  refine ⟨h1, fun b hb => (h2 b hb).trans (hk b ?_), fun k hq => by rw [h3 k hq, hk 56 (by decide)], by rw [h4, hk 30 (by decide)]⟩
  revert b
  decide
theorem zA_tr3 {σ1 : sj_S} (hk : ∀ k, k ∈ zLK → σ1 k = σ k) (h : zA σ) : zA σ1 := by
  refine zA_of h (fun b hb => hk b ?_) (by rw [hk 56 (by decide)]) (by rw [hk 56 (by decide)]) (by rw [hk 30 (by decide)])
  revert b
  decide
theorem z_stst {κ : sj_S} {a l : Nat} {x y : Int32} : sj_st (sj_st κ a l x) a l y = sj_st κ a l y := by
  funext c
  by_cases q : c = a
  · subst q
    rw [z_sta, z_sta, z_sta]
    funext k
    unfold upd
    by_cases s : k = l
    · rw [if_pos s, if_pos s]
    · rw [if_neg s, if_neg s, if_neg s]
  · rw [z_stn q, z_stn q, z_stn q]
end ZIN
