/-! PAIRS 14: checksum, lessonAt -/
def zSum (T : Nat → Nat) : Nat → Nat → Int32 → Int32
  | 0, _, h => h
  | k + 1, i, h => zSum T k (i + 1) (nI 31 * h + nI (T i))
section ZPT
variable {G : sj_G} {σ : sj_S} {D : zD} {T : Nat → Nat}
theorem zI2_lk {σ' : sj_S} (h : zA σ) (hf : ∀ b, b ≠ 59 → b ≠ 60 → σ' b = sj_st σ 56 0 (nI 0) b) : zI2 σ σ' := by
  obtain ⟨h1, h2, h3, h4⟩ := zI2_th (c := nI 0) h
  refine ⟨zA_of h1 (fun b hb => hf b (zne (by decide) hb) (zne (by decide) hb)) (by rw [hf 56 (by decide) (by decide)]) (by rw [hf 56 (by decide) (by decide)]) (by rw [hf 30 (by decide) (by decide)]), fun b hb => ?_, fun k hk => ?_, ?_⟩
  · rw [hf b (zne (by decide) hb) (zne (by decide) hb)]
    exact h2 b hb
  · rw [hf 56 (by decide) (by decide)]
    exact h3 k hk
  · rw [hf 30 (by decide) (by decide)]
    exact h4
theorem z_sl3 : zSl 3 := ⟨rfl, by decide, rfl⟩
theorem z_who (b : Bool) : ∃ c P, c ≤ 1 ∧ (if b then nI 1 else nI 0) = nI c ∧ P ≤ 5 ∧ (if nI c = 0 then nI 4 else nI 6) = nI (P + 1) ∧ (if nI c = 0 then nI 3 else nI 5) = nI P := by
  cases b
  · exact ⟨0, 3, by decide, rfl, by decide, by decide, by decide⟩
  · exact ⟨1, 5, by decide, rfl, by decide, by decide, by decide⟩
theorem z_person0 (ok : sj_ok G) {c P : Nat} {p : Nat} (h4 : (if nI c = 0 then nI 4 else nI 6) = nI (P + 1)) (hP : P ≤ 5) (hp : p < P + 1) : sj_C G 11 me_X11_requirePerson [.ref (sj_ad G 0), .int (nI c), .int (nI p)] σ (.ok 0, σ) := by
  refine c_X11_requirePerson ok ?_
  unfold wp_X11_requirePerson_0
  rw [h4]
  exact Or.inl ⟨_, z_range0 ok hp (by omega), rfl⟩
theorem z_person1 (ok : sj_ok G) {c P : Nat} {x : Int32} (h4 : (if nI c = 0 then nI 4 else nI 6) = nI (P + 1)) (hP : P ≤ 5) (hx : ∀ j, j < P + 1 → ¬ x = nI j) : sj_C G 11 me_X11_requirePerson [.ref (sj_ad G 0), .int (nI c), .int x] σ (.error 1, σ) := by
  refine c_X11_requirePerson ok ?_
  unfold wp_X11_requirePerson_0
  rw [h4]
  exact Or.inr ⟨_, _, z_range1 ok hx (by omega) (by omega), rfl⟩
end ZPT
