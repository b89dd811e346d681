/-! exams: the reference's search; the pairs -/
def zKP : List Nat := [2, 3, 4, 5, 30, 32, 56, 57, 58, 62, 33, 46, 47, 48, 49, 50, 51, 52, 54, 55, 70, 71, 72, 73, 74, 75, 76]
section ZEM
variable {G : sj_G} {σ : sj_S} {D : zD}
theorem zI2_fr {σ' : sj_S} {c : Int32} (h : zA σ) (hf : ∀ b, b ∈ zKP → σ' b = sj_st σ 56 0 c b) : zI2 σ σ' := by
  obtain ⟨h1, h2, h3, h4⟩ := zI2_th (c := c) h
  have e1 : ∀ b, b ∈ [2, 3, 4, 5, 32, 57, 58, 62] → b ∈ zKP := by decide
  have e2 : ∀ b, b ∈ [33, 46, 47, 48, 49, 50, 51, 52, 54, 55, 70, 71, 72, 73, 74, 75, 76] → b ∈ zKP := by decide
  refine ⟨zA_of h1 (fun b hb => hf b (e1 b hb)) (by rw [hf 56 (by decide)]) (by rw [hf 56 (by decide)]) (by rw [hf 30 (by decide)]), fun b hb => ?_, fun k hk => ?_, ?_⟩
  · rw [hf b (e2 b hb)]; exact h2 b hb
  · rw [hf 56 (by decide)]; exact h3 k hk
  · rw [hf 30 (by decide)]; exact h4
theorem nI_m1a (c : Nat) : nI (c + 1) + (-1) = nI c := by
  have := pk_sub (by omega : 1 ≤ c + 1)
  rw [Nat.add_sub_cancel] at this
  rw [← this]
  rw [Int32.sub_eq_add_neg]; rfl
theorem z_plan (ok : sj_ok G) {d : Nat} {g : Nat → Nat} (hA : ∀ e, e < 8 → σ 2 (111 + e) = nI (dAp D e)) (h1 : 1 ≤ d) (h8 : d ≤ 8) (hg : zEf D d 8 0 (fun _ => 0) = some g) (hn : ∀ c, 1 ≤ c → c < d → zEf D c 8 0 (fun _ => 0) = none) :
    ∃ σ', sj_C G 41 me_X3_plan [.ref (sj_ad G 44), .ref (sj_ad G 1)] σ (.ok (nI d), σ') ∧ (∀ b, b ≠ 45 → σ' b = σ b) ∧ ∀ i, i < 8 → σ' 45 i = nI (g i) := by
  have key : ∀ k c σ, c + k = d → 1 ≤ c → (∀ e, e < 8 → σ 2 (111 + e) = nI (dAp D e)) → ∃ σ', sj_J G 41 me_X3_plan (.ok (nI d), σ') 2 [.ref (sj_ad G 44), .ref (sj_ad G 1), .int (nI c)] σ [] ∧ (∀ b, b ≠ 45 → σ' b = σ b) ∧ ∀ i, i < 8 → σ' 45 i = nI (g i) := by
    intro k
    induction k with
    | zero =>
      intro c σ hc c1 hA
      obtain rfl : c = d := by omega
      obtain ⟨v, σ', hcl, hr⟩ := z_canHold (G := G) (D := D) ok h8 8 0 (fun _ => 0) 0 40 σ (by omega) (by omega) (by omega) hA (fun o ho => absurd ho (by omega))
      rw [zEq_eq 8 0 _ 0 (fun o ho => absurd ho (by omega))] at hr
      obtain ⟨e1, e2⟩ := hr.2.2.2 g hg
      subst e1
      exact ⟨σ', t_X3_plan_2 ⟨_, _, hcl, fun _ => rfl, fun q => absurd q z_10⟩, hr.1, e2⟩
    | succ k ih =>
      intro c σ hc c1 hA
      obtain ⟨v, σ1, hcl, hr⟩ := z_canHold (G := G) (D := D) ok (by omega : c ≤ 8) 8 0 (fun _ => 0) 0 40 σ (by omega) (by omega) (by omega) hA (fun o ho => absurd ho (by omega))
      rw [zEq_eq 8 0 _ 0 (fun o ho => absurd ho (by omega))] at hr
      have e1 := hr.2.2.1 (hn c c1 (by omega))
      subst e1
      obtain ⟨σ', hj, h2, h3⟩ := ih (c + 1) σ1 (by omega) (by omega) (fun e he => by rw [hr.1 2 (by decide)]; exact hA e he)
      refine ⟨σ', t_X3_plan_2 ⟨_, _, hcl, fun q => absurd nI_0 q, fun _ => ⟨fun q => absurd q (nI_ge (by omega) (by omega)), fun _ => ?_⟩⟩, fun b hb => (h2 b hb).trans (hr.1 b hb), h3⟩
      rw [nI_add]; exact hj
  obtain ⟨σ', hj, h2, h3⟩ := key (d - 1) 1 σ (by omega) (by omega) hA
  exact ⟨σ', c_X3_plan ok hj, h2, h3⟩
end ZEM
