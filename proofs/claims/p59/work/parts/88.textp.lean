/-! TEXTS 3: the pairs write and read -/
theorem z_narc : ∀ c, c < 128 → vp_nar .char (nI c) = nI c := by decide +kernel
def zTxt (T : Nat → Nat) (i : Nat) : Nat := if i % 4 = 0 then 48 + i / 4 else if i % 4 = 1 then zLet (T (i / 4) / 4) else if i % 4 = 2 then 48 + T (i / 4) % 4 else 59
theorem zLet_lt (d : Nat) : zLet d < 128 := by
  unfold zLet
  repeat' split
  all_goals omega
theorem zTxt_lt {T : Nat → Nat} {i : Nat} (h : i < 36) : zTxt T i < 128 := by
  unfold zTxt
  have := zLet_lt (T (i / 4) / 4)
  repeat' split
  all_goals omega
theorem zTxt_a (T : Nat → Nat) (l : Nat) : zTxt T (4 * l) = 48 + l ∧ zTxt T (4 * l + 1) = zLet (T l / 4) ∧ zTxt T (4 * l + 2) = 48 + T l % 4 ∧ zTxt T (4 * l + 3) = 59 := by
  unfold zTxt
  have e0 : 4 * l % 4 = 0 := by omega
  have e1 : (4 * l + 1) % 4 = 1 := by omega
  have e2 : (4 * l + 2) % 4 = 2 := by omega
  have e3 : (4 * l + 3) % 4 = 3 := by omega
  have d0 : 4 * l / 4 = l := by omega
  have d1 : (4 * l + 1) / 4 = l := by omega
  have d2 : (4 * l + 2) / 4 = l := by omega
  rw [e0, e1, e2, e3, d0, d1, d2]
  exact ⟨rfl, rfl, rfl, rfl⟩
theorem upd4 {g : Nat → Int32} {T : Nat → Nat} {l : Nat} (h : ∀ i, i < 4 * l → g i = nI (zTxt T i)) : ∀ i, i < 4 * (l + 1) → upd (upd (upd (upd g (4 * l) (nI (48 + l))) (4 * l + 1) (nI (zLet (T l / 4)))) (4 * l + 2) (nI (48 + T l % 4))) (4 * l + 3) (nI 59) i = nI (zTxt T i) := by
  intro i hi
  obtain ⟨a0, a1, a2, a3⟩ := zTxt_a T l
  unfold upd
  by_cases q3 : i = 4 * l + 3
  · rw [if_pos q3, q3, a3]
  · rw [if_neg q3]
    by_cases q2 : i = 4 * l + 2
    · rw [if_pos q2, q2, a2]
    · rw [if_neg q2]
      by_cases q1 : i = 4 * l + 1
      · rw [if_pos q1, q1, a1]
      · rw [if_neg q1]
        by_cases q0 : i = 4 * l
        · rw [if_pos q0, q0, a0]
        · rw [if_neg q0]
          exact h i (by omega)
section ZTP
variable {G : sj_G} {σ : sj_S} {D : zD} {T : Nat → Nat}
theorem z_print (ok : sj_ok G) (hC : repC D (σ 2)) (v : okD D) (hT : repT (dN D) T (σ 3)) : ∃ ρ, sj_C G 8 me_X9_print [.ref (sj_ad G 52), .ref (sj_ad G 1)] σ (.ok (nI (4 * dN D)), ρ) ∧ (∀ b, b ≠ 52 → b ≠ 54 → ρ b = σ b) ∧ (∀ k, k ≠ 4 → ρ 52 k = σ 52 k) ∧ ρ 52 4 = nI (4 * dN D) ∧ ∀ i, i < 4 * dN D → ρ 54 i = nI (zTxt T i) := by
  have h9 := v.1
  have key : ∀ n l (ρ : sj_S), l + n = dN D → (∀ b, b ≠ 52 → b ≠ 54 → ρ b = σ b) → (∀ k, k ≠ 4 → ρ 52 k = σ 52 k) → ρ 52 4 = nI (4 * l) → (∀ i, i < 4 * l → ρ 54 i = nI (zTxt T i)) →
      ∃ ρ', sj_J G 8 me_X9_print (.ok (nI (4 * dN D)), ρ') 7 [.ref (sj_ad G 52), .ref (sj_ad G 1), .int (nI l), .null] ρ [] ∧ (∀ b, b ≠ 52 → b ≠ 54 → ρ' b = σ b) ∧ (∀ k, k ≠ 4 → ρ' 52 k = σ 52 k) ∧ ρ' 52 4 = nI (4 * dN D) ∧ ∀ i, i < 4 * dN D → ρ' 54 i = nI (zTxt T i) := by
    intro n
    induction n with
    | zero =>
      intro l ρ hl f1 f2 f3 f4
      obtain rfl : l = dN D := by omega
      refine ⟨ρ, t_X9_print_7 ⟨_, _, z_lessonTotal ok, fun _ => by rw [f3], fun q => ?_⟩, f1, f2, f3, f4⟩
      rw [f1 2 (by decide) (by decide), hC.1] at q
      exact absurd (nI_le (by omega) (by omega)) q
    | succ n ih =>
      intro l ρ hl f1 f2 f3 f4
      obtain ⟨t1, t2⟩ := hT l (by omega)
      have hlen : 4 * l + 3 < 36 := by omega
      obtain ⟨ρ', g1, g2⟩ := ih (l + 1) (sj_st (sj_st (sj_st (sj_st (sj_st ρ 54 (4 * l) (nI (48 + l))) 54 (4 * l + 1) (nI (zLet (T l / 4)))) 54 (4 * l + 2) (nI (48 + T l % 4))) 54 (4 * l + 3) (nI 59)) 52 4 (nI (4 * (l + 1)))) (by omega)
        (fun b h1 h2 => by rw [z_stn h1, z_stn h2, z_stn h2, z_stn h2, z_stn h2]; exact f1 b h1 h2) (fun k hk => by rw [z_sti hk, z_stn (by decide), z_stn (by decide), z_stn (by decide), z_stn (by decide)]; exact f2 k hk) z_ste (fun i hi => by
          rw [z_stn (by decide), z_sta, z_sta, z_sta, z_sta]
          exact upd4 f4 i hi)
      refine ⟨ρ', t_X9_print_7 ⟨_, _, z_lessonTotal ok, fun q => ?_, fun _ => ⟨z_in (by omega) (by decide), ?_, ?_, ?_⟩⟩, g2⟩
      · rw [f1 2 (by decide) (by decide), hC.1] at q
        exact absurd q (nI_ge (by omega) (by omega))
      · rw [f3]
        exact z_in (by omega) (by decide)
      · rw [nI_add, z_chr _ (by omega)]
        exact z_narc _ (by omega)
      · have e3 : ρ 3 (nI l).toNatClampNeg = nI (T l) := by rw [nI_clamp (by omega), f1 3 (by decide) (by decide)]; exact t1
        have hle := z_letterOfDay (σ := sj_st ρ 54 (4 * l) (nI (48 + l))) ok (j := T l / 4) (by omega)
        have e52 : (sj_st ρ 54 (4 * l) (nI (48 + l))) 52 4 = nI (4 * l) := by rw [z_stn (by decide)]; exact f3
        have erm : nI (T l) - nI (T l) / nI 4 * nI 4 = nI (T l % 4) := pk_rem (by omega) (by decide) (by decide)
        have edv : nI (T l) / nI 4 = nI (T l / 4) := pk_div (by omega) (by decide) (by decide)
        rw [e3, erm, edv, f3, nI_clamp (by omega), nI_add 48 l, z_chr _ (by omega)]
        refine ⟨_, _, hle, ?_⟩
        rw [e52, nI_add 48 (T l % 4), z_chr _ (by omega), nI_add (4 * l) 1, nI_add (4 * l) 2, nI_add (4 * l) 3, nI_add (4 * l) 4, nI_add l 1, nI_clamp (by omega), nI_clamp (by omega), nI_clamp (by omega)]
        refine ⟨z_in (by omega) (by decide), z_narc _ (zLet_lt _), z_in (by omega) (by decide), z_narc _ (by omega), z_in (by omega) (by decide), z_narc _ (by decide), ?_⟩
        exact g1
  obtain ⟨ρ, r1, r2, r3, r4, r5⟩ := key (dN D) 0 (sj_st σ 52 4 (nI 0)) (by omega) (fun b h1 _ => z_stn h1) (fun k hk => z_sti hk) z_ste (fun i hi => absurd hi (by omega))
  exact ⟨ρ, c_X9_print ok r1, r2, r3, r4, r5⟩
theorem z_sl53 : zSl 53 := ⟨rfl, by decide, rfl⟩
end ZTP
