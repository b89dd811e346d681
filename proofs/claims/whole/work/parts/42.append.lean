/-! PAIRS 9: append -/
section ZP9
variable {G : sj_G} {σ : sj_S}
theorem zBn_le (x : Int32) : zBn x ≤ 4 := by
  have h1 := zB1_le x 24
  have h2 := zB1_le x 16
  have h3 := zB1_le x 8
  have h4 := zB1_le x 0
  unfold zBn
  omega
def zA5 (a c k : Nat) (σ : sj_S) (n : Nat) (x1 x2 x3 x4 x5 : Int32) : sj_S :=
  zAdd a c k (zAdd a c k (zAdd a c k (zAdd a c k (zAdd a c k σ n x1) (n + zBn x1) x2) (n + zBn x1 + zBn x2) x3) (n + zBn x1 + zBn x2 + zBn x3) x4) (n + zBn x1 + zBn x2 + zBn x3 + zBn x4) x5
variable {a c k n : Nat} {x1 x2 x3 x4 x5 : Int32}
theorem zA5_n {b : Nat} (h1 : b ≠ a) (h2 : b ≠ c) : zA5 a c k σ n x1 x2 x3 x4 x5 b = σ b := by
  unfold zA5
  rw [zAdd_n h1 h2, zAdd_n h1 h2, zAdd_n h1 h2, zAdd_n h1 h2, zAdd_n h1 h2]
theorem zA5_i {j : Nat} (h : a ≠ c) (hj : j ≠ k) : zA5 a c k σ n x1 x2 x3 x4 x5 c j = σ c j := by
  unfold zA5
  rw [zAdd_i h hj, zAdd_i h hj, zAdd_i h hj, zAdd_i h hj, zAdd_i h hj]
theorem zA5_c : zA5 a c k σ n x1 x2 x3 x4 x5 c k = nI (n + zBn x1 + zBn x2 + zBn x3 + zBn x4 + zBn x5) := zAdd_c
theorem zA5_a (h : a ≠ c) : zA5 a c k σ n x1 x2 x3 x4 x5 a = zPL (zPL (zPL (zPL (zPL (σ a) n x1) (n + zBn x1) x2) (n + zBn x1 + zBn x2) x3) (n + zBn x1 + zBn x2 + zBn x3) x4) (n + zBn x1 + zBn x2 + zBn x3 + zBn x4) x5 := by
  unfold zA5
  rw [zAdd_a h, zAdd_a h, zAdd_a h, zAdd_a h, zAdd_a h]
theorem p_append (ok : sj_ok G) (h : zA σ) (hT : zTape σ) (x1 x2 x3 x4 x5 : Int32) : zPair G (zIT σ) 9 me_X11_append 3 me_X12_append [.int x1, .int x2, .int x3, .int x4, .int x5] (zcd 2 0 0) σ := by
  obtain ⟨⟨n, hn, a1, a2, a3⟩, b1, w, hw, c1, c2, c3⟩ := id hT
  have l1 := zBn_le x1
  have l2 := zBn_le x2
  have l3 := zBn_le x3
  have l4 := zBn_le x4
  have l5 := zBn_le x5
  by_cases hN : n + zBn x1 + zBn x2 + zBn x3 + zBn x4 + zBn x5 ≤ 100
  · generalize eτ : zA5 55 52 2 σ n x1 x2 x3 x4 x5 = τ
    have hc : sj_C G 9 me_X11_append [.ref (sj_ad G 0), .int x1, .int x2, .int x3, .int x4, .int x5] σ (.ok (nI (n + zBn x1 + zBn x2 + zBn x3 + zBn x4 + zBn x5)), τ) := by
      refine c_X11_append ok ⟨_, _, z_signsIn ok x1, _, _, z_signsIn ok x2, _, _, z_signsIn ok x3, _, _, z_signsIn ok x4, _, _, z_signsIn ok x5, fun _ => ⟨_, z_add ok a1 (by omega), _, z_add ok zAdd_c (by omega), _, z_add ok zAdd_c (by omega), _, z_add ok zAdd_c (by omega), _, z_add ok zAdd_c (by omega), ?_⟩, fun q => ?_⟩
      · rw [zAdd_c, ← eτ]
        rfl
      · rw [a1] at q
        simp only [nI_add] at q
        exact absurd (nI_le (by omega) (by decide)) q
    have hτ : ∀ b, b ≠ 55 → b ≠ 52 → τ b = σ b := fun b h1 h2 => by rw [← eτ, zA5_n h1 h2]
    have k26 : sj_st τ 56 0 (nI 0) 56 26 = nI n := by rw [z_sti (by decide), hτ 56 (by decide) (by decide), a2]
    generalize eρ : zA5 75 56 26 (sj_st τ 56 0 (nI 0)) n x1 x2 x3 x4 x5 = ρ
    have hm : sj_C G 3 me_X12_append [.ref (sj_ad G 56), .int x1, .int x2, .int x3, .int x4, .int x5] τ (.ok (nI (n + zBn x1 + zBn x2 + zBn x3 + zBn x4 + zBn x5)), ρ) := by
      refine c_X12_append ok ⟨_, _, y_bytesIn ok x1, _, _, y_bytesIn ok x2, _, _, y_bytesIn ok x3, _, _, y_bytesIn ok x4, _, _, y_bytesIn ok x5, ?_⟩
      rw [k26]
      simp only [nI_add]
      rw [if_neg (nI_nlt (by omega) (by omega))]
      refine ⟨_, _, y_fails1 ok zT00, fun _ => ⟨_, y_takes ok k26 (by omega), _, y_takes ok zAdd_c (by omega), _, y_takes ok zAdd_c (by omega), _, y_takes ok zAdd_c (by omega), _, y_takes ok zAdd_c (by omega), ?_⟩, fun q => absurd nI_0 q⟩
      rw [zAdd_c, ← eρ]
      rfl
    have hρ : ∀ b, b ≠ 55 → b ≠ 52 → b ≠ 75 → b ≠ 56 → ρ b = σ b := fun b h1 h2 h3 h4 => by rw [← eρ, zA5_n h3 h4, z_stn h4, hτ b h1 h2]
    have r52 : ρ 52 = τ 52 := by rw [← eρ, zA5_n (by decide) (by decide), z_stn (by decide)]
    have r55 : ρ 55 = τ 55 := by rw [← eρ, zA5_n (by decide) (by decide), z_stn (by decide)]
    have r56 : ∀ k, k ≠ 0 → k ≠ 26 → ρ 56 k = σ 56 k := fun k h1 h2 => by rw [← eρ, zA5_i (by decide) h2, z_sti h1, hτ 56 (by decide) (by decide)]
    have t52 : ∀ k, k ≠ 2 → τ 52 k = σ 52 k := fun k h1 => by rw [← eτ, zA5_i (by decide) h1]
    refine ⟨_, _, _, _, hc, hm, zSame_ok ?_ rfl, zA_of h (fun b hb => hρ b (zne (by decide) hb) (zne (by decide) hb) (zne (by decide) hb) (zne (by decide) hb)) (r56 3 (by decide) (by decide)) (r56 7 (by decide) (by decide)) (by rw [hρ 30 (by decide) (by decide) (by decide) (by decide)]), ⟨⟨_, hN, ?_, ?_, ?_⟩, ?_, w, hw, ?_, ?_, ?_⟩, fun b hb => hρ b (zne (by decide) hb) (zne (by decide) hb) (zne (by decide) hb) (zne (by decide) hb), fun k hk => r56 k (zne (by decide) hk) (zne (by decide) hk), by rw [hρ 30 (by decide) (by decide) (by decide) (by decide)]⟩
    · rw [← eρ, zA5_i (by decide) (by decide), z_ste]
    · rw [r52, ← eτ, zA5_c]
    · rw [← eρ, zA5_c]
    · have e75 : sj_st τ 56 0 (nI 0) 75 = σ 75 := by rw [z_stn (by decide), hτ 75 (by decide) (by decide)]
      rw [r55, ← eτ, ← eρ, zA5_a (by decide), zA5_a (by decide), e75]
      exact zPL_eq (zPL_eq (zPL_eq (zPL_eq (zPL_eq a3))))
    · rw [r52, t52 3 (by decide), r56 27 (by decide) (by decide), b1]
    · rw [r52, t52 4 (by decide), c1]
    · rw [r56 29 (by decide) (by decide), c2]
    · rw [hρ 54 (by decide) (by decide) (by decide) (by decide), hρ 76 (by decide) (by decide) (by decide) (by decide)]
      exact c3
  · have hc : sj_C G 9 me_X11_append [.ref (sj_ad G 0), .int x1, .int x2, .int x3, .int x4, .int x5] σ (.error 2, σ) := by
      refine c_X11_append ok ⟨_, _, z_signsIn ok x1, _, _, z_signsIn ok x2, _, _, z_signsIn ok x3, _, _, z_signsIn ok x4, _, _, z_signsIn ok x5, fun q => ?_, fun _ => rfl⟩
      rw [a1] at q
      simp only [nI_add] at q
      exact absurd q (nI_ge (by omega) (by omega))
    have hm : sj_C G 3 me_X12_append [.ref (sj_ad G 56), .int x1, .int x2, .int x3, .int x4, .int x5] σ (.ok (nI 0), sj_st (sj_st σ 56 0 (nI 0)) 56 0 (nI 1)) := by
      refine c_X12_append ok ⟨_, _, y_bytesIn ok x1, _, _, y_bytesIn ok x2, _, _, y_bytesIn ok x3, _, _, y_bytesIn ok x4, _, _, y_bytesIn ok x5, ?_⟩
      rw [z_sti (by decide), a2]
      simp only [nI_add]
      rw [if_pos (nI_lt (by omega) (by omega))]
      exact ⟨_, _, y_fails0 ok zT00 (by decide), fun q => absurd q z_10, fun _ => rfl⟩
    exact ⟨_, _, _, _, hc, hm, zSame_er (by decide) z_ste, zIT_th2 h hT⟩
end ZP9
