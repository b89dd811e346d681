/-! PAIRS 14: checksum, lessonAt -/
def zSum (T : Nat → Nat) : Nat → Nat → Int32 → Int32
  | 0, _, h => h
  | k + 1, i, h => zSum T k (i + 1) (nI 31 * h + nI (T i))
section ZPT
variable {G : sj_G} {σ : sj_S} {D : zD} {T : Nat → Nat}
theorem p_checksum (ok : sj_ok G) (h : zA σ) : zPair G (zI2 σ) 3 me_X11_checksum 3 me_X12_checksum [] (zcd 0 0 0) σ := by
  obtain ⟨D, T, v, hC, hM, hT⟩ := h.1
  have h9 := v.1
  by_cases hq : dT D = 1
  · obtain ⟨hT, -⟩ := hT hq
    have c2 : σ 2 2 = nI 1 := hC.2.2.1.trans (by rw [hq])
    have m2 : σ 57 127 = nI 1 := hM.2.2.1.trans (by rw [hq])
    have hc : sj_C G 3 me_X11_checksum [.ref (sj_ad G 0)] σ (.ok (zSum T (dN D) 0 (nI 17)), σ) := by
      have key : ∀ k i x, i + k = dN D → sj_J G 3 me_X11_checksum (.ok (zSum T k i x), σ) 17 [.ref (sj_ad G 0), .int x, .int (nI i)] σ [] := by
        intro k
        induction k with
        | zero =>
          intro i x hi
          refine t_X11_checksum_17 ⟨_, _, z_lessonTotal ok, fun _ => rfl, fun q => ?_⟩
          rw [hC.1] at q
          exact absurd (nI_le (by omega) (by omega)) q
        | succ k ih =>
          intro i x hi
          refine t_X11_checksum_17 ⟨_, _, z_lessonTotal ok, fun q => ?_, fun _ => ⟨z_in (by omega) (by decide), ?_⟩⟩
          · rw [hC.1] at q
            exact absurd q (nI_ge (by omega) (by omega))
          · rw [nI_clamp (by omega), (hT i (by omega)).1, nI_add]
            exact ih (i + 1) _ (by omega)
      have ht := z_hasTable (σ := σ) ok
      rw [c2, if_neg z_10] at ht
      exact c_X11_checksum ok ⟨_, _, ht, fun _ => key (dN D) 0 (nI 17) (by omega), fun q => absurd q z_10⟩
    have hm : sj_C G 3 me_X12_checksum [.ref (sj_ad G 56)] σ (.ok (zSum T (dN D) 0 (nI 17)), sj_st σ 56 0 (nI 0)) := by
      have e57 : sj_st σ 56 0 (nI 0) 57 = σ 57 := z_stn (by decide)
      have key : ∀ k i x, i + k = dN D → sj_J G 3 me_X12_checksum (.ok (zSum T k i x), sj_st σ 56 0 (nI 0)) 22 [.ref (sj_ad G 56), .int x, .int (nI i)] (sj_st σ 56 0 (nI 0)) [] := by
        intro k
        induction k with
        | zero =>
          intro i x hi
          refine t_X12_checksum_22 ⟨_, _, y_many ok, fun _ => rfl, fun q => ?_⟩
          rw [e57, hM.1] at q
          exact absurd (nI_le (by omega) (by omega)) q
        | succ k ih =>
          intro i x hi
          refine t_X12_checksum_22 ⟨_, _, y_many ok, fun q => ?_, fun _ => ⟨?_, ?_⟩⟩
          · rw [e57, hM.1] at q
            exact absurd q (nI_ge (by omega) (by omega))
          · rw [nI_add]
            exact z_in (by omega) (by decide)
          · rw [nI_add, nI_clamp (by omega), e57, (hT i (by omega)).2.1, nI_add]
            exact ih (i + 1) _ (by omega)
      exact c_X12_checksum ok ⟨fun _ => key (dN D) 0 (nI 17) (by omega), fun q => absurd (m2.symm.trans q) z_10⟩
    exact ⟨_, _, _, _, hc, hm, zSame_ok z_ste rfl, zI2_th h⟩
  · have hq := zT_of v hq
    have c2 : σ 2 2 = nI 0 := hC.2.2.1.trans (by rw [hq])
    have m2 : σ 57 127 = nI 0 := hM.2.2.1.trans (by rw [hq])
    have ht := z_hasTable (σ := σ) ok
    rw [c2, if_pos z_00] at ht
    exact ⟨_, _, _, _, c_X11_checksum ok ⟨_, _, ht, fun q => absurd nI_0 q, fun _ => rfl⟩, c_X12_checksum ok ⟨fun q => absurd (m2.trans nI_0) q, fun _ => rfl⟩, zSame_ok z_ste rfl, zI2_th h⟩
theorem zI2_lk {σ' : sj_S} (h : zA σ) (hf : ∀ b, b ≠ 59 → b ≠ 60 → σ' b = sj_st σ 56 0 (nI 0) b) : zI2 σ σ' := by
  obtain ⟨h1, h2, h3, h4⟩ := zI2_th (c := nI 0) h
  refine ⟨zA_of h1 (fun b hb => hf b (zne (by decide) hb) (zne (by decide) hb)) (by rw [hf 56 (by decide) (by decide)]) (by rw [hf 56 (by decide) (by decide)]) (by rw [hf 30 (by decide) (by decide)]), fun b hb => ?_, fun k hk => ?_, ?_⟩
  · rw [hf b (zne (by decide) hb) (zne (by decide) hb)]
    exact h2 b hb
  · rw [hf 56 (by decide) (by decide)]
    exact h3 k hk
  · rw [hf 30 (by decide) (by decide)]
    exact h4
theorem z_sl3 : zSl 3 := ⟨rfl, by decide, rfl⟩
theorem z_who (b : Bool) : ∃ c P, c ≤ 1 ∧ (if b then nI 1 else nI 0) = nI c ∧ P ≤ 5 ∧ (if nI c = 0 then nI 4 else nI 6) = nI (P + 1) ∧ (if nI c = 0 then nI 3 else nI 5) = nI P := by
  cases b
  · exact ⟨0, 3, by decide, rfl, by decide, by decide, by decide⟩
  · exact ⟨1, 5, by decide, rfl, by decide, by decide, by decide⟩
theorem z_person0 (ok : sj_ok G) {c P : Nat} {p : Nat} (h4 : (if nI c = 0 then nI 4 else nI 6) = nI (P + 1)) (hP : P ≤ 5) (hp : p < P + 1) : sj_C G 11 me_X11_requirePerson [.ref (sj_ad G 0), .int (nI c), .int (nI p)] σ (.ok 0, σ) := by
  refine c_X11_requirePerson ok ?_
  unfold wp_X11_requirePerson_0
  rw [h4]
  exact Or.inl ⟨_, z_range0 ok hp (by omega), rfl⟩
theorem z_person1 (ok : sj_ok G) {c P : Nat} {x : Int32} (h4 : (if nI c = 0 then nI 4 else nI 6) = nI (P + 1)) (hP : P ≤ 5) (hx : ∀ j, j < P + 1 → ¬ x = nI j) : sj_C G 11 me_X11_requirePerson [.ref (sj_ad G 0), .int (nI c), .int x] σ (.error 1, σ) := by
  refine c_X11_requirePerson ok ?_
  unfold wp_X11_requirePerson_0
  rw [h4]
  exact Or.inr ⟨_, _, z_range1 ok hx (by omega) (by omega), rfl⟩
theorem y_noWho0 (ok : sj_ok G) (h0 : σ 56 0 = 0) {c P p : Nat} (h3 : (if nI c = 0 then nI 3 else nI 5) = nI P) (hP : P ≤ 5) (hp : p < P + 1) : sj_C G 3 me_X12_noWho [.ref (sj_ad G 56), .int (nI c), .int (nI p)] σ (.ok (nI 0), σ) := by
  refine c_X12_noWho ok ?_
  unfold wp_X12_noWho_0
  rw [h3]
  exact ⟨_, _, y_inr1 ok hp (by omega), _, _, y_fails1 ok h0, rfl, Or.inl rfl⟩
theorem y_noWho1 (ok : sj_ok G) (h0 : σ 56 0 = 0) {c P : Nat} {x : Int32} (h3 : (if nI c = 0 then nI 3 else nI 5) = nI P) (hP : P ≤ 5) (hx : ∀ j, j < P + 1 → ¬ x = nI j) : sj_C G 3 me_X12_noWho [.ref (sj_ad G 56), .int (nI c), .int x] σ (.ok (nI 1), sj_st σ 56 0 (nI 1)) := by
  refine c_X12_noWho ok ?_
  unfold wp_X12_noWho_0
  rw [h3]
  exact ⟨_, _, y_inr0 ok hx (by omega), _, _, y_fails0 ok h0 (by decide), rfl, Or.inr rfl⟩
theorem p_lessonAt (ok : sj_ok G) (h : zA σ) (b : Bool) (x y : Int32) : zPair G (zI2 σ) 12 me_X11_lessonAt 5 me_X12_lessonAt [.int (if b then nI 1 else nI 0), .int x, .int y] (zcd 1 2 0) σ := by
  obtain ⟨D, T, v, hC, hM, hT⟩ := h.1
  have h9 := v.1
  obtain ⟨c, P, hc1, eb, hP, h4, h3⟩ := z_who b
  rw [eb]
  have e57 : sj_st σ 56 0 (nI 0) 57 = σ 57 := z_stn (by decide)
  have hM0 : repM D (sj_st σ 56 0 (nI 0) 57) := by rw [e57]; exact hM
  rcases z_rg x (P + 1) with ⟨p, hp, rfl⟩ | hx
  · rcases z_rg y 20 with ⟨s, hs, rfl⟩ | hy
    · by_cases hq : dT D = 1
      · obtain ⟨hT, -⟩ := hT hq
        have hR : repT (dN D) T (σ 3) := fun l hl => ⟨(hT l hl).1, (hT l hl).2.2⟩
        have hc : sj_C G 12 me_X11_lessonAt [.ref (sj_ad G 0), .int (nI c), .int (nI p), .int (nI s)] σ (.ok (zOp (zThen D T c p s (dN D) 0)), σ) := by
          have key : ∀ k i, i + k = dN D → sj_J G 12 me_X11_lessonAt (.ok (zOp (zThen D T c p s k i)), σ) 20 [.ref (sj_ad G 0), .int (nI c), .int (nI p), .int (nI s), .int (nI i)] σ [] := by
            intro k
            induction k with
            | zero =>
              intro i hi
              refine t_X11_lessonAt_20 ⟨_, _, z_lessonTotal ok, fun _ => rfl, fun q => ?_⟩
              rw [hC.1] at q
              exact absurd (nI_le (by omega) (by omega)) q
            | succ k ih =>
              intro i hi
              have h1 := ih (i + 1) (by omega)
              have hbt : bt (zTs D T i) s = zTk D T i s := zTs_bt (by have := (hT i (by omega)).2.2; omega) (by omega)
              refine t_X11_lessonAt_20 ⟨_, _, z_lessonTotal ok, fun q => ?_, fun _ => ⟨_, _, z_isOfD ok hC v (by omega) hc1 (by omega), fun q => ?_, fun q => ⟨_, _, z_slotsTaken ok hC v z_sl3 (by omega) hR, fun q2 => ?_, fun q2 => ?_⟩⟩⟩
              · rw [hC.1] at q
                exact absurd q (nI_ge (by omega) (by omega))
              · unfold wp_X11_lessonAt_72
                have hne : ¬ dP D c i = p := fun r => by rw [if_pos r] at q; exact absurd q z_10
                have e : zThen D T c p s (k + 1) i = zThen D T c p s k (i + 1) := by simp [zThen, hne]
                rw [e, nI_add]
                exact h1
              · unfold wp_X11_lessonAt_72
                rw [z_bit (by omega), hbt] at q2
                have e : zThen D T c p s (k + 1) i = zThen D T c p s k (i + 1) := by simp [zThen, q2]
                rw [e, nI_add]
                exact h1
              · have hpe : dP D c i = p := by
                  by_cases r : dP D c i = p
                  · exact r
                  · rw [if_neg r] at q; exact absurd nI_0 q
                rw [z_bit (by omega), hbt, Bool.not_eq_false] at q2
                have e : zThen D T c p s (k + 1) i = some i := by simp [zThen, hpe, q2]
                rw [e]
                rfl
          exact c_X11_lessonAt ok (Or.inl ⟨_, z_person0 ok h4 hP hp, Or.inl ⟨_, z_range0 ok hs (by decide), Or.inl ⟨_, z_requireTable0 ok (hC.2.2.1.trans (by rw [hq])), key (dN D) 0 (by omega)⟩⟩⟩)
        obtain ⟨σ', hlk, f1, f2, f3⟩ := y_looksAtTable (σ := sj_st σ 56 0 (nI 0)) ok h9 hM0.1
        have f57 : σ' 57 = σ 57 := by rw [f1 57 (by decide) (by decide), e57]
        have hth := y_lessonThen (σ := σ') (T := T) (b := c) (p := p) (s := s) ok (by rw [f57]; exact hM) v (fun l hl => ⟨by rw [f2 l hl, e57]; exact (hT l hl).2.1, by have := (hT l hl).2.2; omega⟩) hc1 (by omega) (by omega)
        exact ⟨_, _, _, _, hc, c_X12_lessonAt ok ⟨_, _, y_noWho0 ok zT00 h3 hP hp, fun q => absurd nI_0 q, fun _ => ⟨_, _, y_inr1 ok (B := 19) hs (by decide), _, _, y_fails1 ok zT00, fun q => absurd nI_0 q, fun _ => ⟨_, _, y_noTable0 ok zT00 (hM0.2.2.1.trans (by rw [hq])), fun _ => ⟨_, hlk, _, _, hth, rfl⟩, fun q => absurd nI_0 q⟩⟩⟩, zSame_ok (by rw [f1 56 (by decide) (by decide), z_ste]) rfl, zI2_lk h f1⟩
      · have hq := zT_of v hq
        exact ⟨_, _, _, _, c_X11_lessonAt ok (Or.inl ⟨_, z_person0 ok h4 hP hp, Or.inl ⟨_, z_range0 ok hs (by decide), Or.inr ⟨_, _, z_requireTable1 ok (hC.2.2.1.trans (by rw [hq])), rfl⟩⟩⟩), c_X12_lessonAt ok (R := (.ok (nI 0), sj_st (sj_st σ 56 0 (nI 0)) 56 0 (nI 2))) ⟨_, _, y_noWho0 ok zT00 h3 hP hp, fun q => absurd nI_0 q, fun _ => ⟨_, _, y_inr1 ok (B := 19) hs (by decide), _, _, y_fails1 ok zT00, fun q => absurd nI_0 q, fun _ => ⟨_, _, y_noTable1 ok zT00 (hM0.2.2.1.trans (by rw [hq])) (by decide), fun q => absurd q z_10, fun _ => rfl⟩⟩⟩, zSame_er (by decide) z_ste, zI2_th2 h⟩
    · exact ⟨_, _, _, _, c_X11_lessonAt ok (Or.inl ⟨_, z_person0 ok h4 hP hp, Or.inr ⟨_, _, z_range1 ok hy (by decide) (by decide), rfl⟩⟩), c_X12_lessonAt ok (R := (.ok (nI 0), sj_st (sj_st σ 56 0 (nI 0)) 56 0 (nI 1))) ⟨_, _, y_noWho0 ok zT00 h3 hP hp, fun q => absurd nI_0 q, fun _ => ⟨_, _, y_inr0 ok (B := 19) hy (by decide), _, _, y_fails0 ok zT00 (by decide), fun _ => rfl, fun q => absurd q z_10⟩⟩, zSame_er (by decide) z_ste, zI2_th2 h⟩
  · exact ⟨_, _, _, _, c_X11_lessonAt ok (Or.inr ⟨_, _, z_person1 ok h4 hP hx, rfl⟩), c_X12_lessonAt ok (R := (.ok (nI 0), sj_st (sj_st σ 56 0 (nI 0)) 56 0 (nI 1))) ⟨_, _, y_noWho1 ok zT00 h3 hP hx, fun _ => rfl, fun q => absurd q z_10⟩, zSame_er (by decide) z_ste, zI2_th2 h⟩
end ZPT
