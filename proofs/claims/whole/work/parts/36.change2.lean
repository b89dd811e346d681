/-! PAIRS 3: setIll, setApart, setSubjects, undo -/
section ZP3
variable {G : sj_G} {σ : sj_S} {D : zD} {T : Nat → Nat}
theorem z_chg2 (ok : sj_ok G) (h : zA σ) : ∃ B, sj_C G 3 me_X11_beginChange [.ref (sj_ad G 0)] σ (.ok 0, B) ∧ (∀ b, b ≠ 4 → b ≠ 5 → b ≠ 30 → B b = σ b) ∧ ∀ τ, (∀ b, b ∈ zLB → τ b = B b) → ∃ σ', sj_C G 2 me_X12_keeps [.ref (sj_ad G 56)] (sj_st τ 56 0 (nI 0)) (.ok 0, σ') ∧ (∀ b, b ≠ 56 → b ≠ 58 → σ' b = τ b) ∧ σ' 57 = σ 57 ∧ σ' 56 0 = nI 0 ∧ ∀ ρ, (∀ b, b ∈ zLR → ρ b = σ' b) → zSR (ρ 2) (ρ 3) (ρ 57) → zI2 σ ρ := by
  obtain ⟨nx, t, hnx, ht, h41, h42, h3, hs⟩ := h.2.1
  refine ⟨zBeg σ nx t, z_begin ok hnx ht h41 h42, fun b h1 h2 h3 => zBeg_n h1 h2 h3, fun τ hτ => ?_⟩
  have t3 : (sj_st τ 56 0 (nI 0)) 56 3 = nI t := by
    rw [z_sti (by decide), hτ 56 (by decide), zBeg_n (by decide) (by decide) (by decide), h3]
  obtain ⟨σ', hkp, k1, k2, k3, k4, k5⟩ := y_keeps (σ := sj_st τ 56 0 (nI 0)) ok ht t3
  refine ⟨σ', hkp, fun b h1 h2 => by rw [k1 b h1 h2, z_stn h1], ?_, ?_, fun ρ hρ hS => zI2_chg h hnx ht hs hτ k1 k2 k3 k4 k5 hρ hS⟩
  · rw [k1 57 (by decide) (by decide), z_stn (by decide), hτ 57 (by decide), zBeg_n (by decide) (by decide) (by decide)]
  · rw [k4 0 (by decide) (by decide), z_ste]
theorem y_noTeacher0 (ok : sj_ok G) (h0 : σ 56 0 = 0) {t : Nat} (ht : t < 6) : sj_C G 3 me_X12_noTeacher [.ref (sj_ad G 56), .int (nI t)] σ (.ok (nI 0), σ) :=
  c_X12_noTeacher ok ⟨_, _, y_inr1 ok (B := 5) ht (by decide), _, _, y_fails1 ok h0, rfl, Or.inl rfl⟩
theorem y_noTeacher1 (ok : sj_ok G) (h0 : σ 56 0 = 0) {x : Int32} (hx : ∀ j, j < 6 → ¬ x = nI j) : sj_C G 3 me_X12_noTeacher [.ref (sj_ad G 56), .int x] σ (.ok (nI 1), sj_st σ 56 0 (nI 1)) :=
  c_X12_noTeacher ok ⟨_, _, y_inr0 ok (B := 5) hx (by decide), _, _, y_fails0 ok h0 (by decide), rfl, Or.inr rfl⟩
theorem z_01 (b : Bool) : (if b then nI 1 else nI 0) = nI 0 ∨ (if b then nI 1 else nI 0) = nI 1 := by
  cases b
  · exact Or.inl rfl
  · exact Or.inr rfl
theorem z_bit1 {x : Int32} {k : Nat} (hk : k < 32) : (if ((x >>> (nI k &&& 31)) &&& nI 1) = nI 1 then nI 1 else nI 0) = if bt x k then nI 1 else nI 0 := by
  rw [z_bitv hk]
  cases bt x k <;> decide
theorem y_isIll (ok : sj_ok G) {t d : Nat} (ht : t < 6) (hd : d < 32) : sj_C G 2 me_X12_isIll [.ref (sj_ad G 56), .int (nI t), .int (nI d)] σ (.ok (if bt (σ 57 (102 + t)) d then nI 1 else nI 0), σ) := by
  refine c_X12_isIll ok ?_
  unfold wp_X12_isIll_0 wp_X12_isIll_22
  rw [nI_add, nI_clamp (by omega), z_bit1 hd]
  exact ⟨z_in (by omega) (by decide), rfl, z_01 _⟩
theorem y_areApart (ok : sj_ok G) {t d : Nat} (ht : t < 8) (hd : d < 32) : sj_C G 2 me_X12_areApart [.ref (sj_ad G 56), .int (nI t), .int (nI d)] σ (.ok (if bt (σ 57 (108 + t)) d then nI 1 else nI 0), σ) := by
  refine c_X12_areApart ok ?_
  unfold wp_X12_areApart_0 wp_X12_areApart_22
  rw [nI_add, nI_clamp (by omega), z_bit1 hd]
  exact ⟨z_in (by omega) (by decide), rfl, z_01 _⟩
def zSetN (x d : Nat) (b : Bool) : Nat := if b then x ||| 2 ^ d else x - x / 2 ^ d % 2 * 2 ^ d
theorem z_setN5t : ∀ x, x < 32 → ∀ d, d < 5 → zSet (nI x) d true = nI (zSetN x d true) ∧ zSetN x d true < 32 := by decide +kernel
theorem z_setN5f : ∀ x, x < 32 → ∀ d, d < 5 → zSet (nI x) d false = nI (zSetN x d false) ∧ zSetN x d false < 32 := by decide +kernel
theorem z_setN8t : ∀ x, x < 256 → ∀ d, d < 8 → zSet (nI x) d true = nI (zSetN x d true) ∧ zSetN x d true < 256 := by decide +kernel
theorem z_setN8f : ∀ x, x < 256 → ∀ d, d < 8 → zSet (nI x) d false = nI (zSetN x d false) ∧ zSetN x d false < 256 := by decide +kernel
theorem z_setN5 {x d : Nat} (hx : x < 32) (hd : d < 5) (b : Bool) : zSet (nI x) d b = nI (zSetN x d b) ∧ zSetN x d b < 32 := by
  cases b
  · exact z_setN5f x hx d hd
  · exact z_setN5t x hx d hd
theorem z_setN8 {x d : Nat} (hx : x < 256) (hd : d < 8) (b : Bool) : zSet (nI x) d b = nI (zSetN x d b) ∧ zSetN x d b < 256 := by
  cases b
  · exact z_setN8f x hx d hd
  · exact z_setN8t x hx d hd
/-- the reference's way to put a bit -/
theorem z_setM {x : Int32} {d : Nat} (b : Bool) : (if (if b then nI 1 else nI 0) = 0 then (x &&& ((nI 1 <<< (nI d &&& 31)) ^^^ (-1))) else (x ||| (nI 1 <<< (nI d &&& 31)))) = zSet x d b := by
  cases b
  · rfl
  · rfl
theorem p_setIll (ok : sj_ok G) (h : zA σ) (x y : Int32) (b : Bool) : zPair G (zI2 σ) 11 me_X11_setIll 4 me_X12_setIll [.int x, .int y, .int (if b then nI 1 else nI 0)] (zcd 1 0 0) σ := by
  obtain ⟨D, T, v, hC, hM, hT⟩ := h.1
  have h9 := v.1
  rcases z_rg x 6 with ⟨t, ht, rfl⟩ | hx
  · rcases z_rg y 5 with ⟨d, hd, rfl⟩ | hy
    · obtain ⟨B, hB, eB, hch⟩ := z_chg2 ok h
      have q32 := (v.2.2.2.2.2.1 t ht).2
      obtain ⟨n1, n2⟩ := z_setN5 q32 hd b
      have c1 : B 2 (105 + t) = nI (dIll D t) := by
        rw [eB 2 (by decide) (by decide) (by decide)]
        exact (hC.2.2.2.2.2.1 t ht).2
      have m1 : σ 57 (102 + t) = nI (dIll D t) := (hM.2.2.2.2.2.1 t ht).2
      have hp := z_putIll (σ := B) ok b ht (by omega : d < 32)
      rw [c1, n1] at hp
      generalize eτ : sj_st B 2 (105 + t) (nI (zSetN (dIll D t) d b)) = τ at hp
      have hτ : ∀ b, b ≠ 2 → τ b = B b := fun b hb => by
        subst eτ
        rw [z_stn hb]
      obtain ⟨σ', hkp, k1, k57, k0, hfin⟩ := hch τ (fun b hb => hτ b (zne (by decide) hb))
      have hc : sj_C G 11 me_X11_setIll [.ref (sj_ad G 0), .int (nI t), .int (nI d), .int (if b then nI 1 else nI 0)] σ (.ok (if bt (nI (dIll D t)) d then nI 1 else nI 0), τ) :=
        c_X11_setIll ok (Or.inl ⟨_, z_range0 ok ht (by decide), Or.inl ⟨_, z_range0 ok hd (by decide), _, hB, _, _, hp, rfl, z_01 _⟩⟩)
      have hm : sj_C G 4 me_X12_setIll [.ref (sj_ad G 56), .int (nI t), .int (nI d), .int (if b then nI 1 else nI 0)] τ (.ok (if bt (nI (dIll D t)) d then nI 1 else nI 0), sj_st σ' 57 (102 + t) (nI (zSetN (dIll D t) d b))) := by
        have hi := y_isIll (σ := σ') ok ht (by omega : d < 32)
        rw [k57, m1] at hi
        refine c_X12_setIll ok ⟨_, _, y_noTeacher0 ok zT00 ht, fun h => absurd nI_0 h, fun _ => ⟨_, _, y_inr1 ok (B := 4) hd (by decide), _, _, y_fails1 ok zT00, fun _ => ⟨_, hkp, _, _, hi, fun _ => ?_, fun _ => ?_, ?_⟩, fun h => absurd nI_0 h⟩⟩
        · rw [nI_add]; exact z_in (by omega) (by decide)
        · rw [nI_add]; exact z_in (by omega) (by decide)
        · unfold wp_X12_setIll_84
          rw [nI_add, nI_clamp (by omega), z_setM, k57, m1, n1]
          exact ⟨z_in (by omega) (by decide), rfl, z_01 _⟩
      refine ⟨_, _, _, _, hc, hm, zSame_ok ?_ rfl, hfin _ (fun b hb => z_stn (zne (by decide) hb)) ?_⟩
      · rw [z_stn (by decide), k0]
      · have r2 : sj_st σ' 57 (102 + t) (nI (zSetN (dIll D t) d b)) 2 = upd (σ 2) (105 + t) (nI (zSetN (dIll D t) d b)) := by
          rw [z_stn (by decide), k1 2 (by decide) (by decide), ← eτ, z_sta, eB 2 (by decide) (by decide) (by decide)]
        have r3 : sj_st σ' 57 (102 + t) (nI (zSetN (dIll D t) d b)) 3 = σ 3 := by
          rw [z_stn (by decide), k1 3 (by decide) (by decide), hτ 3 (by decide), eB 3 (by decide) (by decide) (by decide)]
        have r57 : sj_st σ' 57 (102 + t) (nI (zSetN (dIll D t) d b)) 57 = upd (σ 57) (102 + t) (nI (zSetN (dIll D t) d b)) := by
          rw [z_sta, k57]
        rw [r2, r3, r57]
        refine ⟨zUp D 14 t (zSetN (dIll D t) d b), T, okD_14 v n2, repC_14 v hC ht, repM_14 v hM ht, fun q => ⟨fun l hl => ?_, zRtH_congr (D := D) (fun f j hf => if_neg (by omega)) (hT q).2⟩⟩
        have hl : l < dN D := hl
        obtain ⟨a1, a2, a3⟩ := (hT q).1 l hl
        exact ⟨a1, by rw [z_un (by omega)]; exact a2, a3⟩
    · have hm : sj_C G 4 me_X12_setIll [.ref (sj_ad G 56), .int (nI t), .int y, .int (if b then nI 1 else nI 0)] σ (.ok (nI 0), sj_st (sj_st σ 56 0 (nI 0)) 56 0 (nI 1)) :=
        c_X12_setIll ok ⟨_, _, y_noTeacher0 ok zT00 ht, fun h => absurd nI_0 h, fun _ => ⟨_, _, y_inr0 ok (B := 4) hy (by decide), _, _, y_fails0 ok zT00 (by decide), fun h => absurd h (by decide), fun _ => rfl⟩⟩
      exact ⟨_, _, _, _, c_X11_setIll ok (Or.inl ⟨_, z_range0 ok ht (by decide), Or.inr ⟨_, _, z_range1 ok hy (by decide) (by decide), rfl⟩⟩), hm, zSame_er (by decide) z_ste, zI2_th2 h⟩
  · have hm : sj_C G 4 me_X12_setIll [.ref (sj_ad G 56), .int x, .int y, .int (if b then nI 1 else nI 0)] σ (.ok (nI 0), sj_st (sj_st σ 56 0 (nI 0)) 56 0 (nI 1)) :=
      c_X12_setIll ok ⟨_, _, y_noTeacher1 ok zT00 hx, fun _ => rfl, fun h => absurd h (by decide)⟩
    exact ⟨_, _, _, _, c_X11_setIll ok (Or.inr ⟨_, _, z_range1 ok hx (by decide) (by decide), rfl⟩), hm, zSame_er (by decide) z_ste, zI2_th2 h⟩
/-- exams apart -/
theorem z_setNb8t : ∀ x, x < 256 → ∀ d, d < 8 → ∀ o, o < 8 → (zSetN x d true).testBit o = if o = d then true else x.testBit o := by decide +kernel
theorem z_setNb8f : ∀ x, x < 256 → ∀ d, d < 8 → ∀ o, o < 8 → (zSetN x d false).testBit o = if o = d then false else x.testBit o := by decide +kernel
theorem z_setNb8 {x d o : Nat} (hx : x < 256) (hd : d < 8) (ho : o < 8) (b : Bool) : (zSetN x d b).testBit o = if o = d then b else x.testBit o := by
  cases b
  · exact z_setNb8f x hx d hd o ho
  · exact z_setNb8t x hx d hd o ho
theorem okD_15 {t d : Nat} (v : okD D) (ht : t < 8) (hd : d < 8) (hne : t ≠ d) (b : Bool) (h1 : zSetN (dAp D t) d b < 256) (h2 : zSetN (dAp D d) t b < 256) : okD (zUp (zUp D 15 d (zSetN (dAp D d) t b)) 15 t (zSetN (dAp D t) d b)) := by
  refine ⟨v.1, v.2.1, v.2.2.1, v.2.2.2.1, v.2.2.2.2.1, v.2.2.2.2.2.1, v.2.2.2.2.2.2.1, fun e h => ?_⟩
  have g : ∀ e, dAp (zUp (zUp D 15 d (zSetN (dAp D d) t b)) 15 t (zSetN (dAp D t) d b)) e = if e = t then zSetN (dAp D t) d b else if e = d then zSetN (dAp D d) t b else dAp D e := fun e => rfl
  have hv := v.2.2.2.2.2.2.2
  refine ⟨?_, fun o ho => ?_⟩
  · rw [g]
    split
    · exact h1
    · split
      · exact h2
      · exact (hv e h).1
  · rw [g, g]
    by_cases e1 : e = t
    · subst e1
      rw [if_pos rfl, z_setNb8 (hv e h).1 hd ho]
      by_cases o1 : o = e
      · subst o1
        rw [if_pos rfl, if_neg hne, z_setNb8 (hv o h).1 hd h, if_neg hne]
      · rw [if_neg o1]
        by_cases o2 : o = d
        · subst o2
          rw [if_pos rfl, if_pos rfl, z_setNb8 (hv o ho).1 h h, if_pos rfl]
        · rw [if_neg o2, if_neg o2]
          exact (hv e h).2 o ho
    · rw [if_neg e1]
      by_cases e2 : e = d
      · subst e2
        rw [if_pos rfl, z_setNb8 (hv e h).1 ht ho]
        by_cases o1 : o = t
        · subst o1
          rw [if_pos rfl, if_pos rfl, z_setNb8 (hv o ho).1 h h, if_pos rfl]
        · rw [if_neg o1, if_neg o1]
          by_cases o2 : o = e
          · subst o2
            rw [if_pos rfl, z_setNb8 (hv o h).1 ht h, if_neg o1]
          · rw [if_neg o2]
            exact (hv e h).2 o ho
      · rw [if_neg e2]
        by_cases o1 : o = t
        · subst o1
          rw [if_pos rfl, z_setNb8 (hv o ho).1 hd h, if_neg e2]
          exact (hv e h).2 o ho
        · rw [if_neg o1]
          by_cases o2 : o = d
          · subst o2
            rw [if_pos rfl, z_setNb8 (hv o ho).1 ht h, if_neg e1]
            exact (hv e h).2 o ho
          · rw [if_neg o2]
            exact (hv e h).2 o ho
theorem repC_15 {c : Nat → Int32} {k r : Nat} {q : Prop} (v : dN D ≤ 9 ∧ dW D ≤ 12 ∧ q) (hC : repC D c) : repC (zUp D 15 k r) (upd c (111 + k) (nI r)) := by
  refine ⟨(z_un (by omega)).trans hC.1, (z_un (by omega)).trans hC.2.1, (z_un (by omega)).trans hC.2.2.1, rC_L (D := D) v hC (fun i _ _ => z_un (by omega)), rC_W (D := D) v hC (fun i _ _ => z_un (by omega)), rC_T (D := D) hC (fun i _ _ => z_un (by omega)) (fun i _ _ => z_un (by omega)), rC_R (D := D) hC (fun i _ _ => z_un (by omega)), fun t h => ?_⟩
  show upd c (111 + k) (nI r) (111 + t) = nI (if t = k then r else D 15 t)
  by_cases e : t = k
  · subst e; rw [z_ue, if_pos rfl]
  · rw [z_un (by omega), if_neg e]; exact hC.2.2.2.2.2.2.2 t h
theorem repM_15 {c : Nat → Int32} {k r : Nat} {q : Prop} (v : dN D ≤ 9 ∧ dW D ≤ 12 ∧ q) (hC : repM D c) (hk : k < 8) : repM (zUp D 15 k r) (upd c (108 + k) (nI r)) := by
  refine ⟨(z_un (by omega)).trans hC.1, (z_un (by omega)).trans hC.2.1, (z_un (by omega)).trans hC.2.2.1, rM_L (D := D) v hC (fun i _ => z_un (by omega)), rM_W (D := D) v hC (fun i _ _ => z_un (by omega)), rM_T (D := D) hC (fun i _ _ => z_un (by omega)) (fun i _ _ => z_un (by omega)), rM_R (D := D) hC (fun i _ _ => z_un (by omega)), fun t h => ?_⟩
  show upd c (108 + k) (nI r) (108 + t) = nI (if t = k then r else D 15 t)
  by_cases e : t = k
  · subst e; rw [z_ue, if_pos rfl]
  · rw [z_un (by omega), if_neg e]; exact hC.2.2.2.2.2.2.2 t h
theorem z_uc {f : Nat → Int32} {i j : Nat} {x y : Int32} (h : i ≠ j) : upd (upd f i x) j y = upd (upd f j y) i x := by
  funext k
  unfold upd
  by_cases h1 : k = i
  · subst h1
    simp [h]
  · simp [h1]
theorem z_setApart_no (ok : sj_ok G) (h : zA σ) {x y x3 : Int32} (hc : sj_C G 11 me_X11_setApart [.ref (sj_ad G 0), .int x, .int y, .int x3] σ (.error 1, σ))
    (hin : (∀ j, j < 8 → ¬ x = nI j) ∨ ∃ j, j < 8 ∧ x = nI j ∧ ((∀ j, j < 8 → ¬ y = nI j) ∨ (∃ j, j < 8 ∧ y = nI j) ∧ x = y)) : zPair G (zI2 σ) 11 me_X11_setApart 3 me_X12_setApart [.int x, .int y, .int x3] (zcd 1 0 0) σ := by
  have hm : sj_C G 3 me_X12_setApart [.ref (sj_ad G 56), .int x, .int y, .int x3] σ (.ok (nI 0), sj_st (sj_st σ 56 0 (nI 0)) 56 0 (nI 1)) := by
    have hf : wp_X12_setApart_36 G (.ok (nI 0), sj_st (sj_st σ 56 0 (nI 0)) 56 0 (nI 1)) x y x3 (nI 0) (sj_st σ 56 0 (nI 0)) :=
      ⟨_, _, y_fails0 ok zT00 (by decide), fun h => absurd h (by decide), fun _ => rfl⟩
    rcases hin with hx | ⟨j, hj, rfl, hy⟩
    · exact c_X12_setApart ok ⟨_, _, y_inr0 ok (B := 7) hx (by decide), fun _ => hf, fun h => absurd nI_0 h⟩
    · rcases hy with hy | ⟨⟨i, hi, rfl⟩, e⟩
      · refine c_X12_setApart ok ⟨_, _, y_inr1 ok (B := 7) hj (by decide), fun h => absurd h (by decide), fun _ => ⟨_, _, y_inr0 ok (B := 7) hy (by decide), ?_⟩⟩
        rw [if_pos nI_0]
        exact hf
      · refine c_X12_setApart ok ⟨_, _, y_inr1 ok (B := 7) hj (by decide), fun h => absurd h (by decide), fun _ => ⟨_, _, y_inr1 ok (B := 7) hi (by decide), ?_⟩⟩
        rw [if_neg (by decide), if_pos e]
        exact hf
  exact ⟨_, _, _, _, hc, hm, zSame_er (by decide) z_ste, zI2_th2 h⟩
theorem p_setApart (ok : sj_ok G) (h : zA σ) (x y : Int32) (b : Bool) : zPair G (zI2 σ) 11 me_X11_setApart 3 me_X12_setApart [.int x, .int y, .int (if b then nI 1 else nI 0)] (zcd 1 0 0) σ := by
  obtain ⟨D, T, v, hC, hM, hT⟩ := h.1
  have h9 := v.1
  rcases z_rg x 8 with ⟨t, ht, rfl⟩ | hx
  · rcases z_rg y 8 with ⟨d, hd, rfl⟩ | hy
    · by_cases hne : t = d
      · subst hne
        exact z_setApart_no ok h (c_X11_setApart ok (Or.inl ⟨_, z_range0 ok ht (by decide), Or.inl ⟨_, z_range0 ok ht (by decide), fun h => absurd rfl h, fun _ => rfl⟩⟩)) (Or.inr ⟨t, ht, rfl, Or.inr ⟨⟨t, ht, rfl⟩, rfl⟩⟩)
      · have hni : ¬ nI t = nI d := by
          rw [nI_eq (by omega) (by omega)]
          exact hne
        obtain ⟨B, hB, eB, hch⟩ := z_chg2 ok h
        obtain ⟨n1, n2⟩ := z_setN8 (v.2.2.2.2.2.2.2 t ht).1 hd b
        obtain ⟨n3, n4⟩ := z_setN8 (v.2.2.2.2.2.2.2 d hd).1 ht b
        have c1 : ∀ e, e < 8 → B 2 (111 + e) = nI (dAp D e) := fun e he => by
          rw [eB 2 (by decide) (by decide) (by decide)]
          exact hC.2.2.2.2.2.2.2 e he
        have m1 : ∀ e, e < 8 → σ 57 (108 + e) = nI (dAp D e) := fun e he => hM.2.2.2.2.2.2.2 e he
        have hp := z_putApart (σ := B) ok b ht hd hne
        rw [c1 t ht, c1 d hd, n1, n3] at hp
        generalize eτ : sj_st (sj_st B 2 (111 + d) (nI (zSetN (dAp D d) t b))) 2 (111 + t) (nI (zSetN (dAp D t) d b)) = τ at hp
        have hτ : ∀ b, b ≠ 2 → τ b = B b := fun b hb => by
          subst eτ
          rw [z_stn hb, z_stn hb]
        obtain ⟨σ', hkp, k1, k57, k0, hfin⟩ := hch τ (fun b hb => hτ b (zne (by decide) hb))
        have hc : sj_C G 11 me_X11_setApart [.ref (sj_ad G 0), .int (nI t), .int (nI d), .int (if b then nI 1 else nI 0)] σ (.ok (if bt (nI (dAp D t)) d then nI 1 else nI 0), τ) :=
          c_X11_setApart ok (Or.inl ⟨_, z_range0 ok ht (by decide), Or.inl ⟨_, z_range0 ok hd (by decide), fun _ => ⟨_, hB, _, _, hp, rfl, z_01 _⟩, fun h => absurd h hni⟩⟩)
        have hm : sj_C G 3 me_X12_setApart [.ref (sj_ad G 56), .int (nI t), .int (nI d), .int (if b then nI 1 else nI 0)] τ (.ok (if bt (nI (dAp D t)) d then nI 1 else nI 0), sj_st (sj_st σ' 57 (108 + t) (nI (zSetN (dAp D t) d b))) 57 (108 + d) (nI (zSetN (dAp D d) t b))) := by
          have hi := y_areApart (σ := σ') ok ht (by omega : d < 32)
          rw [k57, m1 t ht] at hi
          refine c_X12_setApart ok ⟨_, _, y_inr1 ok (B := 7) ht (by decide), fun h => absurd h (by decide), fun _ => ⟨_, _, y_inr1 ok (B := 7) hd (by decide), ?_⟩⟩
          rw [if_neg z_10, if_neg hni]
          refine ⟨_, _, y_fails1 ok zT00, fun _ => ⟨_, hkp, _, _, hi, fun _ => ?_, fun _ => ?_, ?_⟩, fun h => absurd nI_0 h⟩
          · rw [nI_add]; exact z_in (by omega) (by decide)
          · rw [nI_add]; exact z_in (by omega) (by decide)
          · unfold wp_X12_setApart_100 wp_X12_setApart_144
            rw [nI_add, nI_add, nI_clamp (by omega), nI_clamp (by omega), z_setM, k57, m1 t ht, n1, z_sti (by omega), k57, m1 d hd, z_setM, n3]
            exact ⟨z_in (by omega) (by decide), fun _ => z_in (by omega) (by decide), fun _ => z_in (by omega) (by decide), z_in (by omega) (by decide), rfl, z_01 _⟩
        refine ⟨_, _, _, _, hc, hm, zSame_ok ?_ rfl, hfin _ (fun b hb => by rw [z_stn (zne (by decide) hb), z_stn (zne (by decide) hb)]) ?_⟩
        · rw [z_stn (by decide), z_stn (by decide), k0]
        · generalize ev : nI (zSetN (dAp D t) d b) = vt at *
          generalize ew : nI (zSetN (dAp D d) t b) = vd at *
          have r2 : sj_st (sj_st σ' 57 (108 + t) vt) 57 (108 + d) vd 2 = upd (upd (σ 2) (111 + d) vd) (111 + t) vt := by
            rw [z_stn (by decide), z_stn (by decide), k1 2 (by decide) (by decide), ← eτ, z_sta, z_sta, eB 2 (by decide) (by decide) (by decide)]
          have r3 : sj_st (sj_st σ' 57 (108 + t) vt) 57 (108 + d) vd 3 = σ 3 := by
            rw [z_stn (by decide), z_stn (by decide), k1 3 (by decide) (by decide), hτ 3 (by decide), eB 3 (by decide) (by decide) (by decide)]
          have r57 : sj_st (sj_st σ' 57 (108 + t) vt) 57 (108 + d) vd 57 = upd (upd (σ 57) (108 + d) vd) (108 + t) vt := by
            rw [z_sta, z_sta, k57, z_uc (by omega)]
          rw [r2, r3, r57, ← ev, ← ew]
          refine ⟨zUp (zUp D 15 d (zSetN (dAp D d) t b)) 15 t (zSetN (dAp D t) d b), T, okD_15 v ht hd hne b n2 n4, repC_15 (q := True) ⟨v.1, v.2.1, trivial⟩ (repC_15 v hC), repM_15 (q := True) ⟨v.1, v.2.1, trivial⟩ (repM_15 v hM hd) ht, fun q => ⟨fun l hl => ?_, zRtH_congr (D := D) (fun f j hf => ?_) (hT q).2⟩⟩
          · have hl : l < dN D := hl
            obtain ⟨a1, a2, a3⟩ := (hT q).1 l hl
            exact ⟨a1, by rw [z_un (by omega), z_un (by omega)]; exact a2, a3⟩
          · show (if f = 15 then _ else (if f = 15 then _ else D f j)) = D f j
            rw [if_neg (by omega), if_neg (by omega)]
    · exact z_setApart_no ok h (c_X11_setApart ok (Or.inl ⟨_, z_range0 ok ht (by decide), Or.inr ⟨_, _, z_range1 ok hy (by decide) (by decide), rfl⟩⟩)) (Or.inr ⟨t, ht, rfl, Or.inl hy⟩)
  · exact z_setApart_no ok h (c_X11_setApart ok (Or.inr ⟨_, _, z_range1 ok hx (by decide) (by decide), rfl⟩)) (Or.inl hx)
/-- undo -/
def zBack (σ : sj_S) (k t : Nat) : sj_S := sj_up (sj_up (sj_st (sj_st σ 4 1 (nI ((k + 20 - 1) % 20))) 4 2 (nI (t - 1))) 2 (va_cpy (σ 5) (σ 2) ((k + 20 - 1) % 20 * 128) 0 119)) 3 (va_cpy (σ 5) (σ 3) ((k + 20 - 1) % 20 * 128 + 119) 0 9)
theorem z_back (ok : sj_ok G) {k t : Nat} (hk : k < 20) (h0 : 0 < t) (ht : t ≤ 20) (h1 : σ 4 1 = nI k) (h2 : σ 4 2 = nI t) : sj_C G 2 me_X5_back [.ref (sj_ad G 4), .ref (sj_ad G 1)] σ (.ok (nI (t - 1)), zBack σ k t) := by
  refine c_X5_back ok ?_
  unfold wp_X5_back_0
  rw [h1, h2, nI_add, pk_sub (by omega : 1 ≤ k + 20), z_rem (by omega) (by decide) (by decide), pk_mul, nI_add, nI_clamp (by omega), nI_clamp (by omega), pk_sub h0]
  exact ⟨z_nlt0 (by omega), by omega, z_nlt0 (by omega), by omega, rfl⟩
theorem p_undo (ok : sj_ok G) (h : zA σ) : zPair G (zI2 σ) 3 me_X11_undo 2 me_X12_undo [] (zcd 0 0 0) σ := by
  obtain ⟨nx, t, hnx, ht, h41, h42, h3, hs⟩ := h.2.1
  by_cases h0 : t = 0
  · subst h0
    exact ⟨_, _, _, _, c_X11_undo ok ⟨fun q => absurd (h42.trans nI_0) q, fun _ => rfl⟩, c_X12_undo ok ⟨fun q => absurd (h3.trans nI_0) q, fun _ => rfl⟩, zSame_ok z_ste rfl, zI2_th h⟩
  · have h0 : 0 < t := by omega
    generalize eF : sj_st σ 30 3 (-1) = F
    have eFn : ∀ b, b ≠ 30 → F b = σ b := fun b hb => by
      subst eF
      rw [z_stn hb]
    have hb := z_back (σ := F) ok hnx h0 ht (by rw [eFn 4 (by decide), h41]) (by rw [eFn 4 (by decide), h42])
    generalize eτ : zBack F nx t = τ at hb
    have hτ : ∀ b, b ≠ 2 → b ≠ 3 → b ≠ 4 → τ b = F b := fun b h1 h2 h3 => by
      subst eτ
      unfold zBack
      rw [z_upn h2, z_upn h1, z_stn h3, z_stn h3]
    have t2 : τ 2 = va_cpy (σ 5) (σ 2) ((nx + 20 - 1) % 20 * 128) 0 119 := by
      rw [← eτ]
      unfold zBack
      rw [z_upn (by decide), sj_up_s, eFn 5 (by decide), eFn 2 (by decide)]
    have t3 : τ 3 = va_cpy (σ 5) (σ 3) ((nx + 20 - 1) % 20 * 128 + 119) 0 9 := by
      rw [← eτ]
      unfold zBack
      rw [sj_up_s, eFn 5 (by decide), eFn 3 (by decide)]
    have t41 : τ 4 1 = nI ((nx + 20 - 1) % 20) := by
      rw [← eτ]
      unfold zBack
      rw [z_upn (by decide), z_upn (by decide), z_sti (by decide), z_ste]
    have t42 : τ 4 2 = nI (t - 1) := by
      rw [← eτ]
      unfold zBack
      rw [z_upn (by decide), z_upn (by decide), z_ste]
    have t30 : τ 30 3 = -1 := by
      rw [hτ 30 (by decide) (by decide) (by decide), ← eF, z_ste]
    obtain ⟨ρ, hm, k1, k2, k3, k4, k5, k6⟩ := y_undo (σ := τ) ok h0 ht (by rw [hτ 56 (by decide) (by decide) (by decide), eFn 56 (by decide), h3])
    have e58 : τ 58 = σ 58 := by rw [hτ 58 (by decide) (by decide) (by decide), eFn 58 (by decide)]
    refine ⟨_, _, _, _, c_X11_undo ok ⟨fun _ => ⟨_, c_X4_forget ok (by rw [← eF]; rfl), _, _, hb, rfl⟩, fun q => ?_⟩, hm, zSame_ok k2 rfl, ⟨?_, ⟨(nx + 20 - 1) % 20, t - 1, by omega, by omega, ?_, ?_, k3, fun j hj => ?_⟩, ?_⟩, fun b hb => ?_, fun k hk => ?_, ?_⟩
    · rw [h42] at q
      exact absurd q (nI_ne0 h0 (by omega))
    · refine zSR_congr (hs 0 h0) (fun i hi => ?_) (fun i hi => ?_) (fun i hi => ?_)
      · show ρ 2 i = σ 5 ((nx + 19 - 0) % 20 * 128 + i)
        rw [k1 2 (by decide) (by decide), t2]
        unfold va_cpy
        rw [if_pos (by omega)]
        congr 1
      · show ρ 3 i = σ 5 ((nx + 19 - 0) % 20 * 128 + 119 + i)
        rw [k1 3 (by decide) (by decide), t3]
        unfold va_cpy
        rw [if_pos (by omega)]
        congr 1
      · show ρ 57 i = σ 58 (128 * (t - 1 - 0) + i)
        rw [k6 i hi, e58]
        rfl
    · rw [k1 4 (by decide) (by decide), t41]
    · rw [k1 4 (by decide) (by decide), t42]
    · have e5 : ρ 5 = σ 5 := by rw [k1 5 (by decide) (by decide), hτ 5 (by decide) (by decide) (by decide), eFn 5 (by decide)]
      have e8 : ρ 58 = σ 58 := by rw [k1 58 (by decide) (by decide), e58]
      rw [e5, e8, show ((nx + 20 - 1) % 20 + 19 - j) % 20 = (nx + 19 - (j + 1)) % 20 by omega, show t - 1 - 1 - j = t - 1 - (j + 1) by omega]
      exact hs (j + 1) (by omega)
    · rw [k1 30 (by decide) (by decide), t30, k4]
      exact ⟨rfl, Or.inl rfl⟩
    · rw [k1 b (zne (by decide) hb) (zne (by decide) hb), hτ b (zne (by decide) hb) (zne (by decide) hb) (zne (by decide) hb)]
      by_cases e : b = 30
      · subst e; exact absurd hb (by decide)
      · rw [eFn b e]
    · rw [k5 k (zne (by decide) hk) (zne (by decide) hk) (zne (by decide) hk), hτ 56 (by decide) (by decide) (by decide), eFn 56 (by decide)]
    · rw [k1 30 (by decide) (by decide), hτ 30 (by decide) (by decide) (by decide), ← eF, z_sti (by decide)]
end ZP3
