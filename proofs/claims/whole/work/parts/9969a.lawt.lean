/-! THE LAW'S BODY: what holds between calls; the end of a case -/
def zInv (σ : sj_S) (r : Nat) : Prop := zA σ ∧ zBells σ ∧ zTape σ ∧ zYR σ ∧ zRd σ r
theorem zBells_of {σ σ' : sj_S} (h : zBells σ) (hb : ∀ b, b ∈ [47, 48, 49, 70, 71, 72] → σ' b = σ b) : zBells σ' := by
  intro d hd
  rw [hb 47 (by decide), hb 48 (by decide), hb 49 (by decide), hb 70 (by decide), hb 71 (by decide), hb 72 (by decide)]
  exact h d hd
theorem zYR_of {σ σ' : sj_S} (h : zYR σ) (hb : ∀ b, b ∈ [50, 51, 73, 74] → σ' b = σ b) (h1 : σ' 56 21 = σ 56 21) (h2 : σ' 56 22 = σ 56 22) : zYR σ' := by
  obtain ⟨B, y0, h0, f, g, hY⟩ := h
  exact ⟨B, y0, h0, f, g, zYr_of hY hb h1 h2⟩
theorem zRd_of {σ σ' : sj_S} {r : Nat} (h : zRd σ r) (h33 : σ' 33 = σ 33) (h7 : σ' 30 7 = σ 30 7) : zRd σ' r := by
  unfold zRd at h ⊢
  rw [h33, h7]
  exact h
/-- the next call's invariant: at most 200 rounds further -/
def zInx (r : Nat) (σ' : sj_S) : Prop := ∃ r2, r2 ≤ r + 200 ∧ zInv σ' r2
theorem zInv_I2 {σ σ' : sj_S} {r : Nat} (h : zInv σ r) (g : zI2 σ σ') : zInx r σ' := by
  obtain ⟨h1, h2, h3, h4, h5⟩ := h
  obtain ⟨g1, g2, g3, g4⟩ := g
  exact ⟨r, by omega, g1, zBells_of h2 (fun b hb => g2 b ((by decide : ∀ b, b ∈ [47, 48, 49, 70, 71, 72] → b ∈ [33, 46, 47, 48, 49, 50, 51, 52, 54, 55, 70, 71, 72, 73, 74, 75, 76]) b hb)), zTape_of h3 (fun b hb => g2 b ((by decide : ∀ b, b ∈ [52, 54, 55, 75, 76] → b ∈ [33, 46, 47, 48, 49, 50, 51, 52, 54, 55, 70, 71, 72, 73, 74, 75, 76]) b hb)) (fun k hk => g3 k ((by decide : ∀ k, k ∈ [26, 27, 29] → k ∈ [21, 22, 26, 27, 29]) k hk)), zYR_of h4 (fun b hb => g2 b ((by decide : ∀ b, b ∈ [50, 51, 73, 74] → b ∈ [33, 46, 47, 48, 49, 50, 51, 52, 54, 55, 70, 71, 72, 73, 74, 75, 76]) b hb)) (g3 21 (by decide)) (g3 22 (by decide)), zRd_of h5 (g2 33 (by decide)) g4⟩
theorem zInv_IB {σ σ' : sj_S} {r : Nat} (h : zInv σ r) (g : zIB σ σ') : zInx r σ' := by
  obtain ⟨h1, h2, h3, h4, h5⟩ := h
  obtain ⟨g1, g0, g2, g3, g4⟩ := g
  exact ⟨r, by omega, g1, g0, zTape_of h3 (fun b hb => g2 b ((by decide : ∀ b, b ∈ [52, 54, 55, 75, 76] → b ∈ zBA) b hb)) (fun k hk => g3 k ((by decide : ∀ k, k ∈ [26, 27, 29] → k ∈ zBK) k hk)), zYR_of h4 (fun b hb => g2 b ((by decide : ∀ b, b ∈ [50, 51, 73, 74] → b ∈ zBA) b hb)) (g3 21 (by decide)) (g3 22 (by decide)), zRd_of h5 (g2 33 (by decide)) g4⟩
theorem zInv_IT {σ σ' : sj_S} {r : Nat} (h : zInv σ r) (g : zIT σ σ') : zInx r σ' := by
  obtain ⟨h1, h2, h3, h4, h5⟩ := h
  obtain ⟨g1, g0, g2, g3, g4⟩ := g
  exact ⟨r, by omega, g1, zBells_of h2 (fun b hb => g2 b ((by decide : ∀ b, b ∈ [47, 48, 49, 70, 71, 72] → b ∈ zTA) b hb)), g0, zYR_of h4 (fun b hb => g2 b ((by decide : ∀ b, b ∈ [50, 51, 73, 74] → b ∈ zTA) b hb)) (g3 21 (by decide)) (g3 22 (by decide)), zRd_of h5 (g2 33 (by decide)) g4⟩
theorem zInv_IY {σ σ' : sj_S} {r : Nat} (h : zInv σ r) (g : zIY σ σ') : zInx r σ' := by
  obtain ⟨h1, h2, h3, h4, h5⟩ := h
  obtain ⟨g1, g0, g2, g3, g4⟩ := g
  exact ⟨r, by omega, g1, zBells_of h2 (fun b hb => g2 b ((by decide : ∀ b, b ∈ [47, 48, 49, 70, 71, 72] → b ∈ [33, 46, 47, 48, 49, 52, 54, 55, 70, 71, 72, 75, 76]) b hb)), zTape_of h3 (fun b hb => g2 b ((by decide : ∀ b, b ∈ [52, 54, 55, 75, 76] → b ∈ [33, 46, 47, 48, 49, 52, 54, 55, 70, 71, 72, 75, 76]) b hb)) (fun k hk => g3 k hk), g0, zRd_of h5 (g2 33 (by decide)) g4⟩
theorem zInv_IF {σ σ' : sj_S} {r : Nat} (h : zInv σ r) (g : zIF σ r σ') : zInx r σ' := by
  obtain ⟨h1, h2, h3, h4, h5⟩ := h
  obtain ⟨g1, g2, g3, r2, g4, g5⟩ := g
  exact ⟨r2, g4, g1, zBells_of h2 (fun b hb => g2 b ((by decide : ∀ b, b ∈ [47, 48, 49, 70, 71, 72] → b ∈ [46, 47, 48, 49, 50, 51, 52, 54, 55, 70, 71, 72, 73, 74, 75, 76]) b hb)), zTape_of h3 (fun b hb => g2 b ((by decide : ∀ b, b ∈ [52, 54, 55, 75, 76] → b ∈ [46, 47, 48, 49, 50, 51, 52, 54, 55, 70, 71, 72, 73, 74, 75, 76]) b hb)) (fun k hk => g3 k ((by decide : ∀ k, k ∈ [26, 27, 29] → k ∈ [21, 22, 26, 27, 29]) k hk)), zYR_of h4 (fun b hb => g2 b ((by decide : ∀ b, b ∈ [50, 51, 73, 74] → b ∈ [46, 47, 48, 49, 50, 51, 52, 54, 55, 70, 71, 72, 73, 74, 75, 76]) b hb)) (g3 21 (by decide)) (g3 22 (by decide)), g5⟩
theorem zInv_only {σ σ' : sj_S} {r : Nat} (h : zInv σ r) (g : zOnly [] σ σ') : zInx r σ' := by
  obtain ⟨h1, h2, h3, h4, h5⟩ := h
  obtain ⟨g2, g3⟩ := g
  have hb : ∀ b, b ≠ 56 → σ' b = σ b := fun b hb => g2 b (List.not_mem_nil) hb
  exact ⟨r, by omega, zA_of h1 (fun b h => hb b (zne (by decide) h)) (g3 3 (by decide)) (g3 7 (by decide)) (by rw [hb 30 (by decide)]), zBells_of h2 (fun b h => hb b (zne (by decide) h)), zTape_of h3 (fun b h => hb b (zne (by decide) h)) (fun k h => g3 k (zne (by decide) h)), zYR_of h4 (fun b h => hb b (zne (by decide) h)) (g3 21 (by decide)) (g3 22 (by decide)), zRd_of h5 (hb 33 (by decide)) (by rw [hb 30 (by decide)])⟩
theorem zp_bell {G : sj_G} {σ : sj_S} (ok : sj_ok G) (hB : zBells σ) (x : Int32) (b : Bool) : zPair G (zOnly [] σ) 11 me_X11_bell 3 me_X12_bell [.int x, .int (if b then nI 1 else nI 0)] (zcd 1 0 0) σ := by
  obtain ⟨Rc, σ1, rm, σ2, h1, h2, h3, h4⟩ := p_bell ok hB x b
  refine ⟨Rc, σ1, rm, σ2, h1, h2, ?_, h4⟩
  cases Rc with
  | ok v => exact h3
  | error k =>
    obtain ⟨⟨g1, g2⟩, g3⟩ := h3
    by_cases hk : k = 1
    · subst hk
      exact ⟨⟨by decide, by decide⟩, g3⟩
    · dsimp only at g2
      rw [if_neg hk] at g2
      exact absurd g2 (by decide)
theorem z_ok {Rc : Except Nat Int32} {th rm : Int32} (h : zSame (zcd 0 0 0) Rc th rm) : Rc = .ok rm := by
  cases Rc with
  | ok v => rw [h.2]
  | error k =>
    obtain ⟨h0, h1⟩ := z_err h k rfl
    omega
abbrev me_L_law : sj_M := (x, RL, code, 9, wsF, ret)
def lcx (G : sj_G) (q : lG) (s : State) (b Ls : Nat) (xs : Nat → Int32) : Prop := sj_ok G ∧ lok G q ∧ lT G q s ∧ va_X b Ls xs s s.heap ∧ b < s.heap.size ∧ (∀ x, sj_A G x → s.heap.size ≤ x) ∧ s.heap.size ≤ q.1 ∧ s.heap.size ≤ q.2.1 ∧ Ls ≤ 3072
def lJ (G : sj_G) (q : lG) (p : Program) (e : Env) (s : State) (m : MethodId) (below : List Frame) (meth : Method) (c : Code) (b : Nat) (Z : State → Prop) (cells slots : Nat) (f : Nat → Int64) (g : Nat → UInt64) (pc : Nat) (L : List Value) (σ : sj_S) (st : List Value) : Prop :=
  tj_J G (fun x => s.heap.size ≤ x) me_L_law p e s m #[Value.ref b] below meth c room_1 Z cells slots (lE q f g) pc L σ st
def lL (G : sj_G) (q : lG) (b i : Nat) (k v : Value) : List Value := [.ref b, .ref (sj_ad G 0), .ref (sj_ad G 56), .ref q.1, .ref q.2.1, .int (nI i), k, v, .null]
section LT
variable {G : sj_G} {q : lG} {p : Program} {e : Env} {s : State} {m : MethodId} {below : List Frame} {meth : Method} {c : Code} {b Ls i : Nat} {xs : Nat → Int32} {Z : State → Prop} {cells slots : Nat} {f : Nat → Int64} {g : Nat → UInt64} {pc : Nat} {σ : sj_S} {Rc : Except Nat Int32} {rm : Int32} {cd : Nat → Nat}
theorem lL_sub {k v : Value} : ∀ (j : Nat) (w : Value), (lL G q b i .null .null)[j]? = some w → w ≠ .null → (lL G q b i k v)[j]? = some w := by
  intro j w hj hw
  have hl : j < 9 := (List.getElem?_eq_some_iff.mp hj).1
  rcases (by omega : j = 0 ∨ j = 1 ∨ j = 2 ∨ j = 3 ∨ j = 4 ∨ j = 5 ∨ j = 6 ∨ j = 7 ∨ j = 8) with h | h | h | h | h | h | h | h | h <;> subst h
  · exact hj
  · exact hj
  · exact hj
  · exact hj
  · exact hj
  · exact hj
  · exact absurd (Option.some.inj hj).symm hw
  · exact absurd (Option.some.inj hj).symm hw
  · exact hj
theorem lL_cat : ∀ v ∈ lL G q b i .null .null, v.category = 1 := by
  intro v hv
  unfold lL at hv
  simp only [List.mem_cons, List.not_mem_nil, or_false] at hv
  rcases hv with h | h | h | h | h | h | h | h | h <;> rw [h] <;> rfl
theorem nI_ne4 {n : Nat} (h0 : 0 < n) (h4 : n < 4) : ¬ nI n = 0 := by
  rcases (by omega : n = 1 ∨ n = 2 ∨ n = 3) with h | h | h <;> subst h <;> decide
/-- the comparison of code and answer, ints -/
theorem lj_tail {o : Int} (hx : lcx G q s b Ls xs) (hz : zSame cd Rc (σ 56 0) rm) (hcd : ∀ k, cd k < 4) (hc1 : cells ≤ 601024) (hc2 : slots ≤ 7293034)
    (d0 : decode code pc = .ok (.aload_n 2, 1)) (d1 : decode code (pc + 1) = .ok (.invokevirtual 168, 3)) (d2 : decode code (pc + 4) = .ok (.iload 6, 2)) (d3 : decode code (pc + 6) = .ok (.if_icmp .eq 5, 3)) (d4 : decode code (pc + 11) = .ok (.iload 6, 2)) (d5 : decode code (pc + 13) = .ok (.ifCond .ne 15, 3)) (d6 : decode code (pc + 16) = .ok (.aload_n 3, 1)) (d7 : decode code (pc + 17) = .ok (.iconst 0, 1)) (d8 : decode code (pc + 18) = .ok (.laload, 1)) (d9 : decode code (pc + 19) = .ok (.iload 7, 2)) (d10 : decode code (pc + 21) = .ok (.i2l, 1)) (d11 : decode code (pc + 22) = .ok (.lcmp, 1)) (d12 : decode code (pc + 23) = .ok (.ifCond .eq 5, 3)) (d13 : decode code (pc + 28) = .ok (.goto o, 3)) (ho : ((pc + 28 : Nat) : Int) + o = ((3361 : Nat) : Int))
    (k : lJ G q p e s m below meth c b Z cells slots (lf Rc f) g 3361 (lL G q b i .null .null) σ []) : lJ G q p e s m below meth c b Z cells slots (lf Rc f) g pc (lL G q b i (.int (lr cd Rc)) (.int rm)) σ [] := by
  obtain ⟨ok, hq, hT, hX, hb, hA, ha, hd, hLs⟩ := id hx
  have hK0 : ∀ x, x < s.heap.size → ¬ sj_A G x → ¬ s.heap.size ≤ x := fun x h _ h2 => by omega
  unfold lJ at k ⊢
  refine tj_aload_n (x := sj_ad G 56) d0 (i := 2) rfl rfl ?_
  refine tj_callVi (M' := me_X12_thrown) (b := 56) (As := []) (rest := []) hK0 hA (lok_E hq) d1 gL_law_X12_thrown rfl hd_X12_thrown (by decide +kernel) (by decide +kernel) rfl (Nat.le_of_ble_eq_true rfl) ⟨Nat.le_of_ble_eq_true rfl, Nat.le_of_ble_eq_true rfl⟩ rfl ⟨hc1, hc2⟩ (c_X12_thrown ok rfl) ?_
  refine tj_iload (x := lr cd Rc) d2 rfl ?_
  have kend : tj_J G (fun x => s.heap.size ≤ x) me_L_law p e s m #[Value.ref b] below meth c room_1 Z cells slots (lE q (lf Rc f) g) (pc + 28) (lL G q b i (.int (lr cd Rc)) (.int rm)) σ [] :=
    tj_goto (tgt := 3361) d13 ho (tj_sub lL_sub lL_cat k)
  cases Rc with
  | ok v =>
    obtain ⟨h1, h2⟩ := hz
    refine tj_icmp_eq (tgt := pc + 11) d3 (by omega) (fun _ => ?_) (fun h => absurd h1 h)
    refine tj_iload (x := nI 0) d4 rfl ?_
    refine tj_if_ne (tgt := pc + 28) d5 (by omega) (fun h => absurd z_00 h) (fun _ => ?_)
    refine tj_aload_n (x := q.1) d6 (i := 3) rfl rfl ?_
    refine tj_iconst (v := nI 0) d7 (by decide +kernel) ?_
    refine lj_lald hT d8 ?_
    refine tj_iload (x := rm) d9 rfl ?_
    refine tj_i2l d10 ?_
    refine tj_lcmp d11 ?_
    refine tj_if_eq (tgt := pc + 28) d12 (by omega) (fun _ => kend) (fun h => absurd ?_ h)
    subst h2
    show lg_cmp (vp_updL f 0 v.toInt64 0) v.toInt64 = 0
    rw [show vp_updL f 0 v.toInt64 0 = v.toInt64 from if_pos rfl]
    simp [lg_cmp]
  | error j =>
    obtain ⟨⟨h0, h1⟩, h2⟩ := hz
    refine tj_icmp_eq (tgt := pc + 11) d3 (by omega) (fun _ => ?_) (fun h => absurd h2 h)
    refine tj_iload (x := nI (cd j)) d4 rfl ?_
    refine tj_if_ne (tgt := pc + 28) d5 (by omega) (fun _ => kend) (fun h => absurd h (nI_ne4 h1 (hcd j)))
/-- the same, booleans -/
theorem lj_tailb {o : Int} (hx : lcx G q s b Ls xs) (hz : zSame cd Rc (σ 56 0) rm) (hcd : ∀ k, cd k < 4) (hc1 : cells ≤ 601024) (hc2 : slots ≤ 7293034)
    (d0 : decode code pc = .ok (.aload_n 2, 1)) (d1 : decode code (pc + 1) = .ok (.invokevirtual 168, 3)) (d2 : decode code (pc + 4) = .ok (.iload 6, 2)) (d3 : decode code (pc + 6) = .ok (.if_icmp .eq 5, 3)) (d4 : decode code (pc + 11) = .ok (.iload 6, 2)) (d5 : decode code (pc + 13) = .ok (.ifCond .ne 22, 3)) (d6 : decode code (pc + 16) = .ok (.aload_n 3, 1)) (d7 : decode code (pc + 17) = .ok (.iconst 0, 1)) (d8 : decode code (pc + 18) = .ok (.laload, 1)) (d9 : decode code (pc + 19) = .ok (.iload 7, 2)) (d10 : decode code (pc + 21) = .ok (.ifCond .eq 7, 3)) (da : decode code (pc + 24) = .ok (.lconst 1, 1)) (db : decode code (pc + 25) = .ok (.goto 4, 3)) (dc : decode code (pc + 28) = .ok (.lconst 0, 1)) (d11 : decode code (pc + 29) = .ok (.lcmp, 1)) (d12 : decode code (pc + 30) = .ok (.ifCond .eq 5, 3)) (d13 : decode code (pc + 35) = .ok (.goto o, 3)) (ho : ((pc + 35 : Nat) : Int) + o = ((3361 : Nat) : Int))
    (k : lJ G q p e s m below meth c b Z cells slots (lfb Rc f) g 3361 (lL G q b i .null .null) σ []) : lJ G q p e s m below meth c b Z cells slots (lfb Rc f) g pc (lL G q b i (.int (lr cd Rc)) (.int rm)) σ [] := by
  obtain ⟨ok, hq, hT, hX, hb, hA, ha, hd, hLs⟩ := id hx
  have hK0 : ∀ x, x < s.heap.size → ¬ sj_A G x → ¬ s.heap.size ≤ x := fun x h _ h2 => by omega
  unfold lJ at k ⊢
  refine tj_aload_n (x := sj_ad G 56) d0 (i := 2) rfl rfl ?_
  refine tj_callVi (M' := me_X12_thrown) (b := 56) (As := []) (rest := []) hK0 hA (lok_E hq) d1 gL_law_X12_thrown rfl hd_X12_thrown (by decide +kernel) (by decide +kernel) rfl (Nat.le_of_ble_eq_true rfl) ⟨Nat.le_of_ble_eq_true rfl, Nat.le_of_ble_eq_true rfl⟩ rfl ⟨hc1, hc2⟩ (c_X12_thrown ok rfl) ?_
  refine tj_iload (x := lr cd Rc) d2 rfl ?_
  have kend : tj_J G (fun x => s.heap.size ≤ x) me_L_law p e s m #[Value.ref b] below meth c room_1 Z cells slots (lE q (lfb Rc f) g) (pc + 35) (lL G q b i (.int (lr cd Rc)) (.int rm)) σ [] :=
    tj_goto (tgt := 3361) d13 ho (tj_sub lL_sub lL_cat k)
  cases Rc with
  | ok v =>
    obtain ⟨h1, h2⟩ := hz
    subst h2
    refine tj_icmp_eq (tgt := pc + 11) d3 (by omega) (fun _ => ?_) (fun h => absurd h1 h)
    refine tj_iload (x := nI 0) d4 rfl ?_
    refine tj_if_ne (tgt := pc + 35) d5 (by omega) (fun h => absurd z_00 h) (fun _ => ?_)
    refine tj_aload_n (x := q.1) d6 (i := 3) rfl rfl ?_
    refine tj_iconst (v := nI 0) d7 (by decide +kernel) ?_
    refine lj_lald hT d8 ?_
    refine tj_iload (x := v) d9 rfl ?_
    have e0 : lfb (.ok v) f 0 = if v = 0 then 0 else 1 := by
      show vp_updL f 0 (if v = 0 then 0 else 1) 0 = _
      exact if_pos rfl
    refine tj_if_eq (tgt := pc + 28) d10 (by omega) (fun hv => ?_) (fun hv => ?_)
    · refine tj_lconst (v := 0) dc (by decide +kernel) ?_
      refine tj_lcmp d11 ?_
      refine tj_if_eq (tgt := pc + 35) d12 (by omega) (fun _ => kend) (fun h => absurd ?_ h)
      rw [e0, if_pos hv]
      simp [lg_cmp]
    · refine tj_lconst (v := 1) da (by decide +kernel) ?_
      refine tj_goto (tgt := pc + 29) db (by omega) ?_
      refine tj_lcmp d11 ?_
      refine tj_if_eq (tgt := pc + 35) d12 (by omega) (fun _ => kend) (fun h => absurd ?_ h)
      rw [e0, if_neg hv]
      simp [lg_cmp]
  | error j =>
    obtain ⟨⟨h0, h1⟩, h2⟩ := hz
    refine tj_icmp_eq (tgt := pc + 11) d3 (by omega) (fun _ => ?_) (fun h => absurd h2 h)
    refine tj_iload (x := nI (cd j)) d4 rfl ?_
    refine tj_if_ne (tgt := pc + 35) d5 (by omega) (fun _ => kend) (fun h => absurd h (nI_ne4 h1 (hcd j)))
end LT
