/-! THE START: what the tables and the given values say at the law's entry -/
theorem lwc_x {c : List Cond} {w : Cond} (i : Nat) (h : lwc[i]? = some c) (hw : w ∈ c) : w ∈ lw_tbl := lwc_in c (List.mem_of_getElem? h) w hw
section LS
variable {s : State} {b : Nat}
def lsT (s : State) (b : Nat) : Prop := (∀ w ∈ lw_tbl, w.before #[Value.ref b] s = true) ∧ (Jvm.Cond.and given_1 narrow_1).before #[Value.ref b] s = true
theorem ls_c0 (h : lsT s b) : ∃ (c : ClassId) (iS : Nat → Nat), u_Kn s RX0 TX0 3 c iS := by
  have hts := h.1
  exact u_known (n := 3) hts (fun w hw => (wl_wsX00 w hw).1) (hts _ (lwc_x 2 rfl (List.mem_of_getElem? (i := 226) (by decide +kernel))))
theorem ls_c1 (h : lsT s b) : ∃ (c : ClassId) (iS : Nat → Nat), u_Kn s RX1 TX1 1 c iS := by
  have hts := h.1
  exact u_known (n := 1) hts (fun w hw => (wl_wsX10 w hw).1) (hts _ (lwc_x 1 rfl (List.mem_of_getElem? (i := 45) (by decide +kernel))))
theorem ls_c2 (h : lsT s b) : ∃ (c : ClassId) (iS : Nat → Nat), u_Kn s RX2 TX2 5 c iS := by
  have hts := h.1
  exact u_known (n := 5) hts (fun w hw => (wl_wsX20 w hw).1) (hts _ (lwc_x 1 rfl (List.mem_of_getElem? (i := 234) (by decide +kernel))))
theorem ls_c3 (h : lsT s b) : ∃ (c : ClassId) (iS : Nat → Nat), u_Kn s RX3 TX3 1 c iS := by
  have hts := h.1
  exact u_known (n := 1) hts (fun w hw => (wl_wsX30 w hw).1) (hts _ (lwc_x 1 rfl (List.mem_of_getElem? (i := 110) (by decide +kernel))))
theorem ls_c4 (h : lsT s b) : ∃ (c : ClassId) (iS : Nat → Nat), u_Kn s RX4 TX4 8 c iS := by
  have hts := h.1
  exact u_known (n := 8) hts (fun w hw => (wl_wsX40 w hw).1) (hts _ (lwc_x 1 rfl (List.mem_of_getElem? (i := 164) (by decide +kernel))))
theorem ls_c5 (h : lsT s b) : ∃ (c : ClassId) (iS : Nat → Nat), u_Kn s RX5 TX5 3 c iS := by
  have hts := h.1
  exact u_known (n := 3) hts (fun w hw => (wl_wsX50 w hw).1) (hts _ (lwc_x 2 rfl (List.mem_of_getElem? (i := 63) (by decide +kernel))))
theorem ls_c6 (h : lsT s b) : ∃ (c : ClassId) (iS : Nat → Nat), u_Kn s RX6 TX6 3 c iS := by
  have hts := h.1
  exact u_known (n := 3) hts (fun w hw => (wl_wsX60 w hw).1) (hts _ (lwc_x 2 rfl (List.mem_of_getElem? (i := 164) (by decide +kernel))))
theorem ls_c7 (h : lsT s b) : ∃ (c : ClassId) (iS : Nat → Nat), u_Kn s RX7 TX7 12 c iS := by
  have hts := h.1
  exact u_known (n := 12) hts (fun w hw => (wl_wsX70 w hw).1) (hts _ (lwc_x 2 rfl (List.mem_of_getElem? (i := 80) (by decide +kernel))))
theorem ls_c8 (h : lsT s b) : ∃ (c : ClassId) (iS : Nat → Nat), u_Kn s RX8 TX8 2 c iS := by
  have hts := h.1
  exact u_known (n := 2) hts (fun w hw => (wl_wsX80 w hw).1) (hts _ (lwc_x 2 rfl (List.mem_of_getElem? (i := 43) (by decide +kernel))))
theorem ls_c9 (h : lsT s b) : ∃ (c : ClassId) (iS : Nat → Nat), u_Kn s RX9 TX9 8 c iS := by
  have hts := h.1
  exact u_known (n := 8) hts (fun w hw => (wl_wsX90 w hw).1) (hts _ (lwc_x 3 rfl (List.mem_of_getElem? (i := 21) (by decide +kernel))))
theorem ls_c10 (h : lsT s b) : ∃ (c : ClassId) (iS : Nat → Nat), u_Kn s RX10 TX10 3 c iS := by
  have hts := h.1
  exact u_known (n := 3) hts (fun w hw => (wl_wsX100 w hw).1) (hts _ (lwc_x 3 rfl (List.mem_of_getElem? (i := 2) (by decide +kernel))))
theorem ls_c11 (h : lsT s b) : ∃ (c : ClassId) (iS : Nat → Nat), u_Kn s RX11 TX11 11 c iS := by
  have hts := h.1
  exact u_known (n := 11) hts (fun w hw => (wl_wsX110 w hw).1) (hts _ (lwc_x 2 rfl (List.mem_of_getElem? (i := 37) (by decide +kernel))))
theorem ls_c12 (h : lsT s b) : ∃ (c : ClassId) (iS : Nat → Nat), u_Kn s RL TL 17 c iS := by
  have hts := h.1
  exact u_known (n := 17) hts (fun w hw => (wl_wsL0 w hw).1) (hts _ (lwc_x 2 rfl (List.mem_of_getElem? (i := 29) (by decide +kernel))))
theorem ls_ai (h : lsT s b) : ∃ cA : ClassId, ArrOfT s cA .int ∧ va_RA s cA .int := by
  have hts := h.1
  obtain ⟨c, k, comp, h1, h2, h3⟩ := Cond.arrayClass_spec (type := .int) (hts _ (lwc_x 2 rfl (List.mem_of_getElem? (i := 61) (by decide +kernel))))
  exact ⟨c, fun n z => ⟨fun k h => (by cases h), k, h2, comp, h3⟩, h1⟩
theorem ls_az (h : lsT s b) : ∃ cA : ClassId, ArrOfT s cA .boolean ∧ va_RA s cA .boolean := by
  have hts := h.1
  obtain ⟨c, k, comp, h1, h2, h3⟩ := Cond.arrayClass_spec (type := .boolean) (hts _ (lwc_x 3 rfl (List.mem_of_getElem? (i := 19) (by decide +kernel))))
  exact ⟨c, fun n z => ⟨fun k h => (by cases h), k, h2, comp, h3⟩, h1⟩
theorem ls_ac (h : lsT s b) : ∃ cA : ClassId, ArrOfT s cA .char ∧ va_RA s cA .char := by
  have hts := h.1
  obtain ⟨c, k, comp, h1, h2, h3⟩ := Cond.arrayClass_spec (type := .char) (hts _ (lwc_x 3 rfl (List.mem_of_getElem? (i := 56) (by decide +kernel))))
  exact ⟨c, fun n z => ⟨fun k h => (by cases h), k, h2, comp, h3⟩, h1⟩
theorem ls_K (h : lsT s b) : ∃ (D : va_G) (cs : Nat → ClassId), va_K D vwCl (sj_tys cs) s := by
  obtain ⟨c0, i0, k0⟩ := ls_c0 h
  obtain ⟨c1, i1, k1⟩ := ls_c1 h
  obtain ⟨c2, i2, k2⟩ := ls_c2 h
  obtain ⟨c3, i3, k3⟩ := ls_c3 h
  obtain ⟨c4, i4, k4⟩ := ls_c4 h
  obtain ⟨c5, i5, k5⟩ := ls_c5 h
  obtain ⟨c6, i6, k6⟩ := ls_c6 h
  obtain ⟨c7, i7, k7⟩ := ls_c7 h
  obtain ⟨c8, i8, k8⟩ := ls_c8 h
  obtain ⟨c9, i9, k9⟩ := ls_c9 h
  obtain ⟨c10, i10, k10⟩ := ls_c10 h
  obtain ⟨c11, i11, k11⟩ := ls_c11 h
  obtain ⟨c12, i12, k12⟩ := ls_c12 h
  obtain ⟨ai, p1, p2⟩ := ls_ai h
  obtain ⟨az, p3, p4⟩ := ls_az h
  obtain ⟨ac, p5, p6⟩ := ls_ac h
  refine ⟨(fun k => [c0, c1, c2, c3, c4, c5, c6, c7, c8, c9, c10, c11, c12].getD k 0, fun k => [i0, i1, i2, i3, i4, i5, i6, i7, i8, i9, i10, i11, i12].getD k (fun _ => 0)), fun k => if k = 13 then ai else if k = 14 then az else ac, ?_, ?_⟩
  · intro k q hq
    have hk : k < 13 := (List.getElem?_eq_some_iff.mp hq).1
    rcases (by omega : k = 0 ∨ k = 1 ∨ k = 2 ∨ k = 3 ∨ k = 4 ∨ k = 5 ∨ k = 6 ∨ k = 7 ∨ k = 8 ∨ k = 9 ∨ k = 10 ∨ k = 11 ∨ k = 12) with e | e | e | e | e | e | e | e | e | e | e | e | e <;> subst e <;> cases hq
    · exact k0
    · exact k1
    · exact k2
    · exact k3
    · exact k4
    · exact k5
    · exact k6
    · exact k7
    · exact k8
    · exact k9
    · exact k10
    · exact k11
    · exact k12
  · intro k q hq
    have hk : k < 3 := (List.getElem?_eq_some_iff.mp hq).1
    rcases (by omega : k = 0 ∨ k = 1 ∨ k = 2) with e | e | e <;> subst e <;> cases hq
    · exact ⟨p1, p2⟩
    · exact ⟨p3, p4⟩
    · exact ⟨p5, p6⟩
theorem ls_clw (h : lsT s b) : ∀ w ∈ sj_clw, va_Nw w s := by
  intro w hw
  have g := List.all_eq_true.mp sj_clw_good w hw
  simp only [Bool.and_eq_true] at g
  refine va_Nw.of g.2 (h.1 w ?_)
  unfold sj_clw at hw
  simp only [List.mem_append] at hw
  rcases hw with hw | hw | hw | hw | hw | hw | hw | hw | hw | hw | hw | hw | hw
  · exact (wl_wsX00 w hw).1
  · exact (wl_wsX10 w hw).1
  · exact (wl_wsX20 w hw).1
  · exact (wl_wsX30 w hw).1
  · exact (wl_wsX40 w hw).1
  · exact (wl_wsX50 w hw).1
  · exact (wl_wsX60 w hw).1
  · exact (wl_wsX70 w hw).1
  · exact (wl_wsX80 w hw).1
  · exact (wl_wsX90 w hw).1
  · exact (wl_wsX100 w hw).1
  · exact (wl_wsX110 w hw).1
  · exact (wl_wsL0 w hw).1
theorem ls_bw0 : ∀ w ∈ sj_bw, w ∈ lw_tbl := by
  intro w hw
  unfold sj_bw at hw
  have h := (List.mem_filter.mp hw).1
  simp only [List.mem_append] at h
  rcases h with h | h | h
  · exact vx_in98 w h
  · exact vx_in109 w h
  · exact vx_in186 w h
theorem ls_bw (h : lsT s b) : ∀ w ∈ sj_bw, va_Nw w s := by
  intro w hw
  have g := List.all_eq_true.mp sj_bw_ok w hw
  simp only [Bool.and_eq_true] at g
  exact va_Nw.of g.1 (h.1 w (ls_bw0 w hw))
theorem ls_nest0 : ∀ q ∈ kj_nest, Cond.methodLinkNest q.1 q.2.1 q.2.2 RX11 ∈ lw_tbl := fun q hq => mem_2 lwc_in (kj_nest.map fun q => Cond.methodLinkNest q.1 q.2.1 q.2.2 RX11) [(2, 64), (2, 81), (2, 129), (2, 165), (2, 181), (2, 191), (2, 216), (3, 3), (3, 22), (2, 134)] (by decide +kernel) _ (List.mem_map.mpr ⟨q, hq, rfl⟩)
theorem ls_nest (h : lsT s b) : ∀ q ∈ kj_nest, va_Nw (.methodLinkNest q.1 q.2.1 q.2.2 RX11) s := fun q hq => va_Nw.of rfl (h.1 _ (ls_nest0 q hq))
theorem ls_n {w : Cond} (h : lsT s b) (hw : w ∈ flatC (Jvm.Cond.and given_1 narrow_1)) : w.before #[Value.ref b] s = true := flat_of_before _ h.2 w hw
theorem ls_s0 : ∀ q ∈ sj_strs, Cond.stringRef RX11 q.1 q.2 ∈ lw_tbl := fun q hq => mem_2 lwc_in (sj_strs.map fun q => Cond.stringRef RX11 q.1 q.2) [(4, 25), (4, 36), (4, 75), (4, 77), (4, 140), (5, 209), (6, 27), (6, 48), (6, 49), (6, 72), (5, 101), (5, 135), (5, 136), (5, 92), (3, 209), (4, 68), (4, 218), (4, 149), (6, 9)] (by decide +kernel) _ (List.mem_map.mpr ⟨q, hq, rfl⟩)
theorem ls_s1 : ∀ q ∈ sj_strs, Cond.exactly (Term.string RX11 q.1) "java/lang/String" ∈ flatC (Jvm.Cond.and given_1 narrow_1) := fun q hq => mem_2 (cs := [flatC (Jvm.Cond.and given_1 narrow_1)]) (fun c hc w hw => by rw [List.mem_singleton.mp hc] at hw; exact hw) (sj_strs.map fun q => Cond.exactly (Term.string RX11 q.1) "java/lang/String") [(0, 39), (0, 80), (0, 135), (0, 165), (0, 193), (0, 488), (0, 584), (0, 625), (0, 685), (0, 728), (0, 358), (0, 412), (0, 449), (0, 323), (0, 11), (0, 105), (0, 272), (0, 236), (0, 529)] (by decide +kernel) _ (List.mem_map.mpr ⟨q, hq, rfl⟩)
theorem ls_strs (h : lsT s b) : ∀ q ∈ sj_strs, ∃ sa : Nat, vk_R RX11 q.1 q.2 sa s := by
  intro q hq
  obtain ⟨a, c, cell, k, h1, -⟩ := Cond.exactly_spec (args := #[Value.ref b]) (first := s) (o := none) (s := s) (idx := []) (ls_n h (ls_s1 q hq))
  exact ⟨a, vk_R.of (h.1 _ (ls_s0 q hq)) h1⟩
theorem ls_A : ∀ a : Nat, a < s.heap.size → ¬ (fun x : Nat => s.heap.size ≤ x) a := fun a ha h => absurd (show s.heap.size ≤ a from h) (by omega)
theorem ls_z1 (h : lsT s b) : vx_Zq Bundle.tN "UNASSIGNED_STACK" Bundle.steD (fun x => s.heap.size ≤ x) s s.heap := by
  have hts := h.1
  exact vx_Zqof (args := #[Value.ref b]) (hts _ (lwc_x 3 rfl (List.mem_of_getElem? (i := 195) (by decide +kernel)))) (hts _ (lwc_x 1 rfl (List.mem_of_getElem? (i := 13) (by decide +kernel)))) (ls_n h (List.mem_of_getElem? (i := 4) (by decide +kernel))) ls_A
theorem ls_z2 (h : lsT s b) : vx_Zq Bundle.tN "SUPPRESSED_SENTINEL" Bundle.listD (fun x => s.heap.size ≤ x) s s.heap := by
  have hts := h.1
  exact vx_Zqof (args := #[Value.ref b]) (hts _ (lwc_x 3 rfl (List.mem_of_getElem? (i := 197) (by decide +kernel)))) (hts _ (lwc_x 1 rfl (List.mem_of_getElem? (i := 13) (by decide +kernel)))) (ls_n h (List.mem_of_getElem? (i := 5) (by decide +kernel))) ls_A
theorem ls_z3 (h : lsT s b) : va_Z "java/lang/String" "COMPACT_STRINGS" "Z" (.int 1) (fun x => s.heap.size ≤ x) s s.heap := by
  have hts := h.1
  exact va_Zof (args := #[Value.ref b]) (hts _ (lwc_x 5 rfl (List.mem_of_getElem? (i := 57) (by decide +kernel)))) (hts _ (lwc_x 1 rfl (List.mem_of_getElem? (i := 22) (by decide +kernel)))) (va_eqt (ls_n h (List.mem_of_getElem? (i := 6) (by decide +kernel)))) ls_A
theorem ls_z4 (h : lsT s b) : va_Zq "jdk/internal/util/Preconditions" "SIOOBE_FORMATTER" "Ljava/util/function/BiFunction;" (fun x => s.heap.size ≤ x) s s.heap := by
  have hts := h.1
  exact va_Zqof (args := #[Value.ref b]) (hts _ (lwc_x 5 rfl (List.mem_of_getElem? (i := 65) (by decide +kernel)))) (hts _ (lwc_x 1 rfl (List.mem_of_getElem? (i := 24) (by decide +kernel)))) (ls_n h (List.mem_of_getElem? (i := 7) (by decide +kernel))) ls_A
set_option maxRecDepth 20000 in
theorem ls_tx (h : lsT s b) : ∃ tk tv : Nat, vk_S 1 [5] [[109, 116, 119, 104, 102]] (fun _ => tk) (fun _ => tv) (fun x => s.heap.size ≤ x) s s.heap ∧ vk_R RX9 64 "mtwhf" tk s := by
  have hts := h.1
  obtain ⟨adK, adV, h1, h2⟩ := vk_Sof (args := #[Value.ref b]) (s := s) (N := 1) (tm := fun _ => Term.string RX9 64) (len := [5]) (byt := [[109, 116, 119, 104, 102]]) (A := fun x => s.heap.size ≤ x) (by decide) (fun i hi => (ls_n h (List.mem_of_getElem? (i := 305) (by decide +kernel)))) (fun i hi => (ls_n h (List.mem_of_getElem? (i := 306) (by decide +kernel)))) (fun i hi => (ls_n h (List.mem_of_getElem? (i := 307) (by decide +kernel))))
    (fun i hi => by
      obtain rfl : i = 0 := by omega
      exact (ls_n h (List.mem_of_getElem? (i := 308) (by decide +kernel))))
    (fun i hi j hj => by
      obtain rfl : i = 0 := by omega
      have hj5 : j < 5 := hj
      rcases (by omega : j = 0 ∨ j = 1 ∨ j = 2 ∨ j = 3 ∨ j = 4) with e | e | e | e | e <;> subst e
      · exact (ls_n h (List.mem_of_getElem? (i := 309) (by decide +kernel)))
      · exact (ls_n h (List.mem_of_getElem? (i := 310) (by decide +kernel)))
      · exact (ls_n h (List.mem_of_getElem? (i := 311) (by decide +kernel)))
      · exact (ls_n h (List.mem_of_getElem? (i := 312) (by decide +kernel)))
      · exact (ls_n h (List.mem_of_getElem? (i := 313) (by decide +kernel))))
    (fun i j hi hj hij => absurd (show i = j by omega) hij) ls_A
  refine ⟨adK 0, adV 0, ⟨fun i hi => ?_, fun i j hi hj _ => by omega⟩, vk_R.of (hts _ (lwc_x 5 rfl (List.mem_of_getElem? (i := 47) (by decide +kernel)))) (h2 0 (by decide))⟩
  obtain rfl : i = 0 := by omega
  exact h1.1 0 hi
/-- what a method of the world asks of the tables and the old cells -/
theorem ls_R (h : lsT s b) : ∃ (D : va_G) (cs : Nat → ClassId) (tk tv : Nat), kj_K D cs s ∧ ∀ (l : Launch) (ad : Nat → Nat) (A : Nat → Prop) (N0 : Nat), (∀ x, A x → s.heap.size ≤ x) → N0 ≤ s.heap.size → sj_K (l, D.1, D.2, ad, cs, A, N0, tk, tv) s s.heap := by
  obtain ⟨D, cs, hK⟩ := ls_K h
  obtain ⟨tk, tv, h1, h2⟩ := ls_tx h
  refine ⟨D, cs, tk, tv, ⟨hK, ls_clw h, ls_nest h⟩, fun l ad A N0 hA hN => ?_⟩
  exact ⟨hN, hK, (ls_z1 h).narrow hA, (ls_z2 h).narrow hA, ls_clw h, ls_bw h, ls_strs h, h1.narrow hA, h2, (ls_z3 h).narrow hA, (ls_z4 h).narrow hA⟩
end LS
