/-! P59, THE CLASS ALONE 4: ill teachers, colours, exams -/
/-- school, history and, if there is one, the table -/
def kW (D : zD) (T : Nat → Nat) (σ : sj_S) : Prop := okD D ∧ repC D (σ 2) ∧ kH σ ∧ (dT D = 1 → (∀ l, l < dN D → σ 3 l = nI (T l) ∧ T l < 20) ∧ zRi D (zHd D) T)
theorem kW_e {D : zD} {T : Nat → Nat} {σ σ' : sj_S} (h : kW D T σ) (e2 : σ' 2 = σ 2) (e3 : σ' 3 = σ 3) (e4 : σ' 4 = σ 4) : kW D T σ' := by
  obtain ⟨a, b, c, d⟩ := h
  exact ⟨a, by rw [e2]; exact b, kH_e c e4, by rw [e3]; exact d⟩
theorem kW_q {D : zD} {T : Nat → Nat} {σ σ' : sj_S} (h : kW D T σ) (q : kQ σ σ') : kW D T σ' := kW_e h (q 2 (by omega)) (q 3 (by omega)) (q 4 (by omega))
theorem kW_T {D : zD} {T : Nat → Nat} {σ : sj_S} (h : kW D T σ) (hq : dT D = 1) : kT D T σ := ⟨h.1, h.2.1, hq, (h.2.2.2 hq).1, (h.2.2.2 hq).2⟩
theorem kT_W {D : zD} {T : Nat → Nat} {σ : sj_S} (h : kT D T σ) (g : kH σ) : kW D T σ := ⟨h.1, h.2.1, g, fun _ => ⟨h.2.2.2.1, h.2.2.2.2⟩⟩
section K4
variable {G : sj_G} {σ : sj_S} {D : zD} {T : Nat → Nat}
theorem kRi_up {f i n : Nat} (v : okD D) (hf : f = 14 ∨ f = 15) (h : zRi D (zHd D) T) (v' : okD (zUp D f i n)) : zRi (zUp D f i n) (zHd (zUp D f i n)) T := by
  rw [← zRi_iff v']
  rcases hf with rfl | rfl
  · exact zRtH_congr (D := D) (fun g j hg => if_neg (by omega)) ((zRi_iff v).mpr h)
  · exact zRtH_congr (D := D) (fun g j hg => if_neg (by omega)) ((zRi_iff v).mpr h)
theorem k_setIll (ok : sj_ok G) (h : kW D T σ) {t d : Nat} (b : Bool) (ht : t < 6) (hd : d < 5) : ∃ σ', sj_C G 11 me_X11_setIll [.ref (sj_ad G 0), .int (nI t), .int (nI d), .int (if b then nI 1 else nI 0)] σ (.ok (if (dIll D t).testBit d then nI 1 else nI 0), σ') ∧
    kW (zUp D 14 t (zSetN (dIll D t) d b)) T σ' ∧ kCh σ σ' := by
  obtain ⟨v, hC, hH, hT⟩ := h
  obtain ⟨B, hB, eB, e30, eP, bH, -⟩ := k_begin (σ := σ) ok hH
  have q32 := (v.2.2.2.2.2.1 t ht).2
  obtain ⟨n1, n2⟩ := z_setN5 q32 hd b
  have c1 : B 2 (105 + t) = nI (dIll D t) := by
    rw [eB 2 (by decide) (by decide) (by decide)]
    exact (hC.2.2.2.2.2.1 t ht).2
  have hp := z_putIll (σ := B) ok b ht (by omega : d < 32)
  rw [c1, n1] at hp
  generalize eτ : sj_st B 2 (105 + t) (nI (zSetN (dIll D t) d b)) = τ at hp
  have hτ : ∀ b, b ≠ 2 → τ b = B b := fun b hb => by
    subst eτ
    rw [z_stn hb]
  have hc : sj_C G 11 me_X11_setIll [.ref (sj_ad G 0), .int (nI t), .int (nI d), .int (if b then nI 1 else nI 0)] σ (.ok (if bt (nI (dIll D t)) d then nI 1 else nI 0), τ) :=
    c_X11_setIll ok (Or.inl ⟨_, z_range0 ok ht (by decide), Or.inl ⟨_, z_range0 ok hd (by decide), _, hB, _, _, hp, rfl, z_01 _⟩⟩)
  rw [z_bn _ _ (by omega)] at hc
  have v' := okD_14 (k := t) v n2
  refine ⟨τ, hc, ⟨v', ?_, kH_e bH (hτ 4 (by decide)), fun q => ⟨fun l hl => ?_, kRi_up v (Or.inl rfl) (hT q).2 v'⟩⟩, fun b h2 h3 h4 h5 h30 => by rw [hτ b h2, eB b h4 h5 h30], fun k hk => by rw [hτ 30 (by decide), e30 k hk]⟩
  · rw [← eτ, z_sta, eB 2 (by decide) (by decide) (by decide)]
    exact repC_14 v hC ht
  · rw [hτ 3 (by decide), eB 3 (by decide) (by decide) (by decide)]
    exact (hT q).1 l hl
theorem k_setApart (ok : sj_ok G) (h : kW D T σ) {t d : Nat} (ht : t < 8) (hd : d < 8) (hne : t ≠ d) : ∃ (D' : zD) (σ' : sj_S), sj_C G 11 me_X11_setApart [.ref (sj_ad G 0), .int (nI t), .int (nI d), .int (nI 1)] σ (.ok (if (dAp D t).testBit d then nI 1 else nI 0), σ') ∧ kW D' T σ' ∧ kCh σ σ' ∧
    (∀ f, f ≠ 15 → ∀ j, D' f j = D f j) ∧ ∀ e o, e < 8 → o < 8 → (dAp D' e).testBit o = ((dAp D e).testBit o || (decide (e = t) && decide (o = d)) || (decide (e = d) && decide (o = t))) := by
  obtain ⟨v, hC, hH, hT⟩ := h
  have hni : ¬ nI t = nI d := by
    rw [nI_eq (by omega) (by omega)]
    exact hne
  obtain ⟨B, hB, eB, e30, eP, bH, -⟩ := k_begin (σ := σ) ok hH
  have vt := (v.2.2.2.2.2.2.2 t ht).1
  have vd := (v.2.2.2.2.2.2.2 d hd).1
  obtain ⟨n1, n2⟩ := z_setN8 vt hd true
  obtain ⟨n3, n4⟩ := z_setN8 vd ht true
  have c1 : ∀ e, e < 8 → B 2 (111 + e) = nI (dAp D e) := fun e he => by
    rw [eB 2 (by decide) (by decide) (by decide)]
    exact hC.2.2.2.2.2.2.2 e he
  have hp := z_putApart (σ := B) ok true ht hd hne
  rw [c1 t ht, c1 d hd, n1, n3] at hp
  generalize eτ : sj_st (sj_st B 2 (111 + d) (nI (zSetN (dAp D d) t true))) 2 (111 + t) (nI (zSetN (dAp D t) d true)) = τ at hp
  have hτ : ∀ b, b ≠ 2 → τ b = B b := fun b hb => by
    subst eτ
    rw [z_stn hb, z_stn hb]
  have hc : sj_C G 11 me_X11_setApart [.ref (sj_ad G 0), .int (nI t), .int (nI d), .int (if true then nI 1 else nI 0)] σ (.ok (if bt (nI (dAp D t)) d then nI 1 else nI 0), τ) :=
    c_X11_setApart ok (Or.inl ⟨_, z_range0 ok ht (by decide), Or.inl ⟨_, z_range0 ok hd (by decide), fun _ => ⟨_, hB, _, _, hp, rfl, z_01 _⟩, fun h => absurd h hni⟩⟩)
  rw [z_bn _ _ (by omega), if_pos rfl] at hc
  have v1 := okD_15 v ht hd hne true n2 n4
  have eap : ∀ e, dAp (zUp (zUp D 15 d (zSetN (dAp D d) t true)) 15 t (zSetN (dAp D t) d true)) e = if e = t then zSetN (dAp D t) d true else if e = d then zSetN (dAp D d) t true else dAp D e := fun e => rfl
  have eof : ∀ f, f ≠ 15 → ∀ j, (zUp (zUp D 15 d (zSetN (dAp D d) t true)) 15 t (zSetN (dAp D t) d true)) f j = D f j := fun f hf j => by
    unfold zUp
    rw [if_neg hf, if_neg hf]
  refine ⟨_, τ, hc, ⟨v1, ?_, kH_e bH (hτ 4 (by decide)), fun q => ⟨fun l hl => ?_, ?_⟩⟩, ⟨fun b h2 h3 h4 h5 h30 => by rw [hτ b h2, eB b h4 h5 h30], fun k hk => by rw [hτ 30 (by decide), e30 k hk]⟩, eof, fun e o he ho => ?_⟩
  · have e2 : τ 2 = upd (upd (σ 2) (111 + d) (nI (zSetN (dAp D d) t true))) (111 + t) (nI (zSetN (dAp D t) d true)) := by
      rw [← eτ, z_sta, z_sta, eB 2 (by decide) (by decide) (by decide)]
    rw [e2]
    exact repC_15 (q := True) ⟨v.1, v.2.1, trivial⟩ (repC_15 v hC)
  · rw [hτ 3 (by decide), eB 3 (by decide) (by decide) (by decide)]
    exact (hT q).1 l hl
  · rw [← zRi_iff v1]
    exact zRtH_congr (D := D) (fun g j hg => eof g (by omega) j) ((zRi_iff v).mpr (hT q).2)
  · rw [eap]
    by_cases e1 : e = t
    · rw [if_pos e1, z_setNb8 vt hd ho, e1, decide_eq_true rfl]
      by_cases e2 : o = d
      · rw [if_pos e2, decide_eq_true e2]; simp
      · rw [if_neg e2, decide_eq_false e2, decide_eq_false (fun q => hne q)]; simp
    · rw [if_neg e1, decide_eq_false e1]
      by_cases e3 : e = d
      · rw [if_pos e3, z_setNb8 vd ht ho, e3, decide_eq_true rfl]
        by_cases e2 : o = t
        · rw [if_pos e2, decide_eq_true e2]; simp
        · rw [if_neg e2, decide_eq_false e2]; simp
      · rw [if_neg e3, decide_eq_false e3]; simp
theorem k_colour (ok : sj_ok G) (h : kW D T σ) {l : Nat} (hl : l < dN D) : ∃ σ', sj_C G 10 me_X11_colour [.ref (sj_ad G 0), .int (nI l)] σ (.ok (nI (zCo D (zMo D) (dN D) l)), σ') ∧ kQ σ σ' := by
  obtain ⟨v, hC, -, -⟩ := h
  have h9 := v.1
  obtain ⟨g, hc, hg⟩ := z_paint (σ := σ) ok hC v
  refine ⟨sj_up σ 40 g, c_X11_colour ok (Or.inl ⟨_, z_requireLesson0 ok hC v hl, _, hc, z_in (by omega) (by decide), ?_⟩), fun b hb => z_upn (by omega)⟩
  rw [nI_clamp (by omega), sj_up_s, hg l hl]
theorem k_most (ok : sj_ok G) (h : kW D T σ) : sj_C G 5 me_X11_most [.ref (sj_ad G 0)] σ (.ok (nI (zMf (fun t => zTot D 1 t (dN D)) 6 0 (zMf (fun g => zTot D 0 g (dN D)) 4 0 0))), σ) :=
  c_X11_most ok ⟨_, _, z_mostOf ok h.2.1 h.1, rfl⟩
/-- the days of exams -/
def kEx (D : zD) (d : Nat) (g : Nat → Nat) : Prop := 1 ≤ d ∧ d ≤ 8 ∧ zEf D d 8 0 (fun _ => 0) = some g ∧ ∀ c, 1 ≤ c → c < d → zEf D c 8 0 (fun _ => 0) = none
theorem k_daysNeeded (ok : sj_ok G) (h : kW D T σ) {d : Nat} {g : Nat → Nat} (hE : kEx D d g) : ∃ σ', sj_C G 42 me_X11_daysNeeded [.ref (sj_ad G 0)] σ (.ok (nI d), σ') ∧ kQ σ σ' := by
  obtain ⟨h1, h8, hg, hn⟩ := hE
  obtain ⟨τ, hc, t1, t2⟩ := z_plan (σ := σ) (D := D) ok h.2.1.2.2.2.2.2.2.2 h1 h8 hg hn
  exact ⟨τ, c_X11_daysNeeded ok ⟨_, _, hc, rfl⟩, fun b hb => t1 b (by omega)⟩
theorem k_examDay (ok : sj_ok G) (h : kW D T σ) {d e : Nat} {g : Nat → Nat} (hE : kEx D d g) (he : e < 8) : ∃ σ', sj_C G 42 me_X11_examDay [.ref (sj_ad G 0), .int (nI e)] σ (.ok (nI (g e)), σ') ∧ kQ σ σ' := by
  obtain ⟨h1, h8, hg, hn⟩ := hE
  obtain ⟨τ, hc, t1, t2⟩ := z_plan (σ := σ) (D := D) ok h.2.1.2.2.2.2.2.2.2 h1 h8 hg hn
  refine ⟨τ, c_X11_examDay ok (Or.inl ⟨_, z_range0 ok he (by decide), _, _, hc, z_in (by omega) (by decide), ?_⟩), fun b hb => t1 b (by omega)⟩
  rw [nI_clamp (by omega), t2 e he]
theorem k_group (ok : sj_ok G) (h : kW D T σ) : sj_C G 5 me_X11_group [.ref (sj_ad G 0)] σ (.ok (nI (zGb D 255)), σ) :=
  c_X11_group ok ⟨_, _, z_greatestGroup ok h.1 h.2.1.2.2.2.2.2.2.2, rfl⟩
theorem k_substitute (ok : sj_ok G) (h : kT D T σ) {l s : Nat} (hl : l < dN D) (hs : s < 20) : ∃ σ', sj_C G 43 me_X11_substitute [.ref (sj_ad G 0), .int (nI l), .int (nI s)] σ (.ok (zTkr D T s l), σ') ∧ kQ σ σ' := by
  have h9 := h.1.1
  obtain ⟨τ, c1, c2, c3⟩ := z_coverPlan (σ := σ) (D := D) (T := T) (s := s) ok h.2.1 h.1 h.2.2.2.1 hs
  refine ⟨τ, c_X11_substitute ok (Or.inl ⟨_, z_requireLesson0 ok h.2.1 h.1 hl, Or.inl ⟨_, z_range0 ok hs (by decide), Or.inl ⟨_, z_requireTable0 ok (kT_t h), _, c1, z_in (by omega) (by decide), ?_⟩⟩⟩), fun b hb => c2 b (by omega) (by omega) (by omega)⟩
  rw [nI_clamp (by omega), c3.2.1 l (by omega)]
  rfl
theorem k_ill (ok : sj_ok G) (h : kT D T σ) {d : Nat} (b : Bool) (hd : d < 5) : ∃ σ', sj_C G 43 me_X11_ill [.ref (sj_ad G 0), .int (nI d), .int (if b then nI 1 else nI 0)] σ (.ok (nI (zSm (zIl D T b) 4 (d * 4) 0)), σ') ∧ kQ σ σ' := by
  obtain ⟨τ, c1, c2⟩ := z_illL (σ := σ) ok h.2.1 h.1 h.2.2.2.1 hd b 4 (d * 4) 0 σ (by omega) (fun _ _ _ _ => rfl)
  refine ⟨τ, c_X11_ill ok (Or.inl ⟨_, z_range0 ok hd (by decide), Or.inl ⟨_, z_requireTable0 ok (kT_t h), ?_⟩⟩), fun b hb => c2 b (by omega) (by omega) (by omega)⟩
  rw [pk_mul]
  exact c1
theorem k_takes (ok : sj_ok G) (h : kT D T σ) {t : Nat} (ht : t < 6) : ∃ σ', sj_C G 43 me_X11_takes [.ref (sj_ad G 0), .int (nI t)] σ (.ok (nI (zSm (zTq D T t) 20 0 0)), σ') ∧ kQ σ σ' := by
  obtain ⟨τ, c1, c2⟩ := z_takesL (σ := σ) ok h.2.1 h.1 h.2.2.2.1 ht 20 0 0 σ (by omega) (fun _ _ _ _ => rfl)
  exact ⟨τ, c_X11_takes ok (Or.inl ⟨_, z_range0 ok ht (by decide), Or.inl ⟨_, z_requireTable0 ok (kT_t h), c1⟩⟩), fun b hb => c2 b (by omega) (by omega) (by omega)⟩
end K4
