/-! THE REFERENCE'S SEARCH 3: looks finds the first right table, or there is none -/
/-- the lessons ahead of l stand at T; l is tried from t on -/
def zLkI (D : zD) (H : Nat → Bool) (T Ws : Nat → Nat) (σ : sj_S) (l t : Nat) : Prop := (∀ o, o < l → σ 59 o = nI (T o) ∧ T o < 20 ∧ zFt D H T o ∧ σ 61 o = nI (Ws o) ∧ Ws o < 2 ^ o ∧ zEl D H T o (T o) (Ws o)) ∧
  (l < dN D → σ 59 l + nI 1 = nI t ∧ t ≤ 20 ∧ σ 61 l = nI (Ws l) ∧ Ws l < 2 ^ l ∧ zEl D H T l t (Ws l))
def zLkf (σ σ' : sj_S) : Prop := ∀ x, x ≠ 59 → x ≠ 61 → σ' x = σ x
/-- how a search from l ends: found, none, or back to one ahead -/
def zOut (G : sj_G) (D : zD) (H : Nat → Bool) (T : Nat → Nat) (l : Nat) (σ : sj_S) (P : sj_R → Prop) : Prop := ∃ ρ : sj_S, zLkf σ ρ ∧
  (((∀ R : sj_R, R = (.ok (nI 1), ρ) → P R) ∧ ∃ V, zFst D H V ∧ ∀ o, o < dN D → ρ 59 o = nI (V o)) ∨
   ((∀ R : sj_R, R = (.ok (nI 0), ρ) → P R) ∧ ∀ V, ¬ zRi D H V) ∨
   ∃ b T' Ws, b < l ∧ (∀ o, o ≤ b → T' o = T o) ∧ (∀ R : sj_R, sj_J G 7 me_X12_looks R 23 [.ref (sj_ad G 56), .int (nI b), .null] ρ [] → P R) ∧ zLkI D H T' Ws ρ b (T' b + 1))
theorem zOut_m {G : sj_G} {D : zD} {H : Nat → Bool} {T T' : Nat → Nat} {l : Nat} {σ σ' : sj_S} {P Q : sj_R → Prop} (h : zOut G D H T l σ P) (hT : ∀ o, o < l → T o = T' o) (hs : zLkf σ' σ) (hP : ∀ R, P R → Q R) : zOut G D H T' l σ' Q := by
  obtain ⟨ρ, f, h | h | ⟨b, T2, Ws, b1, b2, b3, b4⟩⟩ := h
  · exact ⟨ρ, fun x h1 h2 => (f x h1 h2).trans (hs x h1 h2), Or.inl ⟨fun R hR => hP R (h.1 R hR), h.2⟩⟩
  · exact ⟨ρ, fun x h1 h2 => (f x h1 h2).trans (hs x h1 h2), Or.inr (Or.inl ⟨fun R hR => hP R (h.1 R hR), h.2⟩)⟩
  · exact ⟨ρ, fun x h1 h2 => (f x h1 h2).trans (hs x h1 h2), Or.inr (Or.inr ⟨b, T2, Ws, b1, fun o ho => (b2 o ho).trans (hT o (by omega)), fun R hR => hP R (b3 R hR), b4⟩)⟩
section ZLO
variable {G : sj_G} {D : zD} {U : Nat → Bool}
/-- all lessons stand: the first right table -/
theorem zLk_fst (v : okD D) {H : Nat → Bool} {T Ws : Nat → Nat} {σ : sj_S} {t : Nat} (h : zLkI D H T Ws σ (dN D) t) : zFst D H T := by
  have hri : zRi D H T := zRi_all.mpr (fun l hl => zAl_iff.mpr ⟨(h.1 l hl).2.1, (h.1 l hl).2.2.1.1, by
    rw [zRm_tot hl]
    intro hk s hs
    refine q_cnt_last (dN D) (fun m hm hp _ => ?_)
    rw [Bool.and_eq_true, decide_eq_true_eq] at hp
    obtain ⟨hkm, hsm⟩ := hp
    have hc := zRm_iff.mp (h.1 m hm).2.2.1.2.2 (by rw [hkm]; exact hk)
    have hle : q_cnt (fun o => decide (dKi D o = dKi D l) && zTk D T o s) m ≤ zCn D T m s m := q_cnt_mon m (fun o ho hp => by
      show (!decide (o = m) && (decide (dKi D o = dKi D m) && zTk D T o s)) = true
      rw [hkm, decide_eq_false (by omega : ¬ o = m)]
      exact hp)
    have hsm2 := hsm
    unfold zTk at hsm2
    rw [Bool.or_eq_true, Bool.and_eq_true, decide_eq_true_eq, decide_eq_true_eq, decide_eq_true_eq] at hsm2
    rw [hkm] at hc
    rcases hsm2 with q | ⟨q1, q2⟩
    · rw [q] at hle ⊢; omega
    · have := hc.2 q1
      rw [q2] at hle ⊢; omega, fun o ho hne => by
    by_cases q : o < l
    · exact (h.1 l hl).2.2.1.2.1 o q
    · rw [zPr_comm]
      exact (h.1 o ho).2.2.1.2.1 l (by omega)⟩)
  refine ⟨hri, fun V hV => ?_⟩
  have key : ∀ n, n ≤ dN D → zLx n T V := by
    intro n
    induction n with
    | zero => intro _; exact Or.inl (fun k hk => absurd hk (Nat.not_lt_zero k))
    | succ n ih =>
      intro hn
      rcases ih (by omega) with q | ⟨j, j1, j2, j3⟩
      · have hle := (h.1 n (by omega)).2.2.2.2.2 V hV (fun o ho _ => (q o ho).symm)
        rcases Nat.lt_or_eq_of_le hle with x | x
        · exact Or.inr ⟨n, by omega, q, x⟩
        · refine Or.inl (fun k hk => ?_)
          by_cases e : k = n
          · subst e; exact x
          · exact q k (by omega)
      · exact Or.inr ⟨j, by omega, j2, j3⟩
  exact key (dN D) (Nat.le_refl _)
/-- the search from a lesson on -/
theorem y_looks23 (ok : sj_ok G) (v : okD D) : ∀ n l, l + n = dN D → ∀ (σ : sj_S) (T Ws : Nat → Nat) (t : Nat), repM D (σ 57) → zUo D U (σ 60) → zLkI D (zHu D U) T Ws σ l t →
    zOut G D (zHu D U) T l σ (fun R => sj_J G 7 me_X12_looks R 23 [.ref (sj_ad G 56), .int (nI l), .null] σ []) := by
  have h9 := v.1
  intro n
  induction n with
  | zero =>
    intro l hl σ T Ws t hM hU hI
    obtain rfl : l = dN D := by omega
    exact ⟨σ, fun _ _ _ => rfl, Or.inl ⟨fun R hR => t_X12_looks_23 ⟨_, _, y_many ok, fun _ => hR, fun q => by rw [hM.1] at q; exact absurd (nI_le (Nat.le_refl _) (by omega)) q⟩, T, zLk_fst v hI, fun o ho => (hI.1 o ho).1⟩⟩
  | succ n ihn =>
    intro l hl
    have hln : l < dN D := by omega
    have hin : vp_in (nI l) 9 := z_in (by omega) (by decide)
    have kl : (nI l).toNatClampNeg = l := nI_clamp (by omega)
    have p2 : 2 ^ l ≤ 2 ^ 9 := Nat.pow_le_pow_right (by omega) (by omega)
    -- the slots of l
    have in41 : ∀ k t (σ : sj_S) (T Ws : Nat → Nat), t + k = 20 → repM D (σ 57) → zUo D U (σ 60) → (∀ o, o < l → σ 59 o = nI (T o) ∧ T o < 20 ∧ zFt D (zHu D U) T o ∧ σ 61 o = nI (Ws o) ∧ Ws o < 2 ^ o ∧ zEl D (zHu D U) T o (T o) (Ws o)) → σ 59 l = nI t → σ 61 l = nI (Ws l) → Ws l < 2 ^ l → zEl D (zHu D U) T l t (Ws l) →
        zOut G D (zHu D U) T l σ (fun R => sj_J G 7 me_X12_looks R 41 [.ref (sj_ad G 56), .int (nI l), .null] σ []) := by
      intro k
      induction k with
      | zero =>
        intro t σ T Ws ht hM hU hP h59 h61 hW hE
        obtain rfl : t = 20 := by omega
        obtain ⟨m, m1, m2⟩ := y_highest (σ := σ) ok (show Ws l < 512 by omega)
        have c61 : sj_C G 2 me_X12_highest [.int (σ 61 (nI l).toNatClampNeg)] σ (.ok (zk m), σ) := by rw [kl, h61]; exact m1
        have le20 : nI 20 ≤ σ 59 (nI l).toNatClampNeg := by rw [kl, h59]; exact nI_le (Nat.le_refl _) (by decide)
        by_cases e : m = 0
        · subst e
          have w0 : Ws l = 0 := Classical.byContradiction (fun q => absurd (m2.2 q).1 (Nat.lt_irrefl 0))
          refine ⟨σ, fun _ _ _ => rfl, Or.inr (Or.inl ⟨fun R hR => t_X12_looks_41 ⟨hin, fun _ => ⟨hin, fun _ => ⟨hin, _, _, c61, fun q => absurd (show zk 0 = -1 from rfl) q, fun _ => hR⟩, fun q => absurd le20 q⟩, fun q => absurd le20 q⟩, fun V hV => ?_⟩)⟩
          have := hE V hV (fun o _ hb => by rw [w0, Nat.zero_testBit] at hb; cases hb)
          have := (hV l hln).1
          omega
        · have wn : Ws l ≠ 0 := fun q => e (m2.1 q)
          obtain ⟨b1, b2, b3⟩ := m2.2 wn
          obtain ⟨b, rfl⟩ : ∃ b, m = b + 1 := ⟨m - 1, by omega⟩
          rw [Nat.add_sub_cancel] at b2
          have hbl : b < l := Classical.byContradiction (fun q => by
            rw [Nat.testBit_lt_two_pow (Nat.lt_of_lt_of_le hW (Nat.pow_le_pow_right (by omega) (by omega : l ≤ b)))] at b2
            cases b2)
          obtain ⟨g1, g2, g3, g4, g5, g6⟩ := hP b hbl
          have hinb : vp_in (nI b) 9 := z_in (by omega) (by decide)
          have kb : (nI b).toNatClampNeg = b := nI_clamp (by omega)
          have ezk : zk (b + 1) = nI b := by unfold zk; rw [if_neg (by omega), Nat.add_sub_cancel]
          have emask : (nI 1 <<< (nI b &&& 31)) - nI 1 = nI (2 ^ b - 1) := by rw [z_pw2 b (by omega), pk_sub (Nat.one_le_two_pow)]
          -- the set of b grows
          have hbit : ∀ i, (Ws b ||| (Ws l &&& (2 ^ b - 1))).testBit i = ((Ws b).testBit i || ((Ws l).testBit i && decide (i < b))) := fun i => by
            rw [Nat.testBit_or, Nat.testBit_and, Nat.testBit_two_pow_sub_one]
          have hlt : (Ws b ||| (Ws l &&& (2 ^ b - 1))) < 2 ^ b := Nat.or_lt_two_pow g5 (Nat.and_lt_two_pow _ (by have := Nat.two_pow_pos b; omega))
          refine ⟨sj_st σ 61 b (nI (Ws b ||| (Ws l &&& (2 ^ b - 1)))), fun x _ h2 => z_stn h2, Or.inr (Or.inr ⟨b, T, fun o => if o = b then Ws b ||| (Ws l &&& (2 ^ b - 1)) else Ws o, hbl, fun _ _ => rfl, fun R hR => t_X12_looks_41 ⟨hin, fun _ => ⟨hin, fun _ => ⟨hin, _, _, c61, fun _ => ?_, fun q => ?_⟩, fun q => absurd le20 q⟩, fun q => absurd le20 q⟩, fun o ho => ?_, fun _ => ?_⟩)⟩
          · rw [ezk, kb, kl, h61, g4, emask, nx_and, nx_or]
            exact ⟨hinb, hin, hinb, hR⟩
          · rw [ezk] at q
            exact absurd q (z_nm1 (by omega))
          · obtain ⟨f1, f2, f3, f4, f5, f6⟩ := hP o (by omega)
            have ne : o ≠ b := by omega
            rw [z_stn (show 59 ≠ 61 by decide), z_sti ne]
            simp only [if_neg ne]
            exact ⟨f1, f2, f3, f4, f5, f6⟩
          · rw [z_stn (show 59 ≠ 61 by decide), g1, nI_add, z_ste]
            have eif : (if b = b then Ws b ||| (Ws l &&& (2 ^ b - 1)) else Ws b) = (Ws b ||| (Ws l &&& (2 ^ b - 1))) := if_pos rfl
            show nI (T b + 1) = nI (T b + 1) ∧ _ ≤ 20 ∧ nI (Ws b ||| (Ws l &&& (2 ^ b - 1))) = nI (if b = b then Ws b ||| (Ws l &&& (2 ^ b - 1)) else Ws b) ∧ (if b = b then Ws b ||| (Ws l &&& (2 ^ b - 1)) else Ws b) < 2 ^ b ∧ zEl D (zHu D U) T b (T b + 1) (if b = b then Ws b ||| (Ws l &&& (2 ^ b - 1)) else Ws b)
            rw [eif]
            refine ⟨rfl, by omega, rfl, hlt, fun V hV hw => ?_⟩
            have h1 := g6 V hV (fun o ho hb => hw o ho (by rw [hbit, hb]; rfl))
            rcases Nat.lt_or_eq_of_le h1 with x | x
            · exact x
            · exfalso
              have := hE V hV (fun o ho hb => by
                by_cases q : o < b
                · exact hw o q (by rw [hbit, hb, decide_eq_true q]; simp)
                · by_cases q2 : o = b
                  · subst q2; exact x.symm
                  · rw [b3 o (by omega)] at hb; cases hb)
              have := (hV l hln).1
              omega
      | succ k ihk =>
        intro t σ T Ws ht hM hU hP h59 h61 hW hE
        have n20 : ¬ nI 20 ≤ σ 59 (nI l).toNatClampNeg := by rw [kl, h59]; exact nI_ge (by omega) (by decide)
        -- the table with l at t
        have eT : ∀ o, o < l → T o = (fun o => if o = l then t else T o) o := fun o ho => by
          show T o = if o = l then t else T o
          rw [if_neg (by omega)]
        generalize hT1 : (fun o => if o = l then t else T o) = T1 at eT
        have eTl : T1 l = t := by rw [← hT1]; exact if_pos rfl
        have hP1 : ∀ o, o < l → σ 59 o = nI (T1 o) ∧ T1 o < 20 ∧ zFt D (zHu D U) T1 o ∧ σ 61 o = nI (Ws o) ∧ Ws o < 2 ^ o ∧ zEl D (zHu D U) T1 o (T1 o) (Ws o) := fun o ho => by
          obtain ⟨f1, f2, f3, f4, f5, f6⟩ := hP o ho
          rw [← eT o ho]
          exact ⟨f1, f2, zFt_congr (fun o' ho' => eT o' (by omega)) f3, f4, f5, zEl_congr (fun o' ho' => eT o' (by omega)) f6⟩
        have hE1 : zEl D (zHu D U) T1 l t (Ws l) := zEl_congr eT hE
        obtain ⟨b, W', c1, c2, c3, c4, c5⟩ := y_fits (T := T1) ok hM v hU hln (fun o ho => by
          by_cases q : o = l
          · subst q; rw [eTl]; exact ⟨h59, by omega⟩
          · exact ⟨(hP1 o (by omega)).1, (hP1 o (by omega)).2.1⟩) h61 hW
        have hE2 : zEl D (zHu D U) T1 l t W' := fun V hV hw => hE1 V hV (fun o ho hb => hw o ho (c3 o hb))
        generalize hσ1 : sj_st σ 61 l (nI W') = σ1 at c1
        have a59 : σ1 59 = σ 59 := by rw [← hσ1]; exact z_stn (by decide)
        have a57 : σ1 57 = σ 57 := by rw [← hσ1]; exact z_stn (by decide)
        have a60 : σ1 60 = σ 60 := by rw [← hσ1]; exact z_stn (by decide)
        have a61 : ∀ o, o < l → σ1 61 o = σ 61 o := fun o ho => by rw [← hσ1]; exact z_sti (by omega)
        have a61l : σ1 61 l = nI W' := by rw [← hσ1]; exact z_ste
        have hs1 : zLkf σ σ1 := fun x _ h2 => by rw [← hσ1]; exact z_stn h2
        -- the next slot
        have next : ∀ (ρ : sj_S) (T2 Ws2 : Nat → Nat), zLkf σ ρ → (∀ o, o < l → T2 o = T o) → (∀ o, o < l → ρ 59 o = nI (T2 o) ∧ T2 o < 20 ∧ zFt D (zHu D U) T2 o ∧ ρ 61 o = nI (Ws2 o) ∧ Ws2 o < 2 ^ o ∧ zEl D (zHu D U) T2 o (T2 o) (Ws2 o)) → ρ 59 l = nI (t + 1) → ρ 61 l = nI (Ws2 l) → Ws2 l < 2 ^ l → zEl D (zHu D U) T2 l (t + 1) (Ws2 l) →
            zOut G D (zHu D U) T l σ (fun R => sj_J G 7 me_X12_looks R 41 [.ref (sj_ad G 56), .int (nI l), .null] ρ []) := fun ρ T2 Ws2 f0 f1 f2 f3 f4 f5 f6 =>
          zOut_m (ihk (t + 1) ρ T2 Ws2 (by omega) (by rw [f0 57 (by decide) (by decide)]; exact hM) (by rw [f0 60 (by decide) (by decide)]; exact hU) f2 f3 f4 f5 f6) f1 f0 (fun R h => h)
        cases hb : b
        · -- it does not stand there
          rw [hb] at c1
          refine zOut_m (next (sj_st σ1 59 l (nI (t + 1))) T1 (fun o => if o = l then W' else Ws o) (fun x h1 h2 => by rw [z_stn h1, hs1 x h1 h2]) (fun o ho => (eT o ho).symm) (fun o ho => ?_) z_ste ?_ ?_ ?_) (fun _ _ => rfl) (fun _ _ _ => rfl) (fun R hR => t_X12_looks_41 ⟨hin, fun q => absurd q n20, fun _ => ⟨_, _, c1, fun q => absurd z_00 q, fun _ => ⟨hin, hin, ?_⟩⟩⟩)
          · have ne : o ≠ l := by omega
            obtain ⟨f1, f2, f3, f4, f5, f6⟩ := hP1 o ho
            rw [z_sti ne, z_stn (show 61 ≠ 59 by decide), a59, a61 o ho]
            simp only [if_neg ne]
            exact ⟨f1, f2, f3, f4, f5, f6⟩
          · rw [z_stn (show 61 ≠ 59 by decide), a61l]; simp
          · simpa using c2
          · have e : (if l = l then W' else Ws l) = W' := if_pos rfl
            show zEl D (zHu D U) T1 l (t + 1) (if l = l then W' else Ws l)
            rw [e]
            intro V hV hw
            have h1 := hE2 V hV hw
            have h2 := c5 hb V hV hw
            rw [eTl] at h2
            omega
          · rw [kl, a59, h59, nI_add]
            exact hR
        · -- it stands there: the lessons behind it
          rw [hb] at c1
          have hft := c4 hb
          have n20' : ¬ nI 20 ≤ σ1 59 (nI l).toNatClampNeg := by rw [a59]; exact n20
          have hP2 : ∀ o, o < l + 1 → σ1 59 o = nI (T1 o) ∧ T1 o < 20 ∧ zFt D (zHu D U) T1 o ∧ σ1 61 o = nI (if o = l then W' else Ws o) ∧ (if o = l then W' else Ws o) < 2 ^ o ∧ zEl D (zHu D U) T1 o (T1 o) (if o = l then W' else Ws o) := fun o ho => by
            by_cases q : o = l
            · subst q
              rw [if_pos rfl, a59, h59, eTl, a61l]
              exact ⟨rfl, by omega, hft, rfl, c2, hE2⟩
            · obtain ⟨f1, f2, f3, f4, f5, f6⟩ := hP1 o (by omega)
              rw [if_neg q, a59, a61 o (by omega)]
              exact ⟨f1, f2, f3, f4, f5, f6⟩
          -- where it goes on
          have deep : zOut G D (zHu D U) T1 (l + 1) σ1 (fun R => sj_J G 7 me_X12_looks R 41 [.ref (sj_ad G 56), .int (nI l), .null] σ []) := by
            by_cases q : l + 1 < dN D
            · have kl1 : (nI (l + 1)).toNatClampNeg = l + 1 := nI_clamp (by omega)
              have hin1 : vp_in (nI (l + 1)) 9 := z_in (by omega) (by decide)
              refine zOut_m (ihn (l + 1) (by omega) (sj_st (sj_st σ1 59 (l + 1) (-1)) 61 (l + 1) (nI 0)) T1 (fun o => if o = l + 1 then 0 else if o = l then W' else Ws o) 0 (by rw [z_stn (by decide), z_stn (by decide), a57]; exact hM) (by rw [z_stn (by decide), z_stn (by decide), a60]; exact hU) ⟨fun o ho => ?_, fun _ => ?_⟩) (fun _ _ => rfl) (fun x h1 h2 => by rw [z_stn h2, z_stn h1]) (fun R hR => t_X12_looks_41 ⟨hin, fun x => absurd x n20, fun _ => ⟨_, _, c1, fun _ => ⟨hin, fun x => absurd x n20', fun _ => ⟨_, _, y_many ok, fun x => ?_, fun _ => ⟨sj_st (sj_st σ1 59 (l + 1) (-1)) 61 (l + 1) (nI 0), c_X12_begins ok ?_, ?_⟩⟩⟩, fun x => absurd x z_10⟩⟩)
              · have ne : o ≠ l + 1 := by omega
                rw [z_stn (show 59 ≠ 61 by decide), z_sti ne, z_sti ne, z_stn (show 61 ≠ 59 by decide)]
                simp only [if_neg ne]
                exact hP2 o ho
              · rw [z_stn (show 59 ≠ 61 by decide), z_ste, z_ste]
                exact ⟨by decide, by omega, congrArg nI (if_pos rfl).symm, by show (if l + 1 = l + 1 then 0 else if l + 1 = l then W' else Ws (l + 1)) < 2 ^ (l + 1); rw [if_pos rfl]; exact Nat.two_pow_pos _, fun V _ _ => Nat.zero_le _⟩
              · rw [a57, hM.1, nI_add] at x
                exact absurd x (nI_ge (by omega) (by omega))
              · unfold wp_X12_begins_0
                rw [nI_add, kl1]
                exact ⟨hin1, hin1, rfl⟩
              · rw [nI_add]
                exact hR
            · refine zOut_m (ihn (l + 1) (by omega) σ1 T1 (fun o => if o = l then W' else Ws o) 0 (by rw [a57]; exact hM) (by rw [a60]; exact hU) ⟨hP2, fun x => absurd x q⟩) (fun _ _ => rfl) (fun _ _ _ => rfl) (fun R hR => t_X12_looks_41 ⟨hin, fun x => absurd x n20, fun _ => ⟨_, _, c1, fun _ => ⟨hin, fun x => absurd x n20', fun _ => ⟨_, _, y_many ok, fun _ => ?_, fun x => ?_⟩⟩, fun x => absurd x z_10⟩⟩)
              · rw [nI_add]
                exact hR
              · rw [a57, hM.1, nI_add] at x
                exact absurd (nI_le (by omega) (by omega)) x
          obtain ⟨ρ, f, d | d | ⟨b', T2, Ws2, d1, d2, d3, d4⟩⟩ := deep
          · exact ⟨ρ, fun x h1 h2 => (f x h1 h2).trans (hs1 x h1 h2), Or.inl d⟩
          · exact ⟨ρ, fun x h1 h2 => (f x h1 h2).trans (hs1 x h1 h2), Or.inr (Or.inl d)⟩
          · by_cases q : b' = l
            · subst q
              obtain ⟨i1, i2⟩ := d4
              obtain ⟨i3, i4, i5, i6, i7⟩ := i2 hln
              rw [d2 b' (Nat.le_refl _), eTl] at i3 i4 i7
              have fr : zLkf σ ρ := fun x h1 h2 => (f x h1 h2).trans (hs1 x h1 h2)
              refine zOut_m (next (sj_st ρ 59 b' (nI (t + 1))) T2 Ws2 (fun x h1 h2 => by rw [z_stn h1, fr x h1 h2]) (fun o ho => (d2 o (by omega)).trans (eT o ho).symm) (fun o ho => ?_) z_ste (by rw [z_stn (by decide)]; exact i5) i6 i7) (fun _ _ => rfl) (fun _ _ _ => rfl) (fun R hR => d3 R (t_X12_looks_23 ⟨_, _, y_many ok, fun x => ?_, fun _ => ⟨hin, hin, ?_⟩⟩))
              · rw [z_sti (by omega), z_stn (show 61 ≠ 59 by decide)]
                exact i1 o ho
              · rw [fr 57 (by decide) (by decide), hM.1] at x
                exact absurd x (nI_ge (by omega) (by omega))
              · rw [kl, i3]
                exact hR
            · exact ⟨ρ, fun x h1 h2 => (f x h1 h2).trans (hs1 x h1 h2), Or.inr (Or.inr ⟨b', T2, Ws2, by omega, fun o ho => (d2 o ho).trans (eT o (by omega)).symm, d3, d4⟩)⟩
    -- pc 23
    intro σ T Ws t hM hU hI
    obtain ⟨j1, j2, j3, j4, j5⟩ := hI.2 hln
    refine zOut_m (in41 (20 - t) t (sj_st σ 59 l (nI t)) T Ws (by omega) (by rw [z_stn (by decide)]; exact hM) (by rw [z_stn (by decide)]; exact hU) (fun o ho => ?_) z_ste (by rw [z_stn (by decide)]; exact j3) j4 j5) (fun _ _ => rfl) (fun x h1 _ => z_stn h1) (fun R hR => t_X12_looks_23 ⟨_, _, y_many ok, fun x => ?_, fun _ => ⟨hin, hin, ?_⟩⟩)
    · rw [z_sti (by omega), z_stn (show 61 ≠ 59 by decide)]
      exact hI.1 o ho
    · rw [hM.1] at x
      exact absurd x (nI_ge (by omega) (by omega))
    · rw [kl, j1]
      exact hR
theorem y_looks (ok : sj_ok G) {σ : sj_S} (hM : repM D (σ 57)) (v : okD D) (hU : zUo D U (σ 60)) : ∃ (b : Bool) (σ' : sj_S), sj_C G 7 me_X12_looks [.ref (sj_ad G 56)] σ (.ok (if b then nI 1 else nI 0), σ') ∧ zLkf σ σ' ∧
    (b = true → ∃ T, zFst D (zHu D U) T ∧ ∀ l, l < dN D → σ' 59 l = nI (T l)) ∧ (b = false → ∀ T, ¬ zRi D (zHu D U) T) := by
  have h9 := v.1
  obtain ⟨b, b1, b2⟩ := y_isTooMuch ok hM v hU
  cases hb : b
  · rw [hb] at b1
    -- the search
    have srch : zOut G D (zHu D U) (fun _ => 0) 0 σ (fun R => sj_C G 7 me_X12_looks [.ref (sj_ad G 56)] σ R) := by
      by_cases q : 0 < dN D
      · refine zOut_m (y_looks23 ok v (dN D) 0 (by omega) (sj_st (sj_st σ 59 0 (-1)) 61 0 (nI 0)) (fun _ => 0) (fun _ => 0) 0 (by rw [z_stn (by decide), z_stn (by decide)]; exact hM) (by rw [z_stn (by decide), z_stn (by decide)]; exact hU) ⟨fun o ho => absurd ho (Nat.not_lt_zero o), fun _ => ?_⟩) (fun _ _ => rfl) (fun x h1 h2 => by rw [z_stn h2, z_stn h1]) (fun R hR => c_X12_looks ok ⟨_, _, b1, fun _ => ⟨_, _, y_many ok, fun x => ?_, fun _ => ⟨_, c_X12_begins ok ⟨z_in (by decide) (by decide), z_in (by decide) (by decide), rfl⟩, hR⟩⟩, fun x => absurd z_00 x⟩)
        · rw [z_stn (show 59 ≠ 61 by decide), z_ste, z_ste]
          exact ⟨by decide, by omega, rfl, Nat.two_pow_pos _, fun V _ _ => Nat.zero_le _⟩
        · rw [hM.1] at x
          exact absurd x (nI_nle q (by omega))
      · refine zOut_m (y_looks23 ok v (dN D) 0 (by omega) σ (fun _ => 0) (fun _ => 0) 0 hM hU ⟨fun o ho => absurd ho (Nat.not_lt_zero o), fun x => absurd x q⟩) (fun _ _ => rfl) (fun _ _ _ => rfl) (fun R hR => c_X12_looks ok ⟨_, _, b1, fun _ => ⟨_, _, y_many ok, fun _ => hR, fun x => ?_⟩, fun x => absurd z_00 x⟩)
        rw [hM.1] at x
        exact absurd (nI_le (b := 0) (by omega) (by decide)) x
    obtain ⟨ρ, f, d | d | ⟨b', T2, Ws2, d1, -⟩⟩ := srch
    · exact ⟨true, ρ, d.1 _ rfl, f, fun _ => d.2, fun x => (by cases x)⟩
    · exact ⟨false, ρ, d.1 _ rfl, f, fun x => (by cases x), fun _ => d.2⟩
    · exact absurd d1 (Nat.not_lt_zero b')
  · rw [hb] at b1
    exact ⟨false, σ, c_X12_looks ok ⟨_, _, b1, fun x => absurd x z_10, fun _ => rfl⟩, fun _ _ _ => rfl, fun x => (by cases x), fun _ => b2 hb⟩
end ZLO
