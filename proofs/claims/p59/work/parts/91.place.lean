/-! FINDER 2: fits, canTakeMore, canTakeIn, canChoose, canGoOn -/
theorem zRuO_fr {D : zD} {H : Nat → Bool} {O : Nat → Nat → Bool} {σ σ' : sj_S} (h : zRuO D H O σ 18) (e : ∀ b, 18 ≤ b → b ≤ 28 → σ' b = σ b) : zRuO D H O σ' 18 := by
  unfold zRuO
  rw [e 18 (by decide) (by decide), e (18 + 1) (by decide) (by decide), e (18 + 2) (by decide) (by decide), e (18 + 3) (by decide) (by decide), e (18 + 4) (by decide) (by decide), e (18 + 5) (by decide) (by decide), e (18 + 6) (by decide) (by decide), e (18 + 7) (by decide) (by decide), e (18 + 8) (by decide) (by decide), e (18 + 9) (by decide) (by decide), e (18 + 10) (by decide) (by decide)]
  exact h
def zFp (D : zD) (H : Nat → Bool) (O : Nat → Nat → Bool) (r : Nat) (σ : sj_S) : Prop := zRuO D H O σ 18 ∧ σ 30 7 = nI r ∧ zMr D H O r (σ 33)
def zFq (D : zD) (H : Nat → Bool) (O : Nat → Nat → Bool) (r d : Nat) (σ σ' : sj_S) : Prop := (∀ b, b ≠ 33 → b ≠ 34 → b ≠ 35 → σ' b = σ b) ∧ (∀ e, e < d → σ' 34 e = σ 34 e) ∧ zMr D H O r (σ' 33)
theorem zFq_p {D : zD} {H : Nat → Bool} {O : Nat → Nat → Bool} {r d : Nat} {σ σ' : sj_S} (h : zFp D H O r σ) (q : zFq D H O r d σ σ') : zFp D H O r σ' :=
  ⟨zRuO_fr h.1 (fun b h1 h2 => q.1 b (by omega) (by omega) (by omega)), by rw [q.1 30 (by decide) (by decide) (by decide)]; exact h.2.1, q.2.2⟩
theorem zFq_t {D : zD} {H : Nat → Bool} {O : Nat → Nat → Bool} {r d d2 : Nat} {σ σ1 σ2 : sj_S} (h : zFq D H O r d σ σ1) (q : zFq D H O r d2 σ1 σ2) (hd : d ≤ d2) : zFq D H O r d σ σ2 :=
  ⟨fun b h1 h2 h3 => (q.1 b h1 h2 h3).trans (h.1 b h1 h2 h3), fun e he => (q.2.1 e (by omega)).trans (h.2.1 e he), q.2.2⟩
theorem zFq_r {D : zD} {H : Nat → Bool} {O : Nat → Nat → Bool} {r d : Nat} {σ : sj_S} (h : zFp D H O r σ) : zFq D H O r d σ σ := ⟨fun _ _ _ _ => rfl, fun _ _ => rfl, h.2.2⟩
def zPk (D : zD) (H : Nat → Bool) (O : Nat → Nat → Bool) (d f s p : Nat) : Prop := s < 512 ∧ (∀ i, s.testBit i = true → i < f ∧ i < dN D ∧ p.testBit i = false) ∧ zJp D H p s f ∧ zDk D H O d s
theorem zCh_has {D : zD} {H : Nat → Bool} {O : Nat → Nat → Bool} {c : Nat → Nat} {l : Nat} (hl : l < dN D) : ∀ n d p, zCh D H O n d p c → p.testBit l = false → ∃ e, d ≤ e ∧ (c e).testBit l = true ∧ zDk D H O e (c e) := by
  intro n
  induction n with
  | zero =>
    intro d p h hp
    have h : p = 2 ^ dN D - 1 := h
    rw [h, Nat.testBit_two_pow_sub_one, decide_eq_true hl] at hp
    cases hp
  | succ n ih =>
    intro d p h hp
    obtain ⟨h1, h2, h3, h4, h5⟩ := h
    cases hc : (c d).testBit l
    · obtain ⟨e, e1, e2, e3⟩ := ih (d + 1) _ h5 (by rw [Nat.testBit_or, hp, hc]; rfl)
      exact ⟨e, by omega, e2, e3⟩
    · exact ⟨d, Nat.le_refl d, hc, h4⟩
theorem z_m4 : ∀ m, m < 8 → ((nI m &&& nI 4 = 0) ↔ m.testBit 2 = false) := by decide +kernel
theorem z_m1b : ∀ m, m < 8 → ((nI m &&& nI 1 = 0) ↔ m.testBit 0 = false) := by decide +kernel
theorem z_m2b : ∀ m, m < 8 → ((nI m &&& nI 2 = 0) ↔ m.testBit 1 = false) := by decide +kernel
theorem z_o4 : ∀ m, m < 8 → (m ||| 4).testBit 0 = m.testBit 0 ∧ (m ||| 4).testBit 1 = m.testBit 1 := by decide +kernel
theorem z_o1a : ∀ m, m < 8 → (m ||| 1).testBit 0 = true := by decide +kernel
theorem z_o3a : ∀ m, m < 8 → (m ||| 3).testBit 0 = true := by decide +kernel
theorem z_o13 : ∀ m, m < 8 → (m ||| 1).testBit 1 = m.testBit 1 ∧ (m ||| 3).testBit 1 = true := by decide +kernel
theorem zVm_1 {D : zD} {H : Nat → Bool} {O : Nat → Nat → Bool} {d s m : Nat} (hn : ¬ zDk D H O d s) (hm : m < 8) (hv : zVm D H O d s m) : zVm D H O d s (m ||| 1) := by
  refine ⟨fun q => ?_, fun _ => ⟨fun q => ?_, fun q => absurd q hn⟩⟩
  · rw [z_o1a m hm] at q
    cases q
  · rw [(z_o13 m hm).1] at q
    cases q0 : m.testBit 0
    · rw [hv.1 q0] at q
      cases q
    · exact (hv.2 q0).mp q
theorem zVm_3 {D : zD} {H : Nat → Bool} {O : Nat → Nat → Bool} {d s m : Nat} (hk : zDk D H O d s) (hm : m < 8) : zVm D H O d s (m ||| 3) := by
  refine ⟨fun q => ?_, fun _ => ⟨fun _ => hk, fun _ => (z_o13 m hm).2⟩⟩
  rw [z_o3a m hm] at q
  cases q
section ZFP
variable {G : sj_G} {σ : sj_S} {D : zD} {H : Nat → Bool} {O : Nat → Nat → Bool} {r : Nat}
theorem z_fits (ok : sj_ok G) (v : okD D) (hO : ∀ l, l < dN D → ∀ i, i < 20 → O l i = true → zOb D H l i (dW D) = true) (hr : r < 2 ^ 27) {d l s : Nat} (hd : d < 5) (hl : l < dN D) (hs : s < 512) (h : zFp D H O r σ) :
    ∃ (b : Bool) (σ' : sj_S), sj_C G 41 me_X4_fits [.ref (sj_ad G 30), .int (nI d), .int (nI l), .int (nI s)] σ (.ok (if b then nI 1 else nI 0), σ') ∧ zFq D H O r 5 σ σ' ∧ (b = true ↔ zDk D H O d (s ||| 2 ^ l)) := by
  have h9 := v.1
  have hw : s ||| 2 ^ l < 512 := zS_lt hs (by omega)
  -- one set that is tried
  have one : ∀ t σ1, t < 512 → zFp D H O r σ1 → ∃ (m : Nat) (σ' : sj_S), m < 8 ∧ (m.testBit 1 = true ↔ zDk D H O d t) ∧ zFq D H O r 5 σ1 σ' ∧ ∀ (R : sj_R) x4 x5, wp_X4_fits_104 G R (nI d) (nI l) x4 x5 (nI m) σ' → wp_X4_fits_50 G R (nI d) (nI l) x4 x5 (nI t) σ1 := by
    intro t σ1 ht h1
    obtain ⟨m, hm8, hmk, hm0, -⟩ := z_marksOf (σ := σ1) (d := d) (s := t) ok hr h1.2.1 hd ht h1.2.2
    cases hkn : m.testBit 0
    · -- not known: it is tried
      obtain ⟨b2, σ2, s1, s2, s3, s4, s5⟩ := z_canStand (σ := σ1) ok v (d := d) (s := t) hd ht hO h1.1
      have hfp2 : zFp D H O r σ2 := ⟨zRuO_fr h1.1 (fun b h1 h2 => s2 b (by omega)), by rw [s2 30 (by decide)]; exact h1.2.1, by rw [s2 33 (by decide)]; exact h1.2.2⟩
      have hmark : ∃ σ3, sj_C G 3 me_X4_mark [.ref (sj_ad G 30), .int (nI d), .int (nI t), .int (nI 1 ||| (if (if b2 then nI 1 else nI 0) = 0 then nI 0 else nI 2))] σ2 (.ok 0, σ3) ∧ (∀ b, b ≠ 33 → σ3 b = σ2 b) ∧ zMr D H O r (σ3 33) := by
        cases hb2 : b2
        · have hnk : ¬ zDk D H O d t := fun q => by rw [s4.mpr q] at hb2; cases hb2
          rw [show (nI 1 ||| (if (if false = true then nI 1 else nI 0) = 0 then nI 0 else nI 2)) = nI 1 by decide]
          exact z_mark (σ := σ2) (k := 1) ok hr hfp2.2.1 hd ht (by decide) hfp2.2.2 (fun m hm hv => zVm_1 hnk hm hv) (fun q => by cases q)
        · have hdk : zDk D H O d t := s4.mp hb2
          rw [show (nI 1 ||| (if (if true = true then nI 1 else nI 0) = 0 then nI 0 else nI 2)) = nI 3 by decide]
          exact z_mark (σ := σ2) (k := 3) ok hr hfp2.2.1 hd ht (by decide) hfp2.2.2 (fun m hm hv => zVm_3 hdk hm) (fun q => by cases q)
      obtain ⟨σ3, t1, t2, t3⟩ := hmark
      have ekn : (nI 1 ||| (if (if b2 then nI 1 else nI 0) = 0 then nI 0 else nI 2)) = nI (if b2 then 3 else 1) := by cases b2 <;> decide
      refine ⟨if b2 then 3 else 1, σ3, by split <;> omega, by rw [← s4]; cases b2 <;> decide, ⟨fun b n1 n2 n3 => by rw [t2 b n1, s2 b n3], fun e _ => by rw [t2 34 (by decide), s2 34 (by decide)], t3⟩, fun R x4 x5 hR => ⟨_, _, hmk, fun q => absurd ((z_m1b m hm8).mpr hkn) q, fun _ => ⟨_, _, s1, ?_⟩⟩⟩
      unfold wp_X4_fits_92
      refine ⟨_, t1, ?_⟩
      rw [ekn]
      exact hR
    · -- known
      refine ⟨m, σ1, hm8, hm0.2 hkn, zFq_r h1, fun R x4 x5 hR => ⟨_, _, hmk, fun _ => hR, fun q => ?_⟩⟩
      have := (z_m1b m hm8).mp q
      rw [hkn] at this
      cases this
  have key : ∀ k o σ1, o + k = dN D + 1 → zFq D H O r 5 σ σ1 → (o = dN D + 1 → zDk D H O d (s ||| 2 ^ l)) →
      ∃ (b : Bool) (σ' : sj_S), sj_J G 41 me_X4_fits (.ok (if b then nI 1 else nI 0), σ') 10 [.ref (sj_ad G 30), .int (nI d), .int (nI l), .null, .int (nI (s ||| 2 ^ l)), .int (nI o), .null, .null] σ1 [] ∧ zFq D H O r 5 σ σ' ∧ (b = true ↔ zDk D H O d (s ||| 2 ^ l)) := by
    intro k
    induction k with
    | zero =>
      intro o σ1 ho hq hend
      have h1 := zFq_p h hq
      refine ⟨true, σ1, t_X4_fits_10 ⟨fun _ => rfl, fun q => ?_⟩, hq, fun _ => hend (by omega), fun _ => rfl⟩
      rw [h1.1.1] at q
      exact absurd (nI_lt (by omega) (by omega)) q
    | succ k ih =>
      intro o σ1 ho hq hend
      have h1 := zFq_p h hq
      have hnlt : ¬ (σ1 18 0) < nI o := by rw [h1.1.1]; exact nI_nlt (by omega) (by omega)
      -- which set
      have ht : ∃ t, t < 512 ∧ (if (σ1 18 0) ≤ nI o then nI (s ||| 2 ^ l) else (nI (s ||| 2 ^ l) &&& ((nI 1 <<< (nI o &&& 31)) ||| (nI 1 <<< (nI l &&& 31))))) = nI t ∧ (zDk D H O d (s ||| 2 ^ l) → zDk D H O d t) ∧ (o = dN D → t = s ||| 2 ^ l) := by
        rw [h1.1.1]
        by_cases e : o = dN D
        · exact ⟨s ||| 2 ^ l, hw, if_pos (nI_le (by omega) (by omega)), id, fun _ => rfl⟩
        · refine ⟨(s ||| 2 ^ l) &&& (2 ^ o ||| 2 ^ l), Nat.lt_of_le_of_lt Nat.and_le_left hw, ?_, fun hk => zDk_mono hk (fun i _ hi => ?_), fun q => absurd q e⟩
          · rw [if_neg (nI_ge (by omega) (by omega)), z_pw2 o (by omega), z_pw2 l (by omega), nx_or, nx_and]
          · rw [Nat.testBit_and, Bool.and_eq_true] at hi
            exact hi.1
      obtain ⟨t, t1, t2, t3, t4⟩ := ht
      obtain ⟨m, σ2, m1, m2, m3, m4⟩ := one t σ1 t1 h1
      have hq2 := zFq_t hq m3 (Nat.le_refl 5)
      cases hm : m.testBit 1
      · -- it doesn't stand
        have hnk : ¬ zDk D H O d (s ||| 2 ^ l) := fun q => by
          rw [m2.mpr (t3 q)] at hm
          cases hm
        refine ⟨false, σ2, t_X4_fits_10 ⟨fun q => absurd q hnlt, fun _ => ?_⟩, hq2, fun q => (by cases q), fun q => absurd q hnk⟩
        rw [t2]
        exact m4 _ _ _ ⟨fun q => absurd ((z_m2b m m1).mpr hm) q, fun _ => rfl⟩
      · obtain ⟨b, σ', r1, r2, r3⟩ := ih (o + 1) σ2 (by omega) hq2 (fun e => by
          rw [← t4 (by omega)]
          exact m2.mp hm)
        refine ⟨b, σ', t_X4_fits_10 ⟨fun q => absurd q hnlt, fun _ => ?_⟩, r2, r3⟩
        rw [t2]
        refine m4 _ _ _ ⟨fun _ => ?_, fun q => ?_⟩
        · rw [nI_add]
          exact r1
        · have := (z_m2b m m1).mp q
          rw [hm] at this
          cases this
  obtain ⟨b, σ', r1, r2, r3⟩ := key (dN D + 1) 0 σ (by omega) (zFq_r h) (fun e => by omega)
  refine ⟨b, σ', c_X4_fits ok ?_, r2, r3⟩
  unfold wp_X4_fits_0
  rw [z_set1 (by omega)]
  exact r1
theorem z_canTakeMore (ok : sj_ok G) (v : okD D) (hO : ∀ l, l < dN D → ∀ i, i < 20 → O l i = true → zOb D H l i (dW D) = true) (hr : r < 2 ^ 27) {d s p : Nat} (hd : d < 5) (hs : s < 512) (hp : p < 512) (hpN : ∀ i, p.testBit i = true → i < dN D) (h : zFp D H O r σ) :
    ∃ (b : Bool) (σ' : sj_S), sj_C G 42 me_X4_canTakeMore [.ref (sj_ad G 30), .int (nI d), .int (nI s), .int (nI p)] σ (.ok (if b then nI 1 else nI 0), σ') ∧ zFq D H O r 5 σ σ' ∧ (b = true ↔ zKo D H O d p s) := by
  have h9 := v.1
  have key : ∀ k l σ1, l + k = dN D → zFq D H O r 5 σ σ1 → (∀ m, m < l → ¬ zK1 D H O d p s m) →
      ∃ (b : Bool) (σ' : sj_S), sj_J G 42 me_X4_canTakeMore (.ok (if b then nI 1 else nI 0), σ') 3 [.ref (sj_ad G 30), .int (nI d), .int (nI s), .int (nI p), .int (nI l), .null] σ1 [] ∧ zFq D H O r 5 σ σ' ∧ (b = true ↔ zKo D H O d p s) := by
    intro k
    induction k with
    | zero =>
      intro l σ1 hl hq hno
      have h1 := zFq_p h hq
      refine ⟨false, σ1, t_X4_canTakeMore_3 ⟨fun _ => rfl, fun q => ?_⟩, hq, fun q => (by cases q), fun ⟨m, hm, q⟩ => absurd q (hno m (by omega))⟩
      rw [h1.1.1] at q
      exact absurd (nI_le (by omega) (by omega)) q
    | succ k ih =>
      intro l σ1 hl hq hno
      have h1 := zFq_p h hq
      have hlt : ¬ (σ1 18 0) ≤ nI l := by rw [h1.1.1]; exact nI_ge (by omega) (by omega)
      -- the next one
      have on : ∀ σ2, zFq D H O r 5 σ σ2 → ¬ zK1 D H O d p s l → ∃ (b : Bool) (σ' : sj_S), wp_X4_canTakeMore_64 G (.ok (if b then nI 1 else nI 0), σ') (nI d) (nI s) (nI p) (nI l) σ2 ∧ zFq D H O r 5 σ σ' ∧ (b = true ↔ zKo D H O d p s) := by
        intro σ2 hq2 hn
        obtain ⟨b, σ', r1, r2, r3⟩ := ih (l + 1) σ2 (by omega) hq2 (fun m hm => by
          by_cases e : m = l
          · rw [e]; exact hn
          · exact hno m (by omega))
        refine ⟨b, σ', ?_, r2, r3⟩
        unfold wp_X4_canTakeMore_64
        rw [nI_add]
        exact r1
      have hbit : (((nI p ||| nI s) >>> (nI l &&& 31)) &&& nI 1) = 0 ↔ (p.testBit l || s.testBit l) = false := by
        rw [z_bit (by omega), b_or, z_bn _ _ (by omega), z_bn _ _ (by omega)]
      cases hin : (p.testBit l || s.testBit l)
      · -- it is left
        rw [Bool.or_eq_false_iff] at hin
        obtain ⟨hpl, hsl⟩ := hin
        have hif : (if (((nI p ||| nI s) >>> (nI l &&& 31)) &&& nI 1) = 0 then nI 1 else nI 0) = nI 1 := if_pos (hbit.mpr (by rw [hpl, hsl]; rfl))
        obtain ⟨b1, hmj, hb1⟩ := z_mayJoin (σ := σ1) (x5 := (-1)) (K := fun _ => true) ok v h1.1 (d := d) (l := l) (s := s) (p := p) (fun i hi => b_m1 i hi) hd (by omega) hs hp hpN
        cases hb1b : b1
        · -- it may not join
          rw [hb1b] at hmj
          have hn : ¬ zK1 D H O d p s l := fun ⟨k1, k2, k3, k4, k5⟩ => by
            have : b1 = true := hb1.mpr ⟨by
              obtain ⟨U, hU⟩ := k5
              obtain ⟨u1, -, u3⟩ := hU l (by omega) (by rw [zS_bit, decide_eq_true rfl, Bool.or_true])
              exact ⟨U l % 4, by omega, by rw [show d * 4 + U l % 4 = U l by omega]; exact u3⟩, k3, fun o ho _ hw => k4 o ho hw⟩
            rw [hb1b] at this
            cases this
          obtain ⟨b, σ', r1, r2, r3⟩ := on σ1 hq hn
          refine ⟨b, σ', t_X4_canTakeMore_3 ⟨fun q => absurd q hlt, fun _ => ?_⟩, r2, r3⟩
          rw [hif]
          exact ⟨fun q => absurd q z_10, fun _ => ⟨_, _, hmj, fun _ => r1, fun q => absurd z_00 q⟩⟩
        · rw [hb1b] at hmj
          obtain ⟨f1, f2, f3⟩ := hb1.mp hb1b
          obtain ⟨b2, σ2, g1, g2, g3⟩ := z_fits (σ := σ1) ok v hO hr hd (by omega : l < dN D) hs h1
          have hq2 := zFq_t hq g2 (Nat.le_refl 5)
          cases hb2 : b2
          · rw [hb2] at g1
            have hn : ¬ zK1 D H O d p s l := fun ⟨k1, k2, k3, k4, k5⟩ => by
              have := g3.mpr k5
              rw [hb2] at this
              cases this
            obtain ⟨b, σ', r1, r2, r3⟩ := on σ2 hq2 hn
            refine ⟨b, σ', t_X4_canTakeMore_3 ⟨fun q => absurd q hlt, fun _ => ?_⟩, r2, r3⟩
            rw [hif]
            exact ⟨fun q => absurd q z_10, fun _ => ⟨_, _, hmj, fun q => absurd q z_10, fun _ => ⟨_, _, g1, fun _ => r1, fun q => absurd z_00 q⟩⟩⟩
          · rw [hb2] at g1
            refine ⟨true, σ2, t_X4_canTakeMore_3 ⟨fun q => absurd q hlt, fun _ => ?_⟩, hq2, fun _ => ⟨l, by omega, hpl, hsl, f2, fun o ho hw => f3 o ho rfl hw, g3.mp hb2⟩, fun _ => rfl⟩
            rw [hif]
            exact ⟨fun q => absurd q z_10, fun _ => ⟨_, _, hmj, fun q => absurd q z_10, fun _ => ⟨_, _, g1, fun q => absurd q z_10, fun _ => rfl⟩⟩⟩
      · -- it is placed or chosen
        have hif : (if (((nI p ||| nI s) >>> (nI l &&& 31)) &&& nI 1) = 0 then nI 1 else nI 0) = nI 0 := if_neg (fun q => by rw [hbit.mp q] at hin; cases hin)
        obtain ⟨b, σ', r1, r2, r3⟩ := on σ1 hq (fun ⟨k1, k2, _⟩ => by rw [k1, k2] at hin; cases hin)
        refine ⟨b, σ', t_X4_canTakeMore_3 ⟨fun q => absurd q hlt, fun _ => ?_⟩, r2, r3⟩
        rw [hif]
        exact ⟨fun _ => r1, fun q => absurd z_00 q⟩
  obtain ⟨b, σ', r1, r2, r3⟩ := key (dN D) 0 σ (by omega) (zFq_r h) (fun m hm => absurd hm (Nat.not_lt_zero _))
  exact ⟨b, σ', c_X4_canTakeMore ok r1, r2, r3⟩
theorem z_canTakeIn (ok : sj_ok G) (v : okD D) (hO : ∀ l, l < dN D → ∀ i, i < 20 → O l i = true → zOb D H l i (dW D) = true) (hr : r < 2 ^ 27) {n d f s p dep : Nat} (hd : d + (n + 1) = 5) (hf : f < dN D) (hp : p < 512) (hpN : ∀ i, p.testBit i = true → i < dN D) (hpf : p.testBit f = false) (hk : zPk D H O d f s p) (hdep : 44 ≤ dep) (h : zFp D H O r σ)
    (hch : ∀ σ1, zFp D H O r σ1 → zPk D H O d (f + 1) (s ||| 2 ^ f) p → ∃ (b : Bool) (σ' : sj_S), sj_C G (dep - 1) me_X4_canChoose [.ref (sj_ad G 30), .int (nI d), .int (nI (f + 1)), .int (nI (s ||| 2 ^ f)), .int (nI p)] σ1 (.ok (if b then nI 1 else nI 0), σ') ∧ zFq D H O r d σ1 σ' ∧
      (b = true → ∃ c, zCh D H O (n + 1) d p c ∧ (∀ i, i < f + 1 → (c d).testBit i = (s ||| 2 ^ f).testBit i) ∧ ∀ e, d ≤ e → e < 5 → σ' 34 e = nI (c e)) ∧ (b = false → ∀ c, (∀ i, i < f + 1 → (c d).testBit i = (s ||| 2 ^ f).testBit i) → ¬ zCm D H O (n + 1) d p c)) :
    ∃ (b : Bool) (σ' : sj_S), sj_C G dep me_X4_canTakeIn [.ref (sj_ad G 30), .int (nI d), .int (nI f), .int (nI s), .int (nI p)] σ (.ok (if b then nI 1 else nI 0), σ') ∧ zFq D H O r d σ σ' ∧
      (b = true → ∃ c, zCh D H O (n + 1) d p c ∧ (∀ i, i < f + 1 → (c d).testBit i = (s ||| 2 ^ f).testBit i) ∧ ∀ e, d ≤ e → e < 5 → σ' 34 e = nI (c e)) ∧ (b = false → ∀ c, (∀ i, i < f + 1 → (c d).testBit i = (s ||| 2 ^ f).testBit i) → ¬ zCm D H O (n + 1) d p c) := by
  have h9 := v.1
  obtain ⟨k1, k2, k3, k4⟩ := hk
  have hsf : s.testBit f = false := by
    cases q : s.testBit f
    · rfl
    · exact absurd (k2 f q).1 (by omega)
  have hmore : s ||| 2 ^ f < 512 := zS_lt k1 (by omega)
  obtain ⟨b1, hmj, hb1⟩ := z_mayJoin (σ := σ) (x5 := (nI 1 <<< (nI f &&& 31)) - nI 1) (K := fun o => decide (o < f)) ok v h.1 (d := d) (l := f) (s := s) (p := p) (fun i hi => z_lowm f (by omega) i hi) (by omega) hf k1 hp hpN
  have eset : nI s ||| (nI 1 <<< (nI f &&& 31)) = nI (s ||| 2 ^ f) := z_set1 (by omega)
  -- what follows from a chain that takes the lesson in
  have hneed : ∀ c, (∀ i, i < f + 1 → (c d).testBit i = (s ||| 2 ^ f).testBit i) → zCm D H O (n + 1) d p c → b1 = true ∧ zDk D H O d (s ||| 2 ^ f) := by
    intro c hc hz
    obtain ⟨z1, z2, z3, z4, z5⟩ := hz
    have hcf : (c d).testBit f = true := by rw [hc f (by omega), zS_bit, decide_eq_true rfl, Bool.or_true]
    refine ⟨hb1.mpr ⟨?_, (z3 f hf hcf).1, fun o ho hof hw => ?_⟩, zDk_mono z4 (fun i _ hi => ?_)⟩
    · obtain ⟨U, hU⟩ := z4
      obtain ⟨u1, -, u3⟩ := hU f hf hcf
      exact ⟨U f % 4, by omega, by rw [show d * 4 + U f % 4 = U f by omega]; exact u3⟩
    · have hof := of_decide_eq_true hof
      rcases (z3 f hf hcf).2 o (by omega) hw with q | q
      · exact Or.inl q
      · rw [hc o (by omega), zS_bit, decide_eq_false (by omega : ¬ f = o), Bool.or_false] at q
        exact Or.inr q
    · have : i < f + 1 := by
        rw [zS_bit, Bool.or_eq_true, decide_eq_true_eq] at hi
        rcases hi with q | q
        · have := (k2 i q).1; omega
        · omega
      rw [hc i this]
      exact hi
  cases hb : b1
  · -- it may not join
    rw [hb] at hmj hneed
    refine ⟨false, σ, c_X4_canTakeIn (dd := dep - 1) ok (by omega) (by omega) ⟨_, _, hmj, fun _ => ?_, fun q => absurd z_00 q⟩, zFq_r h, fun q => (by cases q), fun _ c hc hz => ?_⟩
    · unfold wp_X4_canTakeIn_49 wp_X4_canTakeIn_50
      exact ⟨rfl, Or.inl rfl⟩
    · have := (hneed c hc hz).1
      cases this
  · rw [hb] at hmj
    obtain ⟨g1, g2, g3⟩ := hb1.mp hb
    have hfacts : ∀ o, o < f → (zWa D H f o || zWo D H f o) = true → p.testBit o = true ∨ s.testBit o = true := fun o ho hw => g3 o (by omega) (decide_eq_true ho) hw
    have hpk : zDk D H O d (s ||| 2 ^ f) → zPk D H O d (f + 1) (s ||| 2 ^ f) p := fun hdk => by
      refine ⟨hmore, fun i hi => ?_, fun l hl hsl => ?_, hdk⟩
      · rw [zS_bit, Bool.or_eq_true, decide_eq_true_eq] at hi
        rcases hi with q | q
        · obtain ⟨a1, a2, a3⟩ := k2 i q
          exact ⟨by omega, a2, a3⟩
        · subst q
          exact ⟨by omega, hf, hpf⟩
      · have hself : (s ||| 2 ^ f).testBit f = true := by rw [zS_bit, decide_eq_true rfl, Bool.or_true]
        rw [zS_bit, Bool.or_eq_true, decide_eq_true_eq] at hsl
        rcases hsl with q | q
        · obtain ⟨a1, a2⟩ := k3 l hl q
          refine ⟨a1, fun o ho hw => ?_⟩
          by_cases e : o = f
          · rw [e]; exact Or.inr hself
          · rcases a2 o (by omega) hw with x | x
            · exact Or.inl x
            · exact Or.inr (by rw [zS_bit, x]; rfl)
        · subst q
          refine ⟨g2, fun o ho hw => ?_⟩
          by_cases e : o = f
          · rw [e]; exact Or.inr hself
          · rcases hfacts o (by omega) hw with x | x
            · exact Or.inl x
            · exact Or.inr (by rw [zS_bit, x]; rfl)
    obtain ⟨b2, σ2, t1, t2, t3⟩ := z_fits (σ := σ) ok v hO hr (by omega : d < 5) hf k1 h
    have hfp2 := zFq_p h t2
    have hq2 : zFq D H O r d σ σ2 := ⟨t2.1, fun e he => t2.2.1 e (by omega), t2.2.2⟩
    cases hb2 : b2
    · rw [hb2] at t1
      refine ⟨false, σ2, c_X4_canTakeIn (dd := dep - 1) ok (by omega) (by omega) ⟨_, _, hmj, fun q => absurd q z_10, fun _ => ⟨_, _, t1, fun _ => ?_, fun q => absurd z_00 q⟩⟩, hq2, fun q => (by cases q), fun _ c hc hz => ?_⟩
      · unfold wp_X4_canTakeIn_49 wp_X4_canTakeIn_50
        exact ⟨rfl, Or.inl rfl⟩
      · have := t3.mpr (hneed c hc hz).2
        rw [hb2] at this
        cases this
    · rw [hb2] at t1
      obtain ⟨b, σ', c1, c2, c3, c4⟩ := hch σ2 hfp2 (hpk (t3.mp hb2))
      refine ⟨b, σ', c_X4_canTakeIn (dd := dep - 1) ok (by omega) (by omega) ⟨_, _, hmj, fun q => absurd q z_10, fun _ => ⟨_, _, t1, fun q => absurd q z_10, fun _ => ?_⟩⟩, zFq_t hq2 c2 (Nat.le_refl d), c3, c4⟩
      rw [nI_add, eset]
      refine ⟨_, _, c1, ?_⟩
      unfold wp_X4_canTakeIn_50
      cases b
      · rw [if_pos (show (if false = true then nI 1 else nI 0) = 0 from nI_0)]
        exact ⟨rfl, Or.inl rfl⟩
      · rw [if_neg (show ¬ (if true = true then nI 1 else nI 0) = 0 by decide)]
        exact ⟨rfl, Or.inr rfl⟩
def zKg (G : sj_G) (D : zD) (H : Nat → Bool) (O : Nat → Nat → Bool) (r n : Nat) : Prop := ∀ d p dep σ, d + n = 5 → p < 512 → (∀ i, p.testBit i = true → i < dN D) → 46 + 2 * zUn D p + 3 * n ≤ dep → zFp D H O r σ →
    ∃ (b : Bool) (σ' : sj_S), sj_C G dep me_X4_canGoOn [.ref (sj_ad G 30), .int (nI d), .int (nI p)] σ (.ok (if b then nI 1 else nI 0), σ') ∧ zFq D H O r d σ σ' ∧ (b = true → ∃ c, zCh D H O n d p c ∧ ∀ e, d ≤ e → e < 5 → σ' 34 e = nI (c e)) ∧ (b = false → ∀ c, ¬ zCm D H O n d p c)
theorem z_canChooseJ (ok : sj_ok G) (v : okD D) (hO : ∀ l, l < dN D → ∀ i, i < 20 → O l i = true → zOb D H l i (dW D) = true) (hr : r < 2 ^ 27) {n d p : Nat} (ih : zKg G D H O r n) (hd : d + (n + 1) = 5) (hp : p < 512) (hpN : ∀ i, p.testBit i = true → i < dN D) :
  ∀ k f s dep σ, f + k = dN D → zPk D H O d f s p → 45 + 2 * zUn D (p ||| s) + 3 * (n + 1) ≤ dep → zFp D H O r σ →
    ∃ (b : Bool) (σ' : sj_S), sj_J G dep me_X4_canChoose (.ok (if b then nI 1 else nI 0), σ') 3 [.ref (sj_ad G 30), .int (nI d), .null, .int (nI s), .int (nI p), .int (nI f)] σ [] ∧ zFq D H O r d σ σ' ∧
      (b = true → ∃ c, zCh D H O (n + 1) d p c ∧ (∀ i, i < f → (c d).testBit i = s.testBit i) ∧ ∀ e, d ≤ e → e < 5 → σ' 34 e = nI (c e)) ∧ (b = false → ∀ c, (∀ i, i < f → (c d).testBit i = s.testBit i) → ¬ zCm D H O (n + 1) d p c) := by
  have h9 := v.1
  intro k
  induction k with
  | zero =>
    intro f s dep σ hf hk hdep h
    obtain rfl : f = dN D := by omega
    obtain ⟨k1, k2, k3, k4⟩ := hk
    have hps : p ||| s < 512 := Nat.or_lt_two_pow (n := 9) hp k1
    have hst : zFp D H O r (sj_st σ 34 d (nI s)) := ⟨zRuO_fr h.1 (fun b h1 h2 => z_stn (by omega)), by rw [z_stn (by decide)]; exact h.2.1, by rw [z_stn (by decide)]; exact h.2.2⟩
    have hN0 : ¬ ¬ (σ 18 0) ≤ nI (dN D) := fun q => by
      rw [h.1.1] at q
      exact q (nI_le (Nat.le_refl _) (by omega))
    have hq0 : zFq D H O r d σ (sj_st σ 34 d (nI s)) := ⟨fun b n1 n2 n3 => z_stn n2, fun e he => z_sti (by omega), hst.2.2⟩
    have hsame : ∀ c, (∀ i, i < dN D → (c d).testBit i = s.testBit i) → zCm D H O (n + 1) d p c → c d = s := fun c hc hz => Nat.eq_of_testBit_eq (fun i => by
      by_cases q : i < dN D
      · exact hc i q
      · cases x : (c d).testBit i
        · cases y : s.testBit i
          · rfl
          · exact absurd (k2 i y).2.1 q
        · exact absurd (hz.2.1 i x).1 q)
    obtain ⟨bm, σm, u1, u2, u3⟩ := z_canTakeMore (σ := sj_st σ 34 d (nI s)) ok v hO hr (by omega : d < 5) k1 hp hpN hst
    have hqm : zFq D H O r d σ σm := zFq_t hq0 u2 (by omega)
    cases hbm : bm
    · rw [hbm] at u1
      obtain ⟨b, σ', r1, r2, r3, r4⟩ := ih (d + 1) (p ||| s) (dep - 1) σm (by omega) hps (fun i hi => by
        rw [Nat.testBit_or, Bool.or_eq_true] at hi
        rcases hi with q | q
        · exact hpN i q
        · exact (k2 i q).2.1) (by omega) (zFq_p hst u2)
      refine ⟨b, σ', t_X4_canChoose_3 (dd := dep - 1) (by omega) (by omega) ⟨fun _ => ⟨z_in (by omega) (by decide), ?_⟩, fun q => absurd q hN0⟩, zFq_t hqm r2 (by omega), fun hb => ?_, fun hb c hc hz => ?_⟩
      · rw [nI_clamp (by omega), nI_add, nx_or]
        refine ⟨_, _, u1, fun q => absurd z_00 q, fun _ => ⟨_, _, r1, ?_⟩⟩
        unfold wp_X4_canChoose_96
        cases b
        · rw [if_pos (show (if false = true then nI 1 else nI 0) = 0 from nI_0)]
          exact ⟨rfl, Or.inl rfl⟩
        · rw [if_neg (show ¬ (if true = true then nI 1 else nI 0) = 0 by decide)]
          exact ⟨rfl, Or.inr rfl⟩
      · obtain ⟨c, c1, c2⟩ := r3 hb
        refine ⟨fun e => if e = d then s else c e, ⟨?_, ?_, ?_, ?_, ?_⟩, fun i _ => ?_, fun e h1 h2 => ?_⟩
        · show (if d = d then s else c d) < 512
          rw [if_pos rfl]; exact k1
        · show ∀ i, (if d = d then s else c d).testBit i = true → _
          rw [if_pos rfl]
          exact fun i hi => (k2 i hi).2
        · show zJp D H p (if d = d then s else c d) (dN D)
          rw [if_pos rfl]; exact k3
        · show zDk D H O d (if d = d then s else c d)
          rw [if_pos rfl]; exact k4
        · show zCh D H O n (d + 1) (p ||| (if d = d then s else c d)) _
          rw [if_pos rfl]
          exact zCh_congr n (d + 1) _ (fun e h1 _ => by show c e = if e = d then s else c e; rw [if_neg (by omega)]) c1
        · show (if d = d then s else c d).testBit i = _
          rw [if_pos rfl]
        · show σ' 34 e = nI (if e = d then s else c e)
          by_cases q : e = d
          · rw [if_pos q, q, r2.2.1 d (by omega), u2.2.1 d (by omega)]
            exact z_ste
          · rw [if_neg q]
            exact c2 e (by omega) h2
      · have e := hsame c hc hz
        obtain ⟨z1, z2, z3, z4, z5, z6⟩ := hz
        rw [e] at z6
        exact r4 hb c z6
    · -- another could join: a greater set is tried
      rw [hbm] at u1
      refine ⟨false, σm, t_X4_canChoose_3 (dd := dep - 1) (by omega) (by omega) ⟨fun _ => ⟨z_in (by omega) (by decide), ?_⟩, fun q => absurd q hN0⟩, hqm, fun q => (by cases q), fun _ c hc hz => ?_⟩
      · rw [nI_clamp (by omega)]
        refine ⟨_, _, u1, fun _ => ?_, fun q => absurd q z_10⟩
        unfold wp_X4_canChoose_95 wp_X4_canChoose_96
        exact ⟨rfl, Or.inl rfl⟩
      · have e := hsame c hc hz
        obtain ⟨z1, z2, z3, z4, z5, z6⟩ := hz
        rw [e] at z5
        exact z5 (u3.mp hbm)
  | succ k ihk =>
    intro f s dep σ hf hk hdep h
    have hk0 := hk
    obtain ⟨k1, k2, k3, k4⟩ := hk
    have hlt : ¬ (σ 18 0) ≤ nI f := by rw [h.1.1]; exact nI_ge (by omega) (by omega)
    have hsf : s.testBit f = false := by
      cases q : s.testBit f
      · rfl
      · exact absurd (k2 f q).1 (by omega)
    cases hpf : p.testBit f
    · -- not placed yet
      have hun := zUn_lt (p := p) (s := s) (l := f) (by omega : f < dN D) hpf hsf
      obtain ⟨b5, σ5, t1, t2, t3, t4⟩ := z_canTakeIn (σ := σ) (n := n) (d := d) (f := f) (s := s) (p := p) (dep := dep - 1) ok v hO hr (by omega) (by omega) hp hpN hpf hk0 (by omega) h (fun σ1 hf1 hk1 => by
        obtain ⟨b, σ', r1, r2, r3, r4⟩ := ihk (f + 1) (s ||| 2 ^ f) (dep - 1 - 1) σ1 (by omega) hk1 (by omega) hf1
        exact ⟨b, σ', c_X4_canChoose (dd := dep - 1 - 1 - 1) ok (by omega) (by omega) r1, r2, r3, r4⟩)
      have hbit0 : ((nI p >>> (nI f &&& 31)) &&& nI 1) = 0 := by rw [z_bit (by omega), z_bn _ _ (by omega)]; exact hpf
      cases hb5 : b5
      · -- it can't be taken in
        rw [hb5] at t1
        have t4 := t4 hb5
        have hfp5 := zFq_p h t2
        obtain ⟨b7, hmu, hb7⟩ := z_mustJoin (σ := σ5) ok v hfp5.1 (d := d) (l := f) (s := s) (by omega) (by omega) k1
        -- a chain without it
        have hwo : ∀ c, (∀ i, i < f → (c d).testBit i = s.testBit i) → zCm D H O (n + 1) d p c → (c d).testBit f = false := fun c hc hz => by
          cases q : (c d).testBit f
          · rfl
          · exfalso
            refine t4 c (fun i hi => ?_) hz
            by_cases e : i = f
            · subst e
              rw [q, zS_bit, decide_eq_true rfl, Bool.or_true]
            · rw [hc i (by omega), zS_bit, decide_eq_false (fun x => e x.symm), Bool.or_false]
        cases hb7b : b7
        · -- on without it
          rw [hb7b] at hmu
          have hno : ¬ ∃ o, o < 9 ∧ (zWa D H o f || zWo D H f o) = true ∧ s.testBit o = true := fun q => by
            rw [hb7.mpr (Or.inr q)] at hb7b
            cases hb7b
          obtain ⟨b, σ', r1, r2, r3, r4⟩ := ihk (f + 1) s dep σ5 (by omega) ⟨k1, fun i hi => by obtain ⟨a1, a2, a3⟩ := k2 i hi; exact ⟨by omega, a2, a3⟩, fun l hl hsl => ⟨(k3 l hl hsl).1, fun o ho hw => by
            by_cases e : o = f
            · subst e
              exact absurd ⟨l, by omega, by rw [zWo_c (l := o) (o := l)]; exact hw, hsl⟩ hno
            · exact (k3 l hl hsl).2 o (by omega) hw⟩, k4⟩ hdep hfp5
          refine ⟨b, σ', t_X4_canChoose_3 (dd := dep - 1) (by omega) (by omega) ⟨fun q => absurd q hlt, fun _ => ⟨fun q => absurd hbit0 q, fun _ => ⟨_, _, t1, fun _ => ⟨_, _, hmu, fun _ => ?_, fun q => absurd z_00 q⟩, fun q => absurd z_00 q⟩⟩⟩, zFq_t t2 r2 (Nat.le_refl d), fun hb => ?_, fun hb c hc hz => ?_⟩
          · unfold wp_X4_canChoose_53
            rw [nI_add]
            exact r1
          · obtain ⟨c, c1, c2, c3⟩ := r3 hb
            exact ⟨c, c1, fun i hi => c2 i (by omega), c3⟩
          · refine r4 hb c (fun i hi => ?_) hz
            by_cases e : i = f
            · subst e
              rw [hwo c hc hz, hsf]
            · exact hc i (by omega)
        · -- it would have to join
          rw [hb7b] at hmu
          refine ⟨false, σ5, t_X4_canChoose_3 (dd := dep - 1) (by omega) (by omega) ⟨fun q => absurd q hlt, fun _ => ⟨fun q => absurd hbit0 q, fun _ => ⟨_, _, t1, fun _ => ⟨_, _, hmu, fun q => absurd q z_10, fun _ => rfl⟩, fun q => absurd z_00 q⟩⟩⟩, t2, fun q => (by cases q), fun _ c hc hz => ?_⟩
          have hcf := hwo c hc hz
          obtain ⟨z1, z2, z3, z4, -, z6⟩ := hz
          have z5 := zCm_ch n (d + 1) _ z6
          rcases hb7.mp hb7b with q | ⟨o, ho, q1, q2⟩
          · obtain ⟨e, e1, e2, U, hU⟩ := zCh_has (l := f) (by omega) n (d + 1) _ z5 (by rw [Nat.testBit_or, hpf, hcf]; rfl)
            obtain ⟨u1, u2, u3⟩ := hU f (by omega) e2
            have h20 := zAl_20 u2
            rw [q (U f) (by omega) h20] at u3
            cases u3
          · have hco : (c d).testBit o = true := by
              rw [hc o (k2 o q2).1]
              exact q2
            rcases (z3 o (k2 o q2).2.1 hco).2 f (by omega) (by rw [zWo_c (l := o) (o := f)]; exact q1) with x | x
            · rw [hpf] at x; cases x
            · rw [hcf] at x; cases x
      · -- taken in
        rw [hb5] at t1
        refine ⟨true, σ5, t_X4_canChoose_3 (dd := dep - 1) (by omega) (by omega) ⟨fun q => absurd q hlt, fun _ => ⟨fun q => absurd hbit0 q, fun _ => ⟨_, _, t1, fun q => absurd q z_10, fun _ => rfl⟩⟩⟩, t2, fun _ => ?_, fun q => (by cases q)⟩
        obtain ⟨c, c1, c2, c3⟩ := t3 hb5
        refine ⟨c, c1, fun i hi => ?_, c3⟩
        rw [c2 i (by omega), zS_bit, decide_eq_false (by omega : ¬ f = i), Bool.or_false]
    · -- placed already
      obtain ⟨b, σ', r1, r2, r3, r4⟩ := ihk (f + 1) s dep σ (by omega) ⟨k1, fun i hi => by obtain ⟨a1, a2, a3⟩ := k2 i hi; exact ⟨by omega, a2, a3⟩, fun l hl hsl => ⟨(k3 l hl hsl).1, fun o ho hw => by
        by_cases e : o = f
        · subst e; exact Or.inl hpf
        · exact (k3 l hl hsl).2 o (by omega) hw⟩, k4⟩ hdep h
      refine ⟨b, σ', t_X4_canChoose_3 (dd := dep - 1) (by omega) (by omega) ⟨fun q => absurd q hlt, fun _ => ⟨fun _ => ?_, fun q => ?_⟩⟩, r2, fun hb => ?_, fun hb c hc hz => ?_⟩
      · unfold wp_X4_canChoose_53
        rw [nI_add]
        exact r1
      · rw [z_bit (by omega), z_bn _ _ (by omega), hpf] at q
        cases q
      · obtain ⟨c, c1, c2, c3⟩ := r3 hb
        exact ⟨c, c1, fun i hi => c2 i (by omega), c3⟩
      · refine r4 hb c (fun i hi => ?_) hz
        by_cases e : i = f
        · subst e
          rw [hsf]
          cases q : (c d).testBit i
          · rfl
          · have := (hz.2.1 i q).2
            rw [hpf] at this
            cases this
        · exact hc i (by omega)
theorem z_canGoOn (ok : sj_ok G) (v : okD D) (hO : ∀ l, l < dN D → ∀ i, i < 20 → O l i = true → zOb D H l i (dW D) = true) (hr : r < 2 ^ 27) : ∀ n, zKg G D H O r n := by
  have h9 := v.1
  intro n
  induction n with
  | zero =>
    intro d p dep σ hd hp hpN hdep h
    obtain rfl : d = 5 := by omega
    have hN : 2 ^ dN D - 1 < 512 := by
      have h : ∀ N, N < 10 → 2 ^ N - 1 < 512 := by decide
      exact h _ (by omega)
    refine ⟨decide (p = 2 ^ dN D - 1), σ, c_X4_canGoOn (dd := dep - 1) ok (by omega) (by omega) ⟨fun q => absurd q (nI_nlt (Nat.le_refl 5) (by decide)), fun _ => ?_⟩, zFq_r h, fun q => ⟨fun _ => 0, (decide_eq_true_eq.mp q : p = 2 ^ dN D - 1), fun e h1 h2 => absurd h2 (by omega)⟩, fun q c hz => (decide_eq_false_iff_not.mp q : ¬ p = 2 ^ dN D - 1) hz⟩
    have hfl : (nI 1 <<< ((σ 18 0) &&& 31)) - nI 1 = nI (2 ^ dN D - 1) := by
      rw [h.1.1]
      exact zFll_eq (dN D) (by omega)
    unfold wp_X4_canGoOn_25
    rw [hfl]
    by_cases e : p = 2 ^ dN D - 1
    · rw [if_pos (congrArg nI e), decide_eq_true e]
      exact ⟨rfl, Or.inr rfl⟩
    · rw [if_neg (fun q => e ((nI_eq (by omega) (by omega)).mp q)), decide_eq_false e]
      exact ⟨rfl, Or.inl rfl⟩
  | succ n ih =>
    intro d p dep σ hd hp hpN hdep h
    -- the day
    obtain ⟨m, hm8, hmk, hm0, hm2⟩ := z_marksOf (σ := σ) (d := d) (s := p) ok hr h.2.1 (by omega) hp h.2.2
    have hlt5 : nI d < nI 5 := nI_lt (by omega) (by decide)
    cases hdead : m.testBit 2
    · have hu0 : zUn D (p ||| 0) = zUn D p := by rw [Nat.or_zero]
      have hzb : ∀ i, ¬ Nat.testBit 0 i = true := fun i hi => by rw [Nat.zero_testBit] at hi; cases hi
      have hpk0 : zPk D H O d 0 0 p := ⟨by decide, fun i hi => absurd hi (hzb i), fun l _ hl => absurd hl (hzb l), fun _ => 0, fun m _ hm => absurd hm (hzb m)⟩
      obtain ⟨b, σ', r1, r2, r3, r4⟩ := z_canChooseJ ok v hO hr ih hd hp hpN (dN D) 0 0 (dep - 1) σ (by omega) hpk0 (by rw [hu0]; omega) h
      have hcc := c_X4_canChoose (dd := dep - 1 - 1) ok (by omega) (by omega) r1
      cases hb : b
      · rw [hb] at hcc
        have r4 := fun c => r4 hb c (fun i hi => absurd hi (by omega))
        have hfp' := zFq_p h r2
        obtain ⟨σ6, u1, u2, u3⟩ := z_mark (σ := σ') (d := d) (s := p) (k := 4) ok hr hfp'.2.1 (by omega) hp (by decide) hfp'.2.2 (fun m hm hv => by
          unfold zVm
          rw [(z_o4 m hm).1, (z_o4 m hm).2]
          exact hv) (fun _ => by rw [show 5 - d = n + 1 by omega]; exact r4)
        refine ⟨false, σ6, c_X4_canGoOn (dd := dep - 1) ok (by omega) (by omega) ⟨fun _ => ⟨_, _, hmk, fun _ => ⟨_, _, hcc, fun _ => ⟨_, u1, rfl⟩, fun q => absurd z_00 q⟩, fun q => absurd ((z_m4 m hm8).mpr hdead) q⟩, fun q => absurd hlt5 q⟩, ⟨fun b n1 n2 n3 => by rw [u2 b n1, r2.1 b n1 n2 n3], fun e he => by rw [u2 34 (by decide), r2.2.1 e he], u3⟩, fun q => (by cases q), fun _ c => r4 c⟩
      · rw [hb] at hcc
        obtain ⟨c, c1, -, c3⟩ := r3 hb
        exact ⟨true, σ', c_X4_canGoOn (dd := dep - 1) ok (by omega) (by omega) ⟨fun _ => ⟨_, _, hmk, fun _ => ⟨_, _, hcc, fun q => absurd q z_10, fun _ => rfl⟩, fun q => absurd ((z_m4 m hm8).mpr hdead) q⟩, fun q => absurd hlt5 q⟩, r2, fun _ => ⟨c, c1, c3⟩, fun q => by cases q⟩
    · refine ⟨false, σ, c_X4_canGoOn (dd := dep - 1) ok (by omega) (by omega) ⟨fun _ => ⟨_, _, hmk, fun q => ?_, fun _ => rfl⟩, fun q => absurd hlt5 q⟩, zFq_r h, fun q => (by cases q), fun _ c => ?_⟩
      · have := (z_m4 m hm8).mp q
        rw [hdead] at this
        cases this
      · have := hm2 hdead c
        rw [show 5 - d = n + 1 by omega] at this
        exact this
end ZFP
