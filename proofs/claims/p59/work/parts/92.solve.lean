/-! FINDER 3: tables and sets of days; isSolvable -/
def zSol (D : zD) (H : Nat → Bool) (O : Nat → Nat → Bool) (T : Nat → Nat) : Prop := zRi D H T ∧ ∀ l, l < dN D → O l (T l) = true
def zDs (T : Nat → Nat) (d : Nat) : Nat → Nat
  | 0 => 0
  | l + 1 => if T l / 4 = d then zDs T d l ||| 2 ^ l else zDs T d l
theorem zDs_bit {T : Nat → Nat} {d i : Nat} : ∀ n, (zDs T d n).testBit i = (decide (i < n) && decide (T i / 4 = d)) := by
  intro n
  induction n with
  | zero => show Nat.testBit 0 i = _; rw [Nat.zero_testBit, decide_eq_false (Nat.not_lt_zero i)]; rfl
  | succ n ih =>
    show (if T n / 4 = d then zDs T d n ||| 2 ^ n else zDs T d n).testBit i = _
    by_cases e : i = n
    · subst e
      by_cases q : T i / 4 = d
      · rw [if_pos q, zS_bit, decide_eq_true rfl, Bool.or_true, decide_eq_true (by omega : i < i + 1), decide_eq_true q]; rfl
      · rw [if_neg q, ih, decide_eq_false q, Bool.and_false, Bool.and_false]
    · have e2 : decide (i < n + 1) = decide (i < n) := decide_eq_decide.mpr (by omega)
      rw [e2, ← ih]
      by_cases q : T n / 4 = d
      · rw [if_pos q, zS_bit, decide_eq_false (fun x => e x.symm), Bool.or_false]
      · rw [if_neg q]
theorem zDs_lt {T : Nat → Nat} {d : Nat} : ∀ n, n ≤ 9 → zDs T d n < 512 := by
  intro n
  induction n with
  | zero => intro _; show 0 < 512; omega
  | succ n ih =>
    intro hn
    show (if T n / 4 = d then zDs T d n ||| 2 ^ n else zDs T d n) < 512
    split
    · exact zS_lt (ih (by omega)) (by omega)
    · exact ih (by omega)
theorem zPr_wo {D : zD} {H : Nat → Bool} {l i o j : Nat} (v : okD D) (h : zPr D H l i o j = true) : (zWo D H l o = true → i / 4 = j / 4) ∧ (zWa D H l o = true → j < i) ∧ (zWa D H o l = true → i < j) := by
  rw [zPr_w v] at h
  simp only [Bool.and_eq_true, Bool.or_eq_true, Bool.not_eq_true', decide_eq_true_eq] at h
  obtain ⟨-, ⟨⟨h4, -⟩, h6⟩, h7⟩ := h
  refine ⟨fun q => ?_, fun q => ?_, fun q => ?_⟩
  · rcases h4 with x | x
    · have q : zWd D H 4 (zBoth l o) (dW D) = true := q
      rw [q] at x; cases x
    · exact x
  · rcases h6 with x | x
    · have q : zWd D H 6 (fun a c => decide (a = o) && decide (c = l)) (dW D) = true := q
      rw [q] at x; cases x
    · exact x
  · rcases h7 with x | x
    · have q : zWd D H 6 (fun a c => decide (a = l) && decide (c = o)) (dW D) = true := q
      rw [q] at x; cases x
    · exact x
theorem zRi_pr {D : zD} {H : Nat → Bool} {T : Nat → Nat} (r : zRi D H T) {l o : Nat} (hl : l < dN D) (ho : o < dN D) (hne : o ≠ l) : zPr D H l (T l) o (T o) = true := (zAl_iff.mp (zRi_all.mp r l hl)).2.2.2 o ho hne
theorem zSol_ch {D : zD} {H : Nat → Bool} {O : Nat → Nat → Bool} {T : Nat → Nat} (v : okD D) (h : zSol D H O T) : ∀ n d p, d + n = 5 → (∀ i, p.testBit i = true ↔ i < dN D ∧ T i / 4 < d) → zCh D H O n d p (fun d => zDs T d (dN D)) := by
  obtain ⟨hr, ho⟩ := h
  have h9 := v.1
  intro n
  induction n with
  | zero =>
    intro d p hd hp
    obtain rfl : d = 5 := by omega
    refine Nat.eq_of_testBit_eq (fun i => ?_)
    rw [Nat.testBit_two_pow_sub_one, Bool.eq_iff_iff, hp, decide_eq_true_eq]
    exact ⟨fun q => q.1, fun q => ⟨q, by have := (hr i q).1; omega⟩⟩
  | succ n ih =>
    intro d p hd hp
    have hb : ∀ i, (zDs T d (dN D)).testBit i = true ↔ i < dN D ∧ T i / 4 = d := fun i => by rw [zDs_bit, Bool.and_eq_true, decide_eq_true_eq, decide_eq_true_eq]
    have hpf : ∀ i, i < dN D → ¬ T i / 4 < d → p.testBit i = false := fun i hi hn => by
      cases q : p.testBit i
      · rfl
      · exact absurd ((hp i).mp q).2 hn
    refine ⟨zDs_lt _ h9, fun i hi => ?_, fun l hl hsl => ⟨fun o ho hw => ?_, fun o ho hw => ?_⟩, ⟨T, fun m hm hs => ?_⟩, ih (d + 1) _ (by omega) (fun i => ?_)⟩
    · obtain ⟨h1, h2⟩ := (hb i).mp hi
      exact ⟨h1, hpf i h1 (by omega)⟩
    · have hld := ((hb l).mp hsl).2
      refine hpf o ho ?_
      by_cases e : o = l
      · subst e; omega
      · have := (zPr_wo v (zRi_pr hr hl ho e)).1 hw
        omega
    · have hld := ((hb l).mp hsl).2
      by_cases e : o = l
      · subst e; exact Or.inr hsl
      · have hpr := zPr_wo v (zRi_pr hr hl ho e)
        have hle : T o / 4 ≤ d := by
          rw [Bool.or_eq_true] at hw
          rcases hw with q | q
          · have := hpr.2.1 q
            omega
          · have := hpr.1 q
            omega
        by_cases q : T o / 4 < d
        · exact Or.inl ((hp o).mpr ⟨ho, q⟩)
        · exact Or.inr ((hb o).mpr ⟨ho, by omega⟩)
    · have h2 := ((hb m).mp hs).2
      exact ⟨h2, zAl_mono (fun _ _ _ _ => rfl) (zRi_all.mp hr m hm), ho m hm⟩
    · rw [Nat.testBit_or, Bool.or_eq_true, hp, hb]
      constructor
      · rintro (⟨q1, q2⟩ | ⟨q1, q2⟩)
        · exact ⟨q1, by omega⟩
        · exact ⟨q1, by omega⟩
      · rintro ⟨q1, q2⟩
        by_cases q : T i / 4 < d
        · exact Or.inl ⟨q1, q⟩
        · exact Or.inr ⟨q1, by omega⟩
theorem zSol_ch0 {D : zD} {H : Nat → Bool} {O : Nat → Nat → Bool} {T : Nat → Nat} (v : okD D) (h : zSol D H O T) : zCh D H O 5 0 0 (fun d => zDs T d (dN D)) :=
  zSol_ch v h 5 0 0 (by decide) (fun i => by rw [Nat.zero_testBit]; exact ⟨fun q => (by cases q), fun q => absurd q.2 (Nat.not_lt_zero _)⟩)
def zPz (c : Nat → Nat) : Nat → Nat
  | 0 => 0
  | e + 1 => zPz c e ||| c e
theorem zPz_bit {c : Nat → Nat} {i : Nat} : ∀ e, (zPz c e).testBit i = true ↔ ∃ e', e' < e ∧ (c e').testBit i = true := by
  intro e
  induction e with
  | zero => show Nat.testBit 0 i = true ↔ _; rw [Nat.zero_testBit]; exact ⟨fun q => (by cases q), fun ⟨e', h, _⟩ => absurd h (Nat.not_lt_zero _)⟩
  | succ e ih =>
    show (zPz c e ||| c e).testBit i = true ↔ _
    rw [Nat.testBit_or, Bool.or_eq_true, ih]
    constructor
    · rintro (⟨e', h1, h2⟩ | h)
      · exact ⟨e', by omega, h2⟩
      · exact ⟨e, by omega, h⟩
    · rintro ⟨e', h1, h2⟩
      by_cases q : e' = e
      · subst q; exact Or.inr h2
      · exact Or.inl ⟨e', by omega, h2⟩
theorem zCh_all {D : zD} {H : Nat → Bool} {O : Nat → Nat → Bool} {c : Nat → Nat} : ∀ n d, d + n = 5 → zCh D H O n d (zPz c d) c → (∀ e, d ≤ e → e < 5 → c e < 512 ∧ (∀ i, (c e).testBit i = true → i < dN D ∧ (zPz c e).testBit i = false) ∧ zJp D H (zPz c e) (c e) (dN D) ∧ zDk D H O e (c e)) ∧ zPz c 5 = 2 ^ dN D - 1 := by
  intro n
  induction n with
  | zero =>
    intro d hd h
    obtain rfl : d = 5 := by omega
    exact ⟨fun e h1 h2 => absurd h2 (by omega), h⟩
  | succ n ih =>
    intro d hd h
    obtain ⟨h1, h2, h3, h4, h5⟩ := h
    obtain ⟨g1, g2⟩ := ih (d + 1) (by omega) h5
    refine ⟨fun e he1 he2 => ?_, g2⟩
    by_cases q : e = d
    · subst q; exact ⟨h1, h2, h3, h4⟩
    · exact g1 e (by omega) he2
theorem q_cnt_last {P : Nat → Bool} {B : Nat} : ∀ n, (∀ m, m < n → P m = true → (∀ o, m < o → o < n → P o = false) → q_cnt P m + 1 ≤ B) → q_cnt P n ≤ B := by
  intro n
  induction n with
  | zero => intro _; exact Nat.zero_le B
  | succ n ih =>
    intro h
    rw [q_cnt_s]
    cases hn : P n
    · rw [if_neg (by decide)]
      exact ih (fun m hm hp hno => h m (by omega) hp (fun o h1 h2 => by
        by_cases e : o = n
        · subst e; exact hn
        · exact hno o h1 (by omega)))
    · rw [if_pos rfl]
      exact h n (by omega) hn (fun o h1 h2 => absurd h2 (by omega))
theorem zMt_day {d i e j : Nat} (h : i / 4 ≠ j / 4) (h1 : ¬ (d = 1 ∧ i % 4 = 3)) (h2 : ¬ (e = 1 ∧ j % 4 = 3)) : zMt d i e j = false := by
  rw [← Bool.not_eq_true]
  unfold zMt zTd
  simp only [Bool.or_eq_true, Bool.and_eq_true, decide_eq_true_eq]
  omega
theorem zCh_so {D : zD} {H : Nat → Bool} {O : Nat → Nat → Bool} {c T : Nat → Nat} (v : okD D) (hc : zCh D H O 5 0 0 c) (hg : ∀ e, e < 5 → ∀ m, m < dN D → (c e).testBit m = true → zGd D H O e (c e) T m) : zSol D H O T := by
  have h9 := v.1
  obtain ⟨g1, g2⟩ := zCh_all 5 0 (by decide) hc
  have hday : ∀ l, l < dN D → ∃ e, e < 5 ∧ (c e).testBit l = true := fun l hl => by
    have : (zPz c 5).testBit l = true := by rw [g2, Nat.testBit_two_pow_sub_one, decide_eq_true hl]
    exact (zPz_bit 5).mp this
  have hG : ∀ l, l < dN D → (c (T l / 4)).testBit l = true ∧ T l / 4 < 5 ∧ zGd D H O (T l / 4) (c (T l / 4)) T l := fun l hl => by
    obtain ⟨e, h1, h2⟩ := hday l hl
    have h3 := hg e h1 l hl h2
    have e1 := h3.1
    subst e1
    exact ⟨h2, h1, h3⟩
  have hbd : ∀ l, l < dN D → T l < 20 ∧ zSt D H l (T l) = true ∧ ¬ (dDb D l = 1 ∧ T l % 4 = 3) := fun l hl => by
    obtain ⟨-, -, -, g, -⟩ := hG l hl
    obtain ⟨h1, h2, -, -⟩ := zAl_iff2 g
    exact ⟨h1, h2, (zSt_iff.mp h2).1⟩
  -- lessons of unlike days
  have hcross : ∀ l o, l < dN D → o < dN D → T l / 4 < T o / 4 → zPr D H l (T l) o (T o) = true := by
    intro l o hl ho hlt
    obtain ⟨cl, el, -⟩ := hG l hl
    obtain ⟨co, eo, -⟩ := hG o ho
    have hpl : (zPz c (T o / 4)).testBit l = true := (zPz_bit _).mpr ⟨_, hlt, cl⟩
    obtain ⟨-, so, jo, -⟩ := g1 (T o / 4) (Nat.zero_le _) eo
    obtain ⟨-, sl, jl, -⟩ := g1 (T l / 4) (Nat.zero_le _) el
    have hwo : zWo D H l o = false := by
      cases q : zWo D H l o
      · rfl
      · rw [zWo_c] at q
        have := (jo o ho co).1 l hl q
        rw [hpl] at this
        cases this
    have hnot : ∀ e, e < T o / 4 → (c e).testBit o = false := fun e he => by
      cases q : (c e).testBit o
      · rfl
      · have := (so o co).2
        rw [(zPz_bit _).mpr ⟨e, he, q⟩] at this
        cases this
    have hwa : zWa D H l o = false := by
      cases q : zWa D H l o
      · rfl
      · exfalso
        rcases (jl l hl cl).2 o ho (by rw [q]; rfl) with x | x
        · obtain ⟨e, e1, e2⟩ := (zPz_bit _).mp x
          rw [hnot e (by omega)] at e2
          cases e2
        · rw [hnot _ hlt] at x
          cases x
    rw [zPr_w v, zMt_day (by omega) (hbd l hl).2.2 (hbd o ho).2.2]
    have x4 : zWd D H 4 (zBoth l o) (dW D) = false := hwo
    have x6 : zWd D H 6 (fun a c => decide (a = o) && decide (c = l)) (dW D) = false := hwa
    rw [x4, x6, decide_eq_false (by omega : ¬ T l / 4 = T o / 4), decide_eq_true (by omega : T l < T o)]
    simp
  have hpair : ∀ l o, l < dN D → o < dN D → o ≠ l → zPr D H l (T l) o (T o) = true := by
    intro l o hl ho hne
    rcases Nat.lt_trichotomy (T l / 4) (T o / 4) with q | q | q
    · exact hcross l o hl ho q
    · obtain ⟨cl, el, -, gl, -⟩ := hG l hl
      obtain ⟨co, eo, -, go, -⟩ := hG o ho
      refine (zAl_iff2 gl).2.2.1 o ho hne ?_
      show (c (T l / 4)).testBit o = true
      rw [q]
      exact co
    · rw [zPr_comm]
      exact hcross o l ho hl q
  refine ⟨zRi_all.mpr (fun l hl => zAl_iff.mpr ⟨(hbd l hl).1, (hbd l hl).2.1, ?_, fun o ho hne => hpair l o hl ho hne⟩), fun l hl => (hG l hl).2.2.2.2⟩
  rw [zRm_tot hl]
  intro hk s hs
  refine q_cnt_last (dN D) (fun m hm hp _ => ?_)
  rw [Bool.and_eq_true, decide_eq_true_eq] at hp
  obtain ⟨hkm, hsm⟩ := hp
  obtain ⟨cm, em, -, gm, -⟩ := hG m hm
  have hcnt := (zAl_iff2 gm).2.2.2 (by rw [hkm]; exact hk)
  -- all that take the slot are of its day
  have hsd : ∀ o, o < dN D → zTk D T o s = true → T o / 4 = s / 4 := fun o ho h => by
    have := (hbd o ho).2.2
    unfold zTk at h
    rw [Bool.or_eq_true, Bool.and_eq_true, decide_eq_true_eq, decide_eq_true_eq, decide_eq_true_eq] at h
    omega
  have hmd := hsd m hm hsm
  have hle : ∀ x, x = s → q_cnt (fun o => decide (dKi D o = dKi D l) && zTk D T o s) m ≤ q_cnt (fun o => !decide (o = m) && ((c (T m / 4)).testBit o && (decide (dKi D o = dKi D m) && zTk D T o x))) (dN D) := by
    intro x hx
    subst hx
    refine Nat.le_trans (q_cnt_mon m (r := fun o => !decide (o = m) && ((c (T m / 4)).testBit o && (decide (dKi D o = dKi D m) && zTk D T o x))) (fun o ho h => ?_)) (q_cnt_mono (dN D) (by omega))
    rw [Bool.and_eq_true, decide_eq_true_eq] at h
    have hod := hsd o (by omega) h.2
    obtain ⟨co, -, -⟩ := hG o (by omega)
    rw [hod, ← hmd] at co
    show (!decide (o = m) && ((c (T m / 4)).testBit o && (decide (dKi D o = dKi D m) && zTk D T o x))) = true
    rw [decide_eq_false (by omega : ¬ o = m), co, h.2, decide_eq_true (by omega : dKi D o = dKi D m)]
    rfl
  have hsm2 := hsm
  unfold zTk at hsm2
  rw [Bool.or_eq_true, Bool.and_eq_true, decide_eq_true_eq, decide_eq_true_eq, decide_eq_true_eq] at hsm2
  rw [hkm] at hcnt
  rcases hsm2 with q | ⟨q1, q2⟩
  · have := hle (T m) q.symm
    rw [hkm] at this
    omega
  · have := hle (T m + 1) q2.symm
    have h2 := hcnt.2 q1
    rw [hkm] at this
    omega
def zMz (r : Nat) (f : Nat → Int32) : Prop := ∀ i, i < 2560 → ∃ a b, a ≤ r ∧ b < 8 ∧ f i = nI (8 * a + b)
section ZSL
variable {G : sj_G} {σ : sj_S} {D : zD} {H : Nat → Bool} {O : Nat → Nat → Bool} {r : Nat}
theorem zMr_new {f : Nat → Int32} (h : zMz r f) : zMr D H O (r + 1) f := fun d s hd hs => by
  obtain ⟨a, b, ha, hb, e⟩ := h (d * 512 + s) (by omega)
  refine ⟨0, by omega, Or.inr ⟨rfl, a, b, by omega, hb, e⟩, ⟨fun _ => Nat.zero_testBit 1, fun q => ?_⟩, fun q => ?_⟩
  · rw [Nat.zero_testBit] at q; cases q
  · rw [Nat.zero_testBit] at q; cases q
theorem zMr_old {f : Nat → Int32} (h : zMr D H O r f) : zMz r f := fun i hi => by
  obtain ⟨m, hm, hv, -⟩ := h (i / 512) (i % 512) (by omega) (by omega)
  rw [show i / 512 * 512 + i % 512 = i by omega] at hv
  rcases hv with e | ⟨-, a, b, ha, hb, e⟩
  · exact ⟨r, m, Nat.le_refl r, hm, e⟩
  · exact ⟨a, b, by omega, hb, e⟩
theorem z_isSolvable (ok : sj_ok G) (v : okD D) (hO : ∀ l, l < dN D → ∀ i, i < 20 → O l i = true → zOb D H l i (dW D) = true) (hr : r + 1 < 2 ^ 27) (hR : zRuO D H O σ 18) (h7 : σ 30 7 = nI r) (hm : zMz r (σ 33)) :
    ∃ (b : Bool) (σ' : sj_S), sj_C G 121 me_X4_isSolvable [.ref (sj_ad G 30)] σ (.ok (if b then nI 1 else nI 0), σ') ∧ (∀ x, x ≠ 30 → x ≠ 31 → x ≠ 33 → x ≠ 34 → x ≠ 35 → σ' x = σ x) ∧ (∀ k, k ≠ 7 → σ' 30 k = σ 30 k) ∧
      (∃ r', r ≤ r' ∧ r' ≤ r + 1 ∧ σ' 30 7 = nI r' ∧ zMz r' (σ' 33)) ∧ (b = true → ∃ T, zSol D H O T ∧ ∀ l, l < dN D → σ' 31 l = nI (T l)) ∧ (b = false → (∀ T, ¬ zSol D H O T) ∧ σ' 31 = σ 31) := by
  have h9 := v.1
  -- is a lesson left without a slot?
  by_cases he : ∃ l, l < dN D ∧ σ 19 l = 0
  · have hno : ∀ T, ¬ zSol D H O T := fun T hT => by
      obtain ⟨l, hl, h0⟩ := he
      have h20 := (hT.1 l hl).1
      have := (hR.2 l hl).1 (T l) (by omega)
      have h0' : σ (18 + 1) l = 0 := h0
      rw [h0', b_0, decide_eq_true h20, hT.2 l hl] at this
      cases this
    refine ⟨false, σ, c_X4_isSolvable ok ?_, fun _ _ _ _ _ _ => rfl, fun _ _ => rfl, ⟨r, Nat.le_refl r, by omega, h7, hm⟩, fun q => (by cases q), fun _ => ⟨hno, rfl⟩⟩
    have key : ∀ k l, l + k = dN D → (∃ l', l ≤ l' ∧ l' < dN D ∧ σ 19 l' = 0) → sj_J G 121 me_X4_isSolvable (.ok (nI 0), σ) 2 [.ref (sj_ad G 30), .int (nI l)] σ [] := by
      intro k
      induction k with
      | zero => rintro l hl ⟨l', h1, h2, -⟩; omega
      | succ k ih =>
        rintro l hl ⟨l', h1, h2, h3⟩
        refine t_X4_isSolvable_2 ⟨fun q => ?_, fun _ => ⟨z_in (by omega) (by decide), fun q => ?_, fun _ => rfl⟩⟩
        · rw [hR.1] at q
          exact absurd q (nI_ge (by omega) (by omega))
        · rw [nI_clamp (by omega)] at q
          rw [nI_add]
          refine ih (l + 1) (by omega) ⟨l', ?_, h2, h3⟩
          by_cases e : l' = l
          · subst e; exact absurd h3 q
          · omega
    obtain ⟨l', h1, h2⟩ := he
    exact key (dN D) 0 (by omega) ⟨l', Nat.zero_le _, h1, h2⟩
  · -- the search
    have hst : ∀ x, x ≠ 30 → (sj_st σ 30 7 (nI (r + 1))) x = σ x := fun x hx => z_stn hx
    have hfp : zFp D H O (r + 1) (sj_st σ 30 7 (nI (r + 1))) := ⟨zRuO_fr hR (fun b h1 h2 => hst b (by omega)), z_ste, by rw [hst 33 (by decide)]; exact zMr_new hm⟩
    have hun : zUn D 0 ≤ 9 := Nat.le_trans (q_cnt_le _ _) h9
    have hzb : ∀ i, ¬ Nat.testBit 0 i = true := fun i hi => by rw [Nat.zero_testBit] at hi; cases hi
    have hpk0 : zPk D H O 0 0 0 0 := ⟨by decide, fun i hi => absurd hi (hzb i), fun l _ hl => absurd hl (hzb l), fun _ => 0, fun m _ hm => absurd hm (hzb m)⟩
    obtain ⟨b, σ1, c1, c2, c3, c4⟩ := z_canChooseJ ok v hO hr (z_canGoOn ok v hO hr 4) (by decide : 0 + (4 + 1) = 5) (by decide) (fun i hi => absurd hi (hzb i)) (dN D) 0 0 120 (sj_st σ 30 7 (nI (r + 1))) (by omega) hpk0 (by rw [Nat.or_zero]; omega) hfp
    have c1 := c_X4_canChoose (dd := 119) ok (by omega) (by omega) c1
    have c3 : b = true → ∃ c, zCh D H O 5 0 0 c ∧ ∀ e, 0 ≤ e → e < 5 → σ1 34 e = nI (c e) := fun hb => by
      obtain ⟨c, x1, -, x3⟩ := c3 hb
      exact ⟨c, x1, x3⟩
    have c4 : b = false → ∀ c, ¬ zCh D H O 5 0 0 c := fun hb c hc => by
      obtain ⟨c', hc'⟩ := zCh_mx h9 5 0 0 c hc
      exact c4 hb c' (fun i hi => absurd hi (Nat.not_lt_zero i)) hc'
    have hfp1 := zFq_p hfp c2
    have enter : ∀ R : sj_R, ((if b then nI 1 else nI 0) = 0 → R = (.ok (nI 0), σ1)) → (¬ (if b then nI 1 else nI 0) = 0 → sj_J G 121 me_X4_isSolvable R 58 [.ref (sj_ad G 30), .int (nI 0)] σ1 []) → sj_C G 121 me_X4_isSolvable [.ref (sj_ad G 30)] σ R := by
      intro R k0 k1
      have key : ∀ k l, l + k = dN D → sj_J G 121 me_X4_isSolvable R 2 [.ref (sj_ad G 30), .int (nI l)] σ [] := by
        intro k
        induction k with
        | zero =>
          intro l hl
          obtain rfl : l = dN D := by omega
          refine t_X4_isSolvable_2 ⟨fun _ => ?_, fun q => ?_⟩
          · rw [h7, nI_add]
            exact ⟨_, _, c1, k1, k0⟩
          · rw [hR.1] at q
            exact absurd (nI_le (by omega) (by omega)) q
        | succ k ih =>
          intro l hl
          refine t_X4_isSolvable_2 ⟨fun q => ?_, fun _ => ⟨z_in (by omega) (by decide), fun _ => ?_, fun q => ?_⟩⟩
          · rw [hR.1] at q
            exact absurd q (nI_ge (by omega) (by omega))
          · rw [nI_add]
            exact ih (l + 1) (by omega)
          · rw [nI_clamp (by omega)] at q
            exact absurd ⟨l, by omega, q⟩ he
      exact c_X4_isSolvable ok (key (dN D) 0 (by omega))
    cases hb : b
    · rw [hb] at enter
      refine ⟨false, σ1, enter _ (fun _ => rfl) (fun q => absurd z_00 q), fun x n1 n2 n3 n4 n5 => by rw [c2.1 x n3 n4 n5, hst x n1], fun k hk => by rw [c2.1 30 (by decide) (by decide) (by decide), z_sti hk], ⟨r + 1, by omega, Nat.le_refl _, hfp1.2.1, zMr_old c2.2.2⟩, fun q => (by cases q), fun _ => ⟨fun T hT => c4 hb _ (zSol_ch0 v hT), by rw [c2.1 31 (by decide) (by decide) (by decide), hst 31 (by decide)]⟩⟩
    · rw [hb] at enter
      obtain ⟨c, d1, d2⟩ := c3 hb
      obtain ⟨g1, g2⟩ := zCh_all 5 0 (by decide) d1
      have hdis : ∀ e e', e < e' → e' < 5 → ∀ m, (c e').testBit m = true → (c e).testBit m = false := fun e e' h1 h2 m hm => by
        cases q : (c e).testBit m
        · rfl
        · have := ((g1 e' (Nat.zero_le _) h2).2.1 m hm).2
          rw [(zPz_bit _).mpr ⟨e, h1, q⟩] at this
          cases this
      -- the days are put one by one
      have key : ∀ k d (ρ : sj_S) (V : Nat → Nat), d + k = 5 → (∀ x, x ≠ 35 → ρ x = σ1 x) → (∀ e, e < d → ∀ m, m < dN D → (c e).testBit m = true → zGd D H O e (c e) V m ∧ ρ 35 m = nI (V m)) →
          ∃ (ρ' : sj_S) (V : Nat → Nat), (∀ R : sj_R, R = (.ok (nI 1), sj_up ρ' 31 (va_cpy (ρ' 35) (ρ' 31) 0 0 9)) → sj_J G 121 me_X4_isSolvable R 58 [.ref (sj_ad G 30), .int (nI d)] ρ []) ∧ (∀ x, x ≠ 35 → ρ' x = σ1 x) ∧ ∀ e, e < 5 → ∀ m, m < dN D → (c e).testBit m = true → zGd D H O e (c e) V m ∧ ρ' 35 m = nI (V m) := by
        intro k
        induction k with
        | zero =>
          intro d ρ V hd hf hV
          obtain rfl : d = 5 := by omega
          exact ⟨ρ, V, fun R hR => t_X4_isSolvable_58 ⟨fun _ => hR, fun q => absurd (nI_le (Nat.le_refl 5) (by decide)) q⟩, hf, hV⟩
        | succ k ih =>
          intro d ρ V hd hf hV
          obtain ⟨g11, g12, g13, g14⟩ := g1 d (Nat.zero_le _) (by omega)
          obtain ⟨b2, ρ1, s1, s2, s3, s4, s5⟩ := z_canStand (σ := ρ) (H := H) (O := O) ok v (d := d) (s := c d) (by omega) g11 hO (zRuO_fr hfp1.1 (fun b h1 h2 => hf b (by omega)))
          have hb2 := s4.mpr g14
          obtain ⟨U, u1, u2⟩ := s5 hb2
          obtain ⟨ρ', V', r1, r2, r3⟩ := ih (d + 1) ρ1 (fun m => if (c d).testBit m then U m else V m) (by omega) (fun x hx => by rw [s2 x hx]; exact hf x hx) (fun e he m hmN hm => by
            by_cases q : e = d
            · subst q
              refine ⟨zGd_congr (U := U) (by show U m = if (c e).testBit m then U m else V m; rw [hm, if_pos rfl]) (fun o _ ho => by show U o = if (c e).testBit o then U o else V o; rw [ho, if_pos rfl]) (u1 m hmN hm), ?_⟩
              show ρ1 35 m = nI (if (c e).testBit m then U m else V m)
              rw [hm, if_pos rfl]
              exact u2 m hmN hm
            · have hnd : ∀ o, (c e).testBit o = true → (c d).testBit o = false := fun o ho => by
                cases x : (c d).testBit o
                · rfl
                · have := hdis e d (by omega) (by omega) o x
                  rw [ho] at this
                  cases this
              obtain ⟨v1, v2⟩ := hV e (by omega) m hmN hm
              refine ⟨zGd_congr (U := V) (by show V m = if (c d).testBit m then U m else V m; rw [hnd m hm, if_neg (by decide)]) (fun o _ ho => by show V o = if (c d).testBit o then U o else V o; rw [hnd o ho, if_neg (by decide)]) v1, ?_⟩
              show ρ1 35 m = nI (if (c d).testBit m then U m else V m)
              rw [hnd m hm, if_neg (by decide), s3 m (hnd m hm)]
              exact v2)
          refine ⟨ρ', V', fun R hR => t_X4_isSolvable_58 ⟨fun q => absurd q (nI_ge (by omega) (by omega)), fun _ => ⟨z_in (by omega) (by decide), ?_⟩⟩, r2, r3⟩
          have e34 : ρ 34 (nI d).toNatClampNeg = nI (c d) := by rw [nI_clamp (by omega), hf 34 (by decide)]; exact d2 d (Nat.zero_le _) (by omega)
          rw [e34, nI_add]
          exact ⟨_, _, s1, r1 R hR⟩
      obtain ⟨ρ, V, r1, r2, r3⟩ := key 5 0 σ1 (fun _ => 0) (by decide) (fun _ _ => rfl) (fun e he => absurd he (by omega))
      have hso : zSol D H O V := zCh_so v d1 (fun e he m hm hb => (r3 e he m hm hb).1)
      refine ⟨true, sj_up ρ 31 (va_cpy (ρ 35) (ρ 31) 0 0 9), enter _ (fun q => absurd q z_10) (fun _ => r1 _ rfl), fun x n1 n2 n3 n4 n5 => by rw [z_upn n2, r2 x n5, c2.1 x n3 n4 n5, hst x n1], fun k hk => by rw [z_upn (by decide), r2 30 (by decide), c2.1 30 (by decide) (by decide) (by decide), z_sti hk], ⟨r + 1, by omega, Nat.le_refl _, by rw [z_upn (by decide), r2 30 (by decide)]; exact hfp1.2.1, by rw [z_upn (by decide), r2 33 (by decide)]; exact zMr_old c2.2.2⟩, fun _ => ⟨V, hso, fun l hl => ?_⟩, fun q => (by cases q)⟩
      rw [sj_up_s]
      unfold va_cpy
      rw [if_pos (by omega), show 0 + (l - 0) = l by omega]
      have : (zPz c 5).testBit l = true := by rw [g2, Nat.testBit_two_pow_sub_one, decide_eq_true hl]
      obtain ⟨e, e1, e2⟩ := (zPz_bit 5).mp this
      exact (r3 e e1 l hl e2).2
end ZSL
