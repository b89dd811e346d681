/-! roomOf -/
def zAhd (T : Nat → Nat) (l o : Nat) : Bool := decide (T o < T l) || (decide (T o = T l) && decide (o < l))
def zRv (D : zD) (T : Nat → Nat) (l o : Nat) : Bool := zAhd T l o && (decide (dKi D o = dKi D l) && zMt (dDb D l) (T l) (dDb D o) (T o))
def zUs (D : zD) (T g : Nat → Nat) (l r k : Nat) : Bool := q_any (fun o => zRv D T l o && decide (g o = r)) k
def zLr (D : zD) (T g : Nat → Nat) (l : Nat) : Nat := if zUs D T g l 0 (dN D) = false then 0 else if zUs D T g l 1 (dN D) = false then 1 else if zUs D T g l 2 (dN D) = false then 2 else 3
def zGi (D : zD) (T : Nat → Nat) (s : Nat) (g : Nat → Nat) : Nat → Nat → Nat
  | 0 => g
  | i + 1 => if T i = s ∧ dKi D i ≠ 0 then (fun o => if o = i then zLr D T (zGi D T s g i) i else zGi D T s g i o) else zGi D T s g i
def zGo (D : zD) (T : Nat → Nat) : Nat → Nat → Nat
  | 0 => fun _ => 0
  | s + 1 => zGi D T s (zGo D T s) (dN D)
theorem zLr_le (D : zD) (T g : Nat → Nat) (l : Nat) : zLr D T g l ≤ 3 := by
  unfold zLr
  repeat' split
  all_goals omega
theorem zGi_le {D : zD} {T : Nat → Nat} {s : Nat} {g : Nat → Nat} (h : ∀ o, g o ≤ 3) : ∀ i o, zGi D T s g i o ≤ 3 := by
  intro i
  induction i with
  | zero => exact h
  | succ i ih =>
    intro o
    show (if T i = s ∧ dKi D i ≠ 0 then (fun o => if o = i then zLr D T (zGi D T s g i) i else zGi D T s g i o) else zGi D T s g i) o ≤ 3
    split
    · show (if o = i then zLr D T (zGi D T s g i) i else zGi D T s g i o) ≤ 3
      split
      · exact zLr_le _ _ _ _
      · exact ih o
    · exact ih o
theorem zGo_le {D : zD} {T : Nat → Nat} : ∀ s o, zGo D T s o ≤ 3 := by
  intro s
  induction s with
  | zero => intro o; exact Nat.zero_le 3
  | succ s ih => exact zGi_le ih (dN D)
theorem zGi_keep {D : zD} {T : Nat → Nat} {s i o : Nat} {g : Nat → Nat} (h : o ≠ i ∨ T i ≠ s) : zGi D T s g (i + 1) o = zGi D T s g i o := by
  show (if T i = s ∧ dKi D i ≠ 0 then (fun o => if o = i then zLr D T (zGi D T s g i) i else zGi D T s g i o) else zGi D T s g i) o = _
  split
  · rename_i q
    rcases h with h | h
    · exact if_neg h
    · exact absurd q.1 h
  · rfl
theorem zLr_lt {D : zD} {T g : Nat → Nat} {H : Nat → Bool} (v : okD D) (r : zRi D H T) {l : Nat} (hl : l < dN D) (hk : dKi D l ≠ 0) : zLr D T g l < 3 := by
  have hro := v.2.2.2.2.2.2.1 (dKi D l - 1) (by have := (v.2.2.2.1 l hl).2.2.2.1; omega)
  have h1 := (zRm_iff.mp (r l hl).2.2.1 hk).1
  have ht : ∀ o, zRv D T l o = true → o ≠ l ∧ dKi D o = dKi D l ∧ zTk D T o (T l) = true := by
    intro o ho
    unfold zRv zAhd zMt at ho
    rw [Bool.and_eq_true, Bool.or_eq_true, Bool.and_eq_true, Bool.and_eq_true, Bool.or_eq_true, Bool.and_eq_true, decide_eq_true_eq, decide_eq_true_eq, decide_eq_true_eq, decide_eq_true_eq, decide_eq_true_eq] at ho
    obtain ⟨ha, hkk, hm⟩ := ho
    refine ⟨fun e => by subst e; omega, hkk, ?_⟩
    rw [zTk_td]
    rcases hm with hm | ⟨-, hm⟩
    · exact hm
    · unfold zTd at hm ⊢
      rw [Bool.or_eq_true, Bool.and_eq_true, decide_eq_true_eq, decide_eq_true_eq, decide_eq_true_eq] at hm ⊢
      omega
  have hu : ∀ k, zUs D T g l k (dN D) = true → ∃ o, o < dN D ∧ zRv D T l o = true ∧ g o = k := by
    intro k q
    obtain ⟨o, h1, h2⟩ := (q_any_iff (dN D)).mp q
    rw [Bool.and_eq_true, decide_eq_true_eq] at h2
    exact ⟨o, h1, h2⟩
  unfold zLr
  cases q0 : zUs D T g l 0 (dN D)
  · rw [if_pos rfl]; omega
  · cases q1 : zUs D T g l 1 (dN D)
    · rw [if_neg (by decide), if_pos rfl]; omega
    · cases q2 : zUs D T g l 2 (dN D)
      · rw [if_neg (by decide), if_neg (by decide), if_pos rfl]; omega
      · exfalso
        obtain ⟨a, a1, a2, a3⟩ := hu 0 q0
        obtain ⟨b, b1, b2, b3⟩ := hu 1 q1
        obtain ⟨c, c1, c2, c3⟩ := hu 2 q2
        obtain ⟨a4, a5, a6⟩ := ht a a2
        obtain ⟨b4, b5, b6⟩ := ht b b2
        obtain ⟨c4, c5, c6⟩ := ht c c2
        have hab : b ≠ a := fun e => by rw [e, a3] at b3; omega
        have hac : c ≠ a := fun e => by rw [e, a3] at c3; omega
        have hbc : c ≠ b := fun e => by rw [e, b3] at c3; omega
        have e1 := q_cnt_rm (p := fun o => !decide (o = l) && (decide (dKi D o = dKi D l) && zTk D T o (T l))) (l := a) (dN D) a1 (by show (!decide (a = l) && (decide (dKi D a = dKi D l) && zTk D T a (T l))) = true; rw [decide_eq_false a4, decide_eq_true a5, a6]; rfl)
        have e2 := q_cnt_rm (p := fun o => !decide (o = a) && (!decide (o = l) && (decide (dKi D o = dKi D l) && zTk D T o (T l)))) (l := b) (dN D) b1 (by show (!decide (b = a) && (!decide (b = l) && (decide (dKi D b = dKi D l) && zTk D T b (T l)))) = true; rw [decide_eq_false hab, decide_eq_false b4, decide_eq_true b5, b6]; rfl)
        have e3 := q_cnt_rm (p := fun o => !decide (o = b) && (!decide (o = a) && (!decide (o = l) && (decide (dKi D o = dKi D l) && zTk D T o (T l))))) (l := c) (dN D) c1 (by show (!decide (c = b) && (!decide (c = a) && (!decide (c = l) && (decide (dKi D c = dKi D l) && zTk D T c (T l))))) = true; rw [decide_eq_false hbc, decide_eq_false hac, decide_eq_false c4, decide_eq_true c5, c6]; rfl)
        unfold zCn at h1
        omega
theorem z_meetw {D : zD} {T : Nat → Nat} {l o : Nat} (hl : T l < 20) (ho : T o < 20) : (zTs D T o &&& zTs D T l = 0) = (zMt (dDb D l) (T l) (dDb D o) (T o) = false) := by
  have bo : ∀ k, k < 32 → bt (zTs D T o) k = zTd (dDb D o) (T o) k := fun k hk => zTs_bt (by omega) hk
  have bl : ∀ k, k < 32 → bt (zTs D T l) k = zTd (dDb D l) (T l) k := fun k hk => zTs_bt (by omega) hk
  refine propext ⟨fun h => ?_, fun h => ?_⟩
  · have hb : ∀ k, k < 32 → (zTd (dDb D o) (T o) k && zTd (dDb D l) (T l) k) = false := fun k hk => by
      have h1 := congrArg (fun y => bt y k) h
      simp only [b_and, b_0] at h1
      rw [bo k hk, bl k hk] at h1
      exact h1
    have h0 := hb (T l) (by omega)
    have h1 := hb (T l + 1) (by omega)
    have t0 : zTd (dDb D l) (T l) (T l) = true := by unfold zTd; simp
    rw [t0, Bool.and_true] at h0
    unfold zMt
    rw [h0, Bool.false_or]
    by_cases d : dDb D l = 1
    · have t1 : zTd (dDb D l) (T l) (T l + 1) = true := by unfold zTd; simp [d]
      rw [t1, Bool.and_true] at h1
      rw [h1]; simp
    · rw [decide_eq_false d]; rfl
  · apply b_ext
    intro k hk
    rw [b_and, b_0, bo k hk, bl k hk]
    unfold zMt at h
    rw [Bool.or_eq_false_iff] at h
    obtain ⟨h1, h2⟩ := h
    by_cases e : k = T l
    · rw [e, h1]; rfl
    · by_cases e2 : dDb D l = 1 ∧ k = T l + 1
      · rw [decide_eq_true e2.1, Bool.true_and] at h2
        rw [e2.2, h2]; rfl
      · have : zTd (dDb D l) (T l) k = false := by
          unfold zTd
          rw [decide_eq_false e, Bool.false_or, Bool.and_eq_false_iff, decide_eq_false_iff_not, decide_eq_false_iff_not]
          omega
        rw [this, Bool.and_false]
section ZRO
variable {G : sj_G} {σ : sj_S} {D : zD} {T : Nat → Nat} {b : Nat} {H : Nat → Bool}
theorem z_leastRoom (ok : sj_ok G) (v : okD D) (hb : b = 6 ∨ b = 18) {sl : Nat} (hsl : zSl sl) (hR : zRu D H σ b) (hT : repT (dN D) T (σ sl)) {l : Nat} (hl : l < dN D) (hk : dKi D l ≠ 0) {g : Nat → Nat} (hg : ∀ o, o < dN D → zAhd T l o = true → dKi D o ≠ 0 → σ (b + 11) o = nI (g o)) (hg3 : ∀ o, g o ≤ 3) : sj_C G 2 me_X7_leastRoom [.ref (sj_ad G b), .ref (sj_ad G sl), .int (nI l)] σ (.ok (nI (zLr D T g l)), σ) := by
  have h9 := v.1
  obtain ⟨h0, hL⟩ := hR
  obtain ⟨r1, r2, r3, r4, r5, r6, r7, r8, r9, r10⟩ := hL l hl
  obtain ⟨tl, tl2⟩ := hT l hl
  have hin : vp_in (nI l) 9 := z_in (by omega) (by decide)
  have kl : (nI l).toNatClampNeg = l := nI_clamp (by omega)
  refine c_X7_leastRoom ok hb hsl ?_
  unfold wp_X7_leastRoom_0
  -- the rooms that are used
  have fin : ∀ u : Int32, (∀ r, r < 32 → bt u r = zUs D T g l r (dN D)) → sj_J G 2 me_X7_leastRoom (.ok (nI (zLr D T g l)), σ) 125 [.null, .null, .null, .int u, .int (nI 0), .null, .null] σ [] := by
    intro u hu
    have u0 := hu 0 (by decide)
    have u1 := hu 1 (by decide)
    have u2 := hu 2 (by decide)
    have nle : ∀ k, k < 3 → ¬ nI 3 ≤ nI k := fun k hk => nI_ge hk (by decide)
    unfold zLr
    refine t_X7_leastRoom_125 hb hsl (b := b) (sl := sl) ⟨fun q => absurd q (nle 0 (by decide)), fun _ => ⟨fun q => ?_, fun q => ?_⟩⟩
    · rw [z_bit (by decide), u0] at q
      rw [if_pos q]; rfl
    · rw [z_bit (by decide), u0] at q
      rw [if_neg q, nI_add]
      refine t_X7_leastRoom_125 hb hsl (b := b) (sl := sl) ⟨fun q => absurd q (nle 1 (by decide)), fun _ => ⟨fun q => ?_, fun q => ?_⟩⟩
      · rw [z_bit (by decide), u1] at q
        rw [if_pos q]; rfl
      · rw [z_bit (by decide), u1] at q
        rw [if_neg q, nI_add]
        refine t_X7_leastRoom_125 hb hsl (b := b) (sl := sl) ⟨fun q => absurd q (nle 2 (by decide)), fun _ => ⟨fun q => ?_, fun q => ?_⟩⟩
        · rw [z_bit (by decide), u2] at q
          rw [if_pos q]; rfl
        · rw [z_bit (by decide), u2] at q
          rw [if_neg q, nI_add]
          exact t_X7_leastRoom_125 hb hsl (b := b) (sl := sl) ⟨fun _ => rfl, fun q => absurd (nI_le (by decide) (by decide)) q⟩
  have key : ∀ j i u, i + j = dN D → (∀ r, r < 32 → bt u r = zUs D T g l r i) → sj_J G 2 me_X7_leastRoom (.ok (nI (zLr D T g l)), σ) 5 [.ref (sj_ad G b), .ref (sj_ad G sl), .int (nI l), .int u, .int (nI i), .null, .null] σ [] := by
    intro j
    induction j with
    | zero =>
      intro i u hi hu
      have : i = dN D := by omega
      subst this
      refine t_X7_leastRoom_5 hb hsl ⟨fun _ => fin u hu, fun q => ?_⟩
      rw [h0] at q
      exact absurd (nI_le (by omega) (by omega)) q
    | succ j ih =>
      intro i u hi hu
      obtain ⟨ti, ti2⟩ := hT i (by omega)
      obtain ⟨-, s2, -⟩ := hL i (by omega)
      have ki : (nI i).toNatClampNeg = i := nI_clamp (by omega)
      have hii : vp_in (nI i) 9 := z_in (by omega) (by decide)
      have h1 := ih (i + 1) (if zRv D T l i then u ||| (nI 1 <<< (nI (g i) &&& 31)) else u) (by omega) (by
        intro r hr
        have eq1 : zUs D T g l r (i + 1) = (zUs D T g l r i || (zRv D T l i && decide (g i = r))) := rfl
        rw [eq1, ← hu r hr]
        cases zRv D T l i
        · simp
        · rw [if_pos rfl, b_or, z_shl1 (by have := hg3 i; omega) hr, Bool.true_and]
          congr 1
          exact decide_eq_decide.mpr ⟨fun z => z.symm, fun z => z.symm⟩)
      refine t_X7_leastRoom_5 hb hsl ⟨fun q => ?_, fun _ => ⟨hii, hin, fun _ => ⟨hii, hin⟩, ?_⟩⟩
      · rw [h0] at q
        exact absurd q (nI_ge (by omega) (by omega))
      · unfold wp_X7_leastRoom_45 wp_X7_leastRoom_78 wp_X7_leastRoom_116
        refine ⟨hii, hii, hin, hin, fun _ _ => hin, fun _ _ _ => hii, ?_⟩
        rw [ki, kl, ti, tl, s2, r2]
        have ea : (if nI (T i) < nI (T l) then nI 1 else (if nI (T i) = nI (T l) then (if nI l ≤ nI i then nI 0 else nI 1) else nI 0)) = if zAhd T l i then nI 1 else nI 0 := by
          unfold zAhd
          by_cases q1 : T i < T l
          · rw [if_pos (nI_lt q1 (by omega)), decide_eq_true q1]; rfl
          · rw [if_neg (nI_nlt (by omega) (by omega)), decide_eq_false q1, Bool.false_or]
            by_cases q2 : T i = T l
            · rw [if_pos (by rw [q2]), decide_eq_true q2, Bool.true_and]
              by_cases q3 : i < l
              · rw [if_neg (nI_ge q3 (by omega)), decide_eq_true q3]; rfl
              · rw [if_pos (nI_le (by omega) (by omega)), decide_eq_false q3]; rfl
            · rw [if_neg (by rw [nI_eq (by omega) (by omega)]; exact q2), decide_eq_false q2]; rfl
        have em : (if ((if dDb D i = 1 then nI 3 else nI 1) <<< (nI (T i) &&& 31)) &&& ((if dDb D l = 1 then nI 3 else nI 1) <<< (nI (T l) &&& 31)) = 0 then nI 0 else nI 1) = if zMt (dDb D l) (T l) (dDb D i) (T i) then nI 1 else nI 0 := by
          show (if zTs D T i &&& zTs D T l = 0 then nI 0 else nI 1) = _
          simp only [z_meetw tl2 ti2]
          cases zMt (dDb D l) (T l) (dDb D i) (T i) <;> rfl
        rw [ea, em]
        have eb : (((σ (b + 9) l >>> (nI i &&& 31)) &&& nI 1) = 0) = (bt (σ (b + 9) l) i = false) := propext (z_bit (by omega))
        simp only [eb]
        have er : (if (if zAhd T l i then nI 1 else nI 0) = 0 then u else (if (if zMt (dDb D l) (T l) (dDb D i) (T i) then nI 1 else nI 0) = 0 then u else (if bt (σ (b + 9) l) i = false then u else (u ||| (nI 1 <<< (σ (b + 11) i &&& 31)))))) = (if zRv D T l i then u ||| (nI 1 <<< (nI (g i) &&& 31)) else u) := by
          unfold zRv
          cases ha : zAhd T l i
          · rw [if_pos (show (if false = true then nI 1 else nI 0) = 0 from nI_0)]; rfl
          · rw [if_neg (show ¬ (if true = true then nI 1 else nI 0) = 0 by decide), Bool.true_and]
            cases hm : zMt (dDb D l) (T l) (dDb D i) (T i)
            · rw [if_pos (show (if false = true then nI 1 else nI 0) = 0 from nI_0)]; simp
            · rw [if_neg (show ¬ (if true = true then nI 1 else nI 0) = 0 by decide), Bool.and_true, r9 i (by omega)]
              have hne : ¬ i = l := by
                intro e
                unfold zAhd at ha
                rw [e] at ha
                simp at ha
              rw [decide_eq_true (show i < dN D by omega), decide_eq_false hne, decide_eq_false hk]
              by_cases q : dKi D i = dKi D l
              · rw [decide_eq_true q, hg i (by omega) ha (by rw [q]; exact hk)]
                rfl
              · rw [decide_eq_false q]; rfl
        rw [er, nI_add]
        exact h1
  exact key (dN D) 0 (nI 0) (by omega) (fun r hr => by
    rw [z_bn _ _ hr]
    show Nat.testBit 0 r = false
    simp)
def zPc (T : Nat → Nat) (n s i o : Nat) : Bool := decide (o < n) && (decide (T o < s) || (decide (T o = s) && decide (o < i)))
def zGv (D : zD) (T : Nat → Nat) (f : Nat → Int32) (s i : Nat) : Nat → Int32 := fun o => if zPc T (dN D) s i o then (if dKi D o = 0 then -1 else nI (zGi D T s (zGo D T s) i o)) else f o
theorem zPc_iff {n s i o : Nat} : zPc T n s i o = true ↔ o < n ∧ (T o < s ∨ (T o = s ∧ o < i)) := by
  unfold zPc
  rw [Bool.and_eq_true, Bool.or_eq_true, Bool.and_eq_true, decide_eq_true_eq, decide_eq_true_eq, decide_eq_true_eq, decide_eq_true_eq]
theorem zGv_next {f : Nat → Int32} {s : Nat} : zGv D T f s (dN D) = zGv D T f (s + 1) 0 := by
  funext o
  unfold zGv
  have e : zPc T (dN D) s (dN D) o = zPc T (dN D) (s + 1) 0 o := by
    rw [Bool.eq_iff_iff, zPc_iff, zPc_iff]
    omega
  rw [e]
  rfl
theorem zGv_skip {f : Nat → Int32} {s i : Nat} (h : T i ≠ s) : zGv D T f s (i + 1) = zGv D T f s i := by
  funext o
  unfold zGv
  have e : zPc T (dN D) s (i + 1) o = zPc T (dN D) s i o := by
    rw [Bool.eq_iff_iff, zPc_iff, zPc_iff]
    constructor
    · rintro ⟨h1, h2 | ⟨h2, h3⟩⟩
      · exact ⟨h1, Or.inl h2⟩
      · refine ⟨h1, Or.inr ⟨h2, ?_⟩⟩
        by_cases e : o = i
        · exact absurd (e ▸ h2) h
        · omega
    · rintro ⟨h1, h2 | ⟨h2, h3⟩⟩
      · exact ⟨h1, Or.inl h2⟩
      · exact ⟨h1, Or.inr ⟨h2, by omega⟩⟩
  rw [e, zGi_keep (Or.inr h)]
theorem zGv_set {f : Nat → Int32} {s i : Nat} (hi : i < dN D) (h : T i = s) : zGv D T f s (i + 1) = upd (zGv D T f s i) i (if dKi D i = 0 then -1 else nI (zLr D T (zGi D T s (zGo D T s) i) i)) := by
  funext o
  unfold upd
  by_cases e : o = i
  · subst e
    rw [if_pos rfl]
    unfold zGv
    rw [zPc_iff.mpr ⟨hi, Or.inr ⟨h, by omega⟩⟩, if_pos rfl]
    by_cases k : dKi D o = 0
    · rw [if_pos k, if_pos k]
    · rw [if_neg k, if_neg k]
      have : zGi D T s (zGo D T s) (o + 1) o = zLr D T (zGi D T s (zGo D T s) o) o := by
        show (if T o = s ∧ dKi D o ≠ 0 then (fun q => if q = o then zLr D T (zGi D T s (zGo D T s) o) o else zGi D T s (zGo D T s) o q) else zGi D T s (zGo D T s) o) o = _
        rw [if_pos ⟨h, k⟩]
        exact if_pos rfl
      rw [this]
  · rw [if_neg e]
    unfold zGv
    have e2 : zPc T (dN D) s (i + 1) o = zPc T (dN D) s i o := by
      rw [Bool.eq_iff_iff, zPc_iff, zPc_iff]
      omega
    rw [e2, zGi_keep (Or.inl e)]
theorem z_giveRooms (ok : sj_ok G) (v : okD D) (hb : b = 6 ∨ b = 18) {sl : Nat} (hsl : zSl sl) (hs17 : sl ≠ b + 11) (hR : zRu D H σ b) (hT : repT (dN D) T (σ sl)) {l : Nat} (hl : l < dN D) : ∃ τ, sj_C G 3 me_X7_giveRooms [.ref (sj_ad G b), .ref (sj_ad G sl), .int (nI l)] σ (.ok (if dKi D l = 0 then -1 else nI (zGo D T 20 l)), τ) ∧ ∀ k, k ≠ b + 11 → τ k = σ k := by
  have h9 := v.1
  have hk9 : sj_lk (b + 11) = 13 := by rcases hb with e | e <;> rw [e] <;> rfl
  refine ⟨sj_up σ (b + 11) (zGv D T (σ (b + 11)) 20 0), c_X7_giveRooms ok hb hsl ?_, fun k hk => z_upn hk⟩
  unfold wp_X7_giveRooms_0
  have key : ∀ j s, s + j = 20 → sj_J G 3 me_X7_giveRooms (.ok (if dKi D l = 0 then -1 else nI (zGo D T 20 l)), sj_up σ (b + 11) (zGv D T (σ (b + 11)) 20 0)) 2 [.ref (sj_ad G b), .ref (sj_ad G sl), .int (nI l), .int (nI s), .null] (sj_up σ (b + 11) (zGv D T (σ (b + 11)) s 0)) [] := by
    intro j
    induction j with
    | zero =>
      intro s hs
      have : s = 20 := by omega
      subst this
      refine t_X7_giveRooms_2 hb hsl ⟨fun _ => ⟨z_in (by omega) (by decide), ?_⟩, fun q => absurd (nI_le (by omega) (by omega)) q⟩
      rw [sj_up_s, nI_clamp (by omega)]
      unfold zGv
      rw [zPc_iff.mpr ⟨hl, Or.inl (hT l hl).2⟩, if_pos rfl]
      rfl
    | succ j ih =>
      intro s hs
      refine t_X7_giveRooms_2 hb hsl ⟨fun q => absurd q (nI_ge (by omega) (by decide)), fun _ => ?_⟩
      have key2 : ∀ m i, i + m = dN D → sj_J G 3 me_X7_giveRooms (.ok (if dKi D l = 0 then -1 else nI (zGo D T 20 l)), sj_up σ (b + 11) (zGv D T (σ (b + 11)) 20 0)) 11 [.ref (sj_ad G b), .ref (sj_ad G sl), .int (nI l), .int (nI s), .int (nI i)] (sj_up σ (b + 11) (zGv D T (σ (b + 11)) s i)) [] := by
        intro m
        induction m with
        | zero =>
          intro i hi
          have : i = dN D := by omega
          subst this
          refine t_X7_giveRooms_11 hb hsl ⟨fun _ => ?_, fun q => ?_⟩
          · rw [nI_add, zGv_next]
            exact ih (s + 1) (by omega)
          · rw [z_upn (by omega), hR.1] at q
            exact absurd (nI_le (by omega) (by omega)) q
        | succ m ihm =>
          intro i hi
          have h1 := ihm (i + 1) (by omega)
          obtain ⟨ti, ti2⟩ := hT i (by omega)
          have hii : vp_in (nI i) 9 := z_in (by omega) (by decide)
          have ki : (nI i).toNatClampNeg = i := nI_clamp (by omega)
          obtain ⟨-, -, -, wk, -⟩ := v.2.2.2.1 i (by omega)
          refine t_X7_giveRooms_11 hb hsl ⟨fun q => ?_, fun _ => ⟨hii, fun q => ?_, fun q => ⟨hii, fun q2 => ?_, fun q2 => ?_⟩⟩⟩
          · rw [z_upn (by omega), hR.1] at q
            exact absurd q (nI_ge (by omega) (by omega))
          · rw [z_upn hs17, ki, ti, nI_eq (by omega) (by omega)] at q
            unfold wp_X7_giveRooms_58
            rw [zGv_skip q] at h1
            rw [nI_add]
            exact h1
          · rw [z_upn hs17, ki, ti, nI_eq (by omega) (by omega)] at q
            have r10 := (hR.2 i (by omega)).2.2.2.2.2.2.2.2.2
            rw [z_upn (by omega), ki, r10] at q2
            have k0 : dKi D i ≠ 0 := fun e => by rw [if_pos e] at q2; exact q2 rfl
            rw [zGv_set (by omega) q, if_neg k0] at h1
            have hlr := z_leastRoom (σ := sj_up σ (b + 11) (zGv D T (σ (b + 11)) s i)) (H := H) (g := zGi D T s (zGo D T s) i) ok v hb hsl ⟨by rw [z_upn (by omega)]; exact hR.1, fun o ho => zRuL_of (hR.2 o ho) (fun k _ _ => by rw [z_upn (by omega)])⟩ (by rw [z_upn hs17]; exact hT) (by omega : i < dN D) k0 (fun o ho ha hko => by
              rw [sj_up_s]
              unfold zGv
              have : zPc T (dN D) s i o = true := by
                refine zPc_iff.mpr ⟨ho, ?_⟩
                unfold zAhd at ha
                rw [Bool.or_eq_true, Bool.and_eq_true, decide_eq_true_eq, decide_eq_true_eq, decide_eq_true_eq, q] at ha
                exact ha
              rw [this, if_pos rfl, if_neg hko]) (fun o => zGi_le (fun o => zGo_le s o) i o)
            refine ⟨_, _, hlr, ?_⟩
            unfold wp_X7_giveRooms_57 wp_X7_giveRooms_58
            refine ⟨hii, ?_⟩
            rw [ki, z_st_up, nI_add]
            exact h1
          · rw [z_upn hs17, ki, ti, nI_eq (by omega) (by omega)] at q
            have r10 := (hR.2 i (by omega)).2.2.2.2.2.2.2.2.2
            rw [z_upn (by omega), ki, r10] at q2
            have k0 : dKi D i = 0 := by
              by_cases e : dKi D i = 0
              · exact e
              · rw [if_neg e, nI_eq (by have := v.2.2.2.2.2.2.1 (dKi D i - 1) (by omega); omega) (by decide)] at q2
                have := v.2.2.2.2.2.2.1 (dKi D i - 1) (by omega)
                omega
            rw [zGv_set (by omega) q, if_pos k0] at h1
            unfold wp_X7_giveRooms_57 wp_X7_giveRooms_58
            refine ⟨hii, ?_⟩
            rw [ki, z_st_up, nI_add]
            exact h1
      exact key2 (dN D) 0 (by omega)
  have h0 := key 20 0 (by omega)
  have e : zGv D T (σ (b + 11)) 0 0 = σ (b + 11) := by
    funext o
    unfold zGv
    have : zPc T (dN D) 0 0 o = false := by
      rw [← Bool.not_eq_true, zPc_iff]
      omega
    rw [this]; rfl
  rw [e, z_up_self] at h0
  exact h0
end ZRO
