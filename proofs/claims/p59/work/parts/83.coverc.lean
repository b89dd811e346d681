/-! COVER 2: the class -/
def zFit (D : zD) (T : Nat → Nat) (s t : Nat) : Bool := !zAny D 1 t T s (dN D) && !(dIll D t).testBit (s / 4)
def zCap (D : zD) (T : Nat → Nat) (s l t : Nat) : Bool := (dTch D t).testBit (dSu D l) && zFit D T s t
def zNe (D : zD) (T : Nat → Nat) (s l : Nat) : Bool := decide (l < dN D) && (zTk D T l s && (dIll D (dTe D l)).testBit (s / 4))
def zNd (N : Nat → Bool) (k : Nat) : Nat := zLs (fun l => !(N l && decide (q_cnt N l = k))) 9 0
theorem zNd_eq {N : Nat → Bool} {l : Nat} (hl : l < 9) (h : N l = true) : zNd N (q_cnt N l) = l := by
  have hs := zLs_spec (f := fun i => !(N i && decide (q_cnt N i = q_cnt N l))) 9 0
  have hle : zNd N (q_cnt N l) ≤ l := by
    apply Classical.byContradiction
    intro q
    have := hs.2.2.1 l (Nat.zero_le _) (by show l < zNd N (q_cnt N l); omega)
    have this : (!(N l && decide (q_cnt N l = q_cnt N l))) = true := this
    rw [h, decide_eq_true rfl] at this
    cases this
  have hf : (!(N (zNd N (q_cnt N l)) && decide (q_cnt N (zNd N (q_cnt N l)) = q_cnt N l))) = false := hs.2.2.2 (by show zNd N (q_cnt N l) < 0 + 9; omega)
  generalize zNd N (q_cnt N l) = r at hle hf
  have hf : (N r && decide (q_cnt N r = q_cnt N l)) = true := by simpa using hf
  rw [Bool.and_eq_true, decide_eq_true_eq] at hf
  obtain ⟨h1, h2⟩ := hf
  apply Classical.byContradiction
  intro hne
  have h3 := q_cnt_mono (S := N) (i := r + 1) l (by omega)
  have h4 : q_cnt N (r + 1) = q_cnt N r + 1 := by
    show q_cnt N r + (if N r then 1 else 0) = _
    rw [h1]
    rfl
  omega
def zCC (D : zD) (T : Nat → Nat) (s k t : Nat) : Bool := zCap D T s (zNd (zNe D T s) k) t
def zNm9 (D : zD) (T : Nat → Nat) (s : Nat) : Nat := q_cnt (zNe D T s) 9
theorem zCC_eq {D : zD} {T : Nat → Nat} {s l t : Nat} (hl : l < 9) (h : zNe D T s l = true) : zCC D T s (q_cnt (zNe D T s) l) t = zCap D T s l t := by
  unfold zCC
  rw [zNd_eq hl h]
theorem q_cnt_s {N : Nat → Bool} {l : Nat} : q_cnt N (l + 1) = q_cnt N l + (if N l then 1 else 0) := rfl
section ZVC
variable {G : sj_G} {σ : sj_S} {D : zD} {T : Nat → Nat}
theorem z_mostTaken (ok : sj_ok G) {N : Nat → Bool} {C : Nat → Nat → Bool} {x1 : Int32} (hb : ∀ i, i < 9 → bt x1 i = N i) (hA : ∀ l, l < 9 → N l = true → ∀ t, t < 6 → bt (σ 43 l) t = C (q_cnt N l) t) : ∀ n l d (x2 : Int32) (S : Nat → Bool), l + n = 9 → 19 ≤ d + l → (∀ t, t < 6 → bt x2 t = S t) →
    sj_J G d me_X2_mostTaken (.ok (nI (zMx C (q_cnt N 9 - q_cnt N l) (q_cnt N l) S)), σ) 3 [.ref (sj_ad G 43), .int x1, .int x2, .null, .int (nI l), .null, .null, .null] σ [] := by
  intro n
  induction n with
  | zero =>
    intro l d x2 S hl hd hS
    obtain rfl : l = 9 := by omega
    rw [Nat.sub_self]
    refine t_X2_mostTaken_3 (dd := d - 1) (by omega) (by omega) ⟨fun _ => ?_, fun q => absurd (nI_le (by omega) (by omega)) q⟩
    exact ⟨fun q => absurd q (nI_nlt (by omega) (by omega)), fun _ => rfl⟩
  | succ n ih =>
    intro l d x2 S hl hd hS
    by_cases hN : N l = true
    · have e1 : q_cnt N (l + 1) = q_cnt N l + 1 := by rw [q_cnt_s, hN]; rfl
      have hle := q_cnt_mono (S := N) (i := l + 1) 9 (by omega)
      have e2 : q_cnt N 9 - q_cnt N l = (q_cnt N 9 - q_cnt N (l + 1)) + 1 := by omega
      rw [e2, zMx_s]
      generalize ef : zMxV C S (q_cnt N l) (zMx C (q_cnt N 9 - q_cnt N (l + 1)) (q_cnt N l + 1)) = f
      have hrec : ∀ (x2 : Int32) (S : Nat → Bool), (∀ t, t < 6 → bt x2 t = S t) → sj_C G (d - 1) me_X2_mostTaken [.ref (sj_ad G 43), .int x1, .int x2, .int (nI (l + 1))] σ (.ok (nI (zMx C (q_cnt N 9 - q_cnt N (l + 1)) (q_cnt N l + 1) S)), σ) := by
        intro x2 S hS
        have h := ih (l + 1) (d - 1) x2 S (by omega) (by omega) hS
        rw [e1] at h
        rw [e1]
        exact c_X2_mostTaken (dd := d - 1 - 1) ok (by omega) (by omega) h
      have hm9 : ∀ S, zMx C (q_cnt N 9 - q_cnt N (l + 1)) (q_cnt N l + 1) S ≤ 9 := fun S => by
        have h1 := zMx_n (C := C) (q_cnt N 9 - q_cnt N (l + 1)) (q_cnt N l + 1) S
        have h2 := q_cnt_le N 9
        omega
      have key : ∀ k t a, t + k = 6 → a < 100 → sj_J G d me_X2_mostTaken (.ok (nI (zMf f k t a)), σ) 49 [.ref (sj_ad G 43), .int x1, .int x2, .null, .int (nI l), .int (nI a), .int (nI t), .null] σ [] := by
        intro k
        induction k with
        | zero =>
          intro t a ht ha
          exact t_X2_mostTaken_49 (dd := d - 1) (by omega) (by omega) ⟨fun _ => rfl, fun q => absurd (nI_le (by omega) (by omega)) q⟩
        | succ k ihk =>
          intro t a ht ha
          have hbit : bt (σ 43 l &&& x2) t = (C (q_cnt N l) t && S t) := by rw [b_and, hA l (by omega) hN t (by omega), hS t (by omega)]
          have hft : f t = if S t && C (q_cnt N l) t then 1 + zMx C (q_cnt N 9 - q_cnt N (l + 1)) (q_cnt N l + 1) (zRmv S t) else 0 := by rw [← ef]; rfl
          refine t_X2_mostTaken_49 (dd := d - 1) (by omega) (by omega) ⟨fun q => absurd q (nI_ge (by omega) (by omega)), fun _ => ⟨z_in (by omega) (by decide), ?_⟩⟩
          rw [nI_clamp (by omega), z_andbit (by omega), hbit]
          refine ⟨fun q => ?_, fun q => ?_⟩
          · have h0 : f t = 0 := by rw [hft, Bool.and_comm, q, if_neg (by decide)]
            have h1 := ihk (t + 1) a (by omega) ha
            unfold wp_X2_mostTaken_98
            rw [nI_add]
            show sj_J G d me_X2_mostTaken (.ok (nI (zMf f k (t + 1) (if a < f t then f t else a))), σ) 49 _ σ []
            rw [h0, if_neg (by omega)]
            exact h1
          · rw [Bool.not_eq_false] at q
            have h0 : f t = 1 + zMx C (q_cnt N 9 - q_cnt N (l + 1)) (q_cnt N l + 1) (zRmv S t) := by rw [hft, Bool.and_comm, q, if_pos rfl]
            have hm := hm9 (zRmv S t)
            have h1 := ihk (t + 1) (if a < f t then f t else a) (by omega) (by split <;> omega)
            have hr := hrec (x2 &&& ((nI 1 <<< (nI t &&& 31)) ^^^ (-1))) (zRmv S t) (fun u hu => by
              rw [b_and, b_xor, z_shl1 (by omega) (by omega), b_m1 u (by omega), hS u hu]
              unfold zRmv
              simp)
            rw [nI_add]
            refine ⟨_, _, hr, ?_⟩
            unfold wp_X2_mostTaken_98
            rw [nI_add, nI_add, ← h0, z_mx ha (by omega)]
            exact h1
      refine t_X2_mostTaken_3 (dd := d - 1) (by omega) (by omega) ⟨fun q => absurd q (nI_ge (by omega) (by omega)), fun _ => ⟨fun _ => ?_, fun q => ?_⟩⟩
      · refine ⟨fun _ => ?_, fun q => absurd (nI_lt (by omega) (by omega)) q⟩
        rw [nI_add]
        have hm := hm9 S
        exact ⟨_, _, hrec x2 S hS, key 6 0 _ (by omega) (by omega)⟩
      · rw [z_bit (by omega), hb l (by omega), hN] at q
        cases q
    · have hN : N l = false := by simpa using hN
      have e1 : q_cnt N (l + 1) = q_cnt N l := by rw [q_cnt_s, hN]; rfl
      have h := ih (l + 1) d x2 S (by omega) (by omega) hS
      rw [e1] at h
      refine t_X2_mostTaken_3 (dd := d - 1) (by omega) (by omega) ⟨fun q => absurd q (nI_ge (by omega) (by omega)), fun _ => ⟨fun q => ?_, fun _ => ?_⟩⟩
      · rw [z_bit (by omega), hb l (by omega)] at q
        exact absurd hN q
      · rw [nI_add]
        exact h
theorem z_mostTakenC (ok : sj_ok G) {N : Nat → Bool} {C : Nat → Nat → Bool} {x1 : Int32} (hb : ∀ i, i < 9 → bt x1 i = N i) (hA : ∀ l, l < 9 → N l = true → ∀ t, t < 6 → bt (σ 43 l) t = C (q_cnt N l) t) {l : Nat} {x2 : Int32} {S : Nat → Bool} (hl : l ≤ 9) (hS : ∀ t, t < 6 → bt x2 t = S t) :
    sj_C G 40 me_X2_mostTaken [.ref (sj_ad G 43), .int x1, .int x2, .int (nI l)] σ (.ok (nI (zMx C (q_cnt N 9 - q_cnt N l) (q_cnt N l) S)), σ) :=
  c_X2_mostTaken (dd := 39) ok (by omega) (by omega) (z_mostTaken ok hb hA (9 - l) l 40 x2 S (by omega) (by omega) hS)
theorem z_leastTaker (ok : sj_ok G) {N : Nat → Bool} {C : Nat → Nat → Bool} (hb : ∀ i, i < 9 → bt (σ 41 1) i = N i) (hA : ∀ l, l < 9 → N l = true → ∀ t, t < 6 → bt (σ 43 l) t = C (q_cnt N l) t) {l : Nat} {S : Nat → Bool} (hl : l < 9) (hN : N l = true) (hS : ∀ t, t < 6 → bt (σ 41 3) t = S t) {n : Nat} (hn : n + 1 = q_cnt N 9 - q_cnt N l) :
    sj_C G 41 me_X2_leastTaker [.ref (sj_ad G 41), .int (nI l), .int (nI (zMx C (n + 1) (q_cnt N l) S))] σ (.ok (if zGt C n (q_cnt N l) S < 6 then nI (zGt C n (q_cnt N l) S) else -1), σ) := by
  have e1 : q_cnt N (l + 1) = q_cnt N l + 1 := by rw [q_cnt_s, hN]; rfl
  have h99 := q_cnt_le N 9
  refine c_X2_leastTaker ok ?_
  unfold wp_X2_leastTaker_0
  have key : ∀ k t, t + k = 6 → sj_J G 41 me_X2_leastTaker (.ok (if zLs (fun t => !zGc C n (q_cnt N l) S t) k t < 6 then nI (zLs (fun t => !zGc C n (q_cnt N l) S t) k t) else -1), σ) 2 [.ref (sj_ad G 41), .int (nI l), .int (nI (zMx C (n + 1) (q_cnt N l) S)), .int (nI t), .null, .null] σ [] := by
    intro k
    induction k with
    | zero =>
      intro t ht
      refine t_X2_leastTaker_2 ⟨fun _ => ?_, fun q => absurd (nI_le (by omega) (by omega)) q⟩
      show ((Except.ok (if t < 6 then nI t else -1) : Except Nat Int32), σ) = _
      rw [if_neg (by omega)]
    | succ k ih =>
      intro t ht
      have h1 := ih (t + 1) (by omega)
      have hbit : (((σ 43 l &&& σ 41 3) &&& ((σ 41 3 &&& ((nI 1 <<< (nI t &&& 31)) ^^^ (-1))) ^^^ (-1))) = 0) = ((C (q_cnt N l) t && S t) = false) := by
        rw [eq_iff_iff]
        constructor
        · intro q
          have := congrArg (fun y => bt y t) q
          simp only [b_and, b_xor, b_0, z_shl1 (by omega : t < 32) (by omega : t < 32), b_m1 t (by omega), hA l hl hN t (by omega), hS t (by omega), decide_true] at this
          simpa using this
        · intro q
          apply b_ext
          intro i hi
          rw [b_and, b_and, b_xor, b_and, b_xor, z_shl1 (by omega) hi, b_m1 i hi, b_0]
          by_cases e : i = t
          · subst e
            rw [hA l hl hN i (by omega), hS i (by omega), q]
            rfl
          · rw [decide_eq_false e]
            cases bt (σ 41 3) i <;> simp
      have hother : ∀ u, u < 6 → bt (σ 41 3 &&& ((nI 1 <<< (nI t &&& 31)) ^^^ (-1))) u = zRmv S t u := fun u hu => by
        rw [b_and, b_xor, z_shl1 (by omega) (by omega), b_m1 u (by omega), hS u hu]
        unfold zRmv
        simp
      refine t_X2_leastTaker_2 ⟨fun q => absurd q (nI_ge (by omega) (by omega)), fun _ => ⟨z_in (by omega) (by decide), ?_⟩⟩
      unfold wp_X2_leastTaker_44
      rw [nI_clamp (by omega)]
      simp only [hbit]
      by_cases hc : (C (q_cnt N l) t && S t) = false
      · have hg : zGc C n (q_cnt N l) S t = false := by
          unfold zGc
          rw [Bool.and_comm] at hc
          rw [← Bool.and_assoc, hc]
          rfl
        rw [if_pos hc, zLs_s, hg]
        refine ⟨fun _ => ?_, fun q => absurd z_00 q⟩
        unfold wp_X2_leastTaker_75
        rw [nI_add]
        exact h1
      · rw [if_neg hc]
        rw [Bool.not_eq_false, Bool.and_eq_true] at hc
        have hm := z_mostTakenC (σ := σ) ok hb hA (l := l + 1) (by omega) hother
        rw [e1, show q_cnt N 9 - (q_cnt N l + 1) = n by omega] at hm
        have hz1 := zMx_n (C := C) n (q_cnt N l + 1) (zRmv S t)
        have hz2 := zMx_n (C := C) (n + 1) (q_cnt N l) S
        refine ⟨fun q => absurd q z_10, fun _ => ?_⟩
        rw [nI_add]
        refine ⟨_, _, hm, ?_⟩
        rw [nI_add]
        refine ⟨fun q => ?_, fun q => ?_⟩
        · rw [nI_ltI (by omega) (by omega)] at q
          have hg : zGc C n (q_cnt N l) S t = false := by
            rw [← Bool.not_eq_true, zGc_iff]
            rintro ⟨-, -, r⟩
            omega
          rw [zLs_s, hg]
          unfold wp_X2_leastTaker_75
          rw [nI_add]
          exact h1
        · rw [nI_ltI (by omega) (by omega)] at q
          have hg : zGc C n (q_cnt N l) S t = true := zGc_iff.mpr ⟨hc.2, hc.1, by omega⟩
          rw [zLs_s, hg]
          show ((Except.ok (if t < 6 then nI t else -1) : Except Nat Int32), σ) = _
          rw [if_pos (by omega)]
  exact key 6 0 (by decide)
theorem z_teachersOf (ok : sj_ok G) (hC : repC D (σ 2)) {s : Nat} (hs : s < 32) : ∃ x, sj_C G 3 me_X2_teachersOf [.ref (sj_ad G 41), .ref (sj_ad G 1), .int (nI s)] σ (.ok x, σ) ∧ ∀ t, t < 6 → bt x t = (dTch D t).testBit s := by
  have key : ∀ k t (x : Int32), t + k = 6 → (∀ u, u < 32 → bt x u = (decide (u < t) && (dTch D u).testBit s)) → ∃ y, sj_J G 3 me_X2_teachersOf (.ok y, σ) 5 [.null, .ref (sj_ad G 1), .int (nI s), .int x, .int (nI t)] σ [] ∧ ∀ u, u < 6 → bt y u = (dTch D u).testBit s := by
    intro k
    induction k with
    | zero =>
      intro t x ht hx
      refine ⟨x, t_X2_teachersOf_5 ⟨fun _ => rfl, fun q => absurd (nI_le (by omega) (by omega)) q⟩, fun u hu => ?_⟩
      rw [hx u (by omega), decide_eq_true (by omega)]
      rfl
    | succ k ih =>
      intro t x ht hx
      have hv := z_subjectsOf (σ := σ) ok (t := t) (by omega)
      rw [(hC.2.2.2.2.2.1 t (by omega)).1] at hv
      obtain ⟨y, h1, h2⟩ := ih (t + 1) (x ||| (((nI (dTch D t) >>> (nI s &&& 31)) &&& nI 1) <<< (nI t &&& 31))) (by omega) (fun u hu => by
        rw [b_or, hx u hu, z_bitv hs, z_bn _ _ hs, b_shl t (by omega) _ hu]
        by_cases e : u = t
        · subst e
          rw [decide_eq_false (by omega : ¬ u < u), decide_eq_true (Nat.le_refl u), Nat.sub_self, decide_eq_true (by omega : u < u + 1)]
          cases (dTch D u).testBit s <;> rfl
        · have hz : (decide (t ≤ u) && bt (if (dTch D t).testBit s then nI 1 else nI 0) (u - t)) = false := by
            by_cases q : t ≤ u
            · have h0 : bt (nI 0) (u - t) = false := (z_bn 0 _ (by omega)).trans (Nat.zero_testBit _)
              have h1 : bt (nI 1) (u - t) = false := by rw [z_b1 _ (by omega), decide_eq_false (by omega)]
              split
              · rw [h1, Bool.and_false]
              · rw [h0, Bool.and_false]
            · rw [decide_eq_false q, Bool.false_and]
          rw [hz, Bool.or_false]
          by_cases q : u < t
          · rw [decide_eq_true q, decide_eq_true (by omega : u < t + 1)]
          · rw [decide_eq_false q, decide_eq_false (by omega : ¬ u < t + 1)])
      refine ⟨y, t_X2_teachersOf_5 ⟨fun q => absurd q (nI_ge (by omega) (by omega)), fun _ => ⟨_, _, hv, ?_⟩⟩, h2⟩
      rw [nI_add]
      exact h1
  obtain ⟨y, h1, h2⟩ := key 6 0 (nI 0) (by decide) (fun u hu => by rw [z_bn 0 u hu, decide_eq_false (by omega)]; exact Nat.zero_testBit u)
  exact ⟨y, c_X2_teachersOf ok h1, h2⟩
def zVR (D : zD) (T : Nat → Nat) (s : Nat) (ρ : sj_S) : Prop := (∀ i, i < 32 → bt (ρ 41 1) i = zNe D T s i) ∧ ∀ l, l < 9 → zNe D T s l = true → ∀ t, t < 6 → bt (ρ 43 l) t = zCap D T s l t
theorem z_collect (ok : sj_ok G) (hC : repC D (σ 2)) (v : okD D) (hT : repT (dN D) T (σ 3)) {s : Nat} (hs : s < 20) : ∃ ρ, sj_C G 4 me_X2_collect [.ref (sj_ad G 41), .ref (sj_ad G 1), .int (nI s)] σ (.ok 0, ρ) ∧ (∀ b, b ≠ 41 → b ≠ 43 → ρ b = σ b) ∧ zVR D T s ρ := by
  have h9 := v.1
  have hdiv : nI s / nI 4 = nI (s / 4) := pk_div (by omega) (by decide) (by decide)
  have hsl : zSl 3 := ⟨rfl, by decide, rfl⟩
  -- the lessons
  have k75 : ∀ k l (ρ : sj_S) (x : Int32), l + k = dN D → (∀ b, b ≠ 41 → b ≠ 43 → ρ b = σ b) → (∀ t, t < 6 → bt x t = zFit D T s t) → (∀ i, i < 32 → bt (ρ 41 1) i = (decide (i < l) && zNe D T s i)) → (∀ i, i < l → zNe D T s i = true → ∀ t, t < 6 → bt (ρ 43 i) t = zCap D T s i t) →
      ∃ ρ', sj_J G 4 me_X2_collect (.ok 0, ρ') 75 [.ref (sj_ad G 41), .ref (sj_ad G 1), .int (nI s), .int x, .int (nI l), .null] ρ [] ∧ (∀ b, b ≠ 41 → b ≠ 43 → ρ' b = σ b) ∧ zVR D T s ρ' := by
    intro k
    induction k with
    | zero =>
      intro l ρ x hl hf hx hn ha
      have : l = dN D := by omega
      subst this
      refine ⟨ρ, t_X2_collect_75 ⟨_, _, z_lessonTotal ok, fun _ => rfl, fun q => ?_⟩, hf, fun i hi => ?_, fun i hi h => ?_⟩
      · rw [hf 2 (by decide) (by decide), hC.1] at q
        exact absurd (nI_le (by omega) (by omega)) q
      · rw [hn i hi]
        by_cases q : i < dN D
        · rw [decide_eq_true q]; rfl
        · rw [decide_eq_false q]
          unfold zNe
          rw [decide_eq_false q]
          rfl
      · refine ha i ?_ h
        unfold zNe at h
        rw [Bool.and_eq_true, decide_eq_true_eq] at h
        exact h.1
    | succ k ih =>
      intro l ρ x hl hf hx hn ha
      have hρ2 := hf 2 (by decide) (by decide)
      have hρ3 := hf 3 (by decide) (by decide)
      have hCρ : repC D (ρ 2) := by rw [hρ2]; exact hC
      have hTρ : repT (dN D) T (ρ 3) := by rw [hρ3]; exact hT
      have hTl := (hT l (by omega)).2
      have htk := z_slotsTaken (σ := ρ) ok hCρ v (sl := 3) hsl (by omega : l < dN D) hTρ
      have hn0 : ¬ nI (dN D) ≤ nI l := nI_ge (by omega) (by omega)
      have hd1 := z_dP6 v (b := 1) (l := l) (by omega)
      have hte : σ 2 (3 + l * 5 + 1) = nI (dTe D l) := (hC.2.2.2.1 l (by omega)).2.1
      have hsu : σ 2 (3 + l * 5 + 2) = nI (dSu D l) := (hC.2.2.2.1 l (by omega)).2.2.1
      obtain ⟨-, gte, gsu, -⟩ := v.2.2.2.1 l (by omega)
      have hl1 := z_ofLesson (σ := ρ) ok (l := l) (k := 1) (by omega) (by omega)
      rw [hρ2, hte] at hl1
      have hill := z_isIll (σ := ρ) ok (t := dTe D l) (d := s / 4) gte (by omega)
      rw [hρ2, (hC.2.2.2.2.2.1 _ gte).2, z_bn _ _ (by omega)] at hill
      have hbitk : bt (zTs D T l) s = zTk D T l s := zTs_bt (by omega) (by omega)
      by_cases hne : zNe D T s l = true
      · have hq := hne
        unfold zNe at hq
        rw [Bool.and_eq_true, Bool.and_eq_true] at hq
        obtain ⟨-, q1, q2⟩ := hq
        obtain ⟨y, hy1, hy2⟩ := z_teachersOf (σ := sj_st ρ 41 1 ((ρ 41 1) ||| (nI 1 <<< (nI l &&& 31)))) (D := D) ok (by rw [z_stn (by decide)]; exact hCρ) (s := dSu D l) (by omega)
        have hl2 := z_ofLesson (σ := sj_st ρ 41 1 ((ρ 41 1) ||| (nI 1 <<< (nI l &&& 31)))) ok (l := l) (k := 2) (by omega) (by omega)
        rw [z_stn (by decide), hρ2, hsu] at hl2
        obtain ⟨ρ', h1, h2, h3⟩ := ih (l + 1) (sj_st (sj_st ρ 41 1 ((ρ 41 1) ||| (nI 1 <<< (nI l &&& 31)))) 43 l (x &&& y)) x (by omega) (fun b h1 h2 => by rw [z_stn h2, z_stn h1]; exact hf b h1 h2) hx (fun i hi => by
          rw [z_stn (by decide), z_ste, b_or, hn i hi, z_shl1 (by omega) hi]
          by_cases e : i = l
          · subst e
            rw [hne, decide_eq_true (by omega : i < i + 1), decide_eq_true rfl, Bool.or_true]
            rfl
          · rw [decide_eq_false e, Bool.or_false]
            by_cases q : i < l
            · rw [decide_eq_true q, decide_eq_true (by omega : i < l + 1)]
            · rw [decide_eq_false q, decide_eq_false (by omega : ¬ i < l + 1)]) (fun i hi h t ht => by
          by_cases e : i = l
          · subst e
            rw [z_ste, b_and, hx t ht, hy2 t ht]
            unfold zCap
            rw [Bool.and_comm]
          · rw [z_sti e, z_stn (by decide)]
            exact ha i (by omega) h t ht)
        refine ⟨ρ', ?_, h2, h3⟩
        refine t_X2_collect_75 ⟨_, _, z_lessonTotal ok, fun q => ?_, fun _ => ⟨_, _, htk, ?_⟩⟩
        · rw [hρ2, hC.1] at q
          exact absurd q hn0
        · unfold wp_X2_collect_106
          have hb1 : ¬ ((zTs D T l >>> (nI s &&& 31)) &&& nI 1) = 0 := by rw [z_bit (by omega), hbitk, q1]; decide
          rw [if_neg hb1]
          refine ⟨fun q => absurd q z_10, fun _ => ⟨_, _, hl1, ?_⟩⟩
          rw [hdiv]
          rw [q2, if_pos rfl] at hill
          refine ⟨_, _, hill, fun q => absurd q z_10, fun _ => ⟨_, _, hl2, _, _, hy1, z_in (by omega) (by decide), ?_⟩⟩
          unfold wp_X2_collect_164
          rw [nI_clamp (by omega), nI_add]
          exact h1
      · have hne' : zNe D T s l = false := by simpa using hne
        obtain ⟨ρ', h1, h2, h3⟩ := ih (l + 1) ρ x (by omega) hf hx (fun i hi => by
          rw [hn i hi]
          by_cases e : i = l
          · subst e
            rw [hne', Bool.and_false, Bool.and_false]
          · by_cases q : i < l
            · rw [decide_eq_true q, decide_eq_true (by omega : i < l + 1)]
            · rw [decide_eq_false q, decide_eq_false (by omega : ¬ i < l + 1)]) (fun i hi h t ht => by
          by_cases e : i = l
          · subst e
            rw [hne'] at h
            cases h
          · exact ha i (by omega) h t ht)
        refine ⟨ρ', ?_, h2, h3⟩
        refine t_X2_collect_75 ⟨_, _, z_lessonTotal ok, fun q => ?_, fun _ => ⟨_, _, htk, ?_⟩⟩
        · rw [hρ2, hC.1] at q
          exact absurd q hn0
        · unfold wp_X2_collect_106
          by_cases q1 : zTk D T l s = true
          · have hb1 : ¬ ((zTs D T l >>> (nI s &&& 31)) &&& nI 1) = 0 := by rw [z_bit (by omega), hbitk, q1]; decide
            have q2 : (dIll D (dTe D l)).testBit (s / 4) = false := by
              unfold zNe at hne'
              rw [decide_eq_true (by omega : l < dN D), q1] at hne'
              simpa using hne'
            rw [if_neg hb1]
            refine ⟨fun q => absurd q z_10, fun _ => ⟨_, _, hl1, ?_⟩⟩
            rw [hdiv]
            rw [q2, if_neg (by decide)] at hill
            refine ⟨_, _, hill, fun _ => ?_, fun q => absurd z_00 q⟩
            unfold wp_X2_collect_164
            rw [nI_add]
            exact h1
          · have hb1 : ((zTs D T l >>> (nI s &&& 31)) &&& nI 1) = 0 := by rw [z_bit (by omega), hbitk]; simpa using q1
            rw [if_pos hb1]
            refine ⟨fun _ => ?_, fun q => absurd z_00 q⟩
            unfold wp_X2_collect_164
            rw [nI_add]
            exact h1
  -- the teachers
  have k10 : ∀ k t (x : Int32), t + k = 6 → (∀ u, u < 32 → bt x u = (decide (u < t) && zFit D T s u)) → ∃ ρ', sj_J G 4 me_X2_collect (.ok 0, ρ') 10 [.ref (sj_ad G 41), .ref (sj_ad G 1), .int (nI s), .int x, .int (nI t), .null] (sj_st σ 41 1 (nI 0)) [] ∧ (∀ b, b ≠ 41 → b ≠ 43 → ρ' b = σ b) ∧ zVR D T s ρ' := by
    intro k
    induction k with
    | zero =>
      intro t x ht hx
      obtain ⟨ρ', h1, h2⟩ := k75 (dN D) 0 (sj_st σ 41 1 (nI 0)) x (by omega) (fun b h1 _ => z_stn h1) (fun u hu => by rw [hx u (by omega), decide_eq_true (by omega)]; rfl) (fun i hi => by rw [z_ste, z_bn 0 i hi, decide_eq_false (by omega)]; exact Nat.zero_testBit i) (fun i hi => absurd hi (by omega))
      exact ⟨ρ', t_X2_collect_10 ⟨fun _ => h1, fun q => absurd (nI_le (by omega) (by omega)) q⟩, h2⟩
    | succ k ih =>
      intro t x ht hx
      have hCρ : repC D ((sj_st σ 41 1 (nI 0)) 2) := by rw [z_stn (by decide)]; exact hC
      have hTρ : repT (dN D) T ((sj_st σ 41 1 (nI 0)) 3) := by rw [z_stn (by decide)]; exact hT
      have hsp := z_slotsOfPerson (σ := sj_st σ 41 1 (nI 0)) ok hCρ v (b := 1) (p := t) (sl := 3) hsl (by omega) (by omega) hTρ
      have hsb : bt (zSp D 1 t T (dN D)) s = zAny D 1 t T s (dN D) := zSp_bt (by omega) _ (fun l hl => by have := (hT l hl).2; omega)
      have hill := z_isIll (σ := sj_st σ 41 1 (nI 0)) ok (t := t) (d := s / 4) (by omega) (by omega)
      rw [z_stn (by decide), (hC.2.2.2.2.2.1 t (by omega)).2, z_bn _ _ (by omega)] at hill
      have hfit : zFit D T s t = (!zAny D 1 t T s (dN D) && !(dIll D t).testBit (s / 4)) := rfl
      have hstep : ∀ (y : Int32), (∀ u, u < 32 → bt y u = (bt x u || (decide (u = t) && zFit D T s t))) → ∀ u, u < 32 → bt y u = (decide (u < t + 1) && zFit D T s u) := by
        intro y hy u hu
        rw [hy u hu, hx u hu]
        by_cases e : u = t
        · subst e
          rw [decide_eq_true rfl, decide_eq_false (by omega : ¬ u < u), decide_eq_true (by omega : u < u + 1)]
          rfl
        · rw [decide_eq_false e, Bool.false_and, Bool.or_false]
          by_cases q : u < t
          · rw [decide_eq_true q, decide_eq_true (by omega : u < t + 1)]
          · rw [decide_eq_false q, decide_eq_false (by omega : ¬ u < t + 1)]
      have hkeep : zFit D T s t = false → ∀ u, u < 32 → bt x u = (decide (u < t + 1) && zFit D T s u) := fun hf => hstep x (fun u hu => by rw [hf, Bool.and_false, Bool.or_false])
      by_cases hbusy : zAny D 1 t T s (dN D) = true
      · have hf : zFit D T s t = false := by rw [hfit, hbusy]; rfl
        obtain ⟨ρ', h1, h2⟩ := ih (t + 1) x (by omega) (hkeep hf)
        refine ⟨ρ', t_X2_collect_10 ⟨fun q => absurd q (nI_ge (by omega) (by omega)), fun _ => ⟨_, _, hsp, ?_⟩⟩, h2⟩
        unfold wp_X2_collect_40
        have hb1 : ¬ ((zSp D 1 t T (dN D) >>> (nI s &&& 31)) &&& nI 1) = 0 := by rw [z_bit (by omega), hsb, hbusy]; decide
        rw [if_neg hb1]
        refine ⟨fun _ => ?_, fun q => absurd q z_10⟩
        unfold wp_X2_collect_66
        rw [nI_add]
        exact h1
      · have hbusy : zAny D 1 t T s (dN D) = false := by simpa using hbusy
        have hb1 : ((zSp D 1 t T (dN D) >>> (nI s &&& 31)) &&& nI 1) = 0 := by rw [z_bit (by omega), hsb, hbusy]
        by_cases hi : (dIll D t).testBit (s / 4) = true
        · have hf : zFit D T s t = false := by rw [hfit, hi]; simp
          obtain ⟨ρ', h1, h2⟩ := ih (t + 1) x (by omega) (hkeep hf)
          refine ⟨ρ', t_X2_collect_10 ⟨fun q => absurd q (nI_ge (by omega) (by omega)), fun _ => ⟨_, _, hsp, ?_⟩⟩, h2⟩
          unfold wp_X2_collect_40
          rw [if_pos hb1, hdiv]
          rw [hi, if_pos rfl] at hill
          refine ⟨fun q => absurd z_00 q, fun _ => ⟨_, _, hill, ?_⟩⟩
          unfold wp_X2_collect_66
          rw [if_neg z_10, nI_add]
          exact h1
        · have hi : (dIll D t).testBit (s / 4) = false := by simpa using hi
          have hf : zFit D T s t = true := by rw [hfit, hi, hbusy]; rfl
          obtain ⟨ρ', h1, h2⟩ := ih (t + 1) (x ||| (nI 1 <<< (nI t &&& 31))) (by omega) (hstep _ (fun u hu => by rw [b_or, z_shl1 (by omega) hu, hf, Bool.and_true]))
          refine ⟨ρ', t_X2_collect_10 ⟨fun q => absurd q (nI_ge (by omega) (by omega)), fun _ => ⟨_, _, hsp, ?_⟩⟩, h2⟩
          unfold wp_X2_collect_40
          rw [if_pos hb1, hdiv]
          rw [hi, if_neg (by decide)] at hill
          refine ⟨fun q => absurd z_00 q, fun _ => ⟨_, _, hill, ?_⟩⟩
          unfold wp_X2_collect_66
          rw [if_pos z_00, nI_add]
          exact h1
  obtain ⟨ρ', h1, h2, h3⟩ := k10 6 0 (nI 0) (by decide) (fun u hu => by rw [z_bn 0 u hu, decide_eq_false (by omega)]; exact Nat.zero_testBit u)
  refine ⟨ρ', c_X2_collect ok ?_, h2, h3⟩
  exact h1
def zVP (D : zD) (T : Nat → Nat) (s : Nat) (ρ : sj_S) : Prop := zVR D T s ρ ∧
  (∀ l, l < 9 → ρ 42 l = if zNe D T s l = true ∧ zGg (zCC D T s) (zNm9 D T s) (q_cnt (zNe D T s) l) < 6 then nI (zGg (zCC D T s) (zNm9 D T s) (q_cnt (zNe D T s) l)) else -1) ∧
  (∀ i, i < 32 → bt (ρ 41 2) i = (decide (i < 9) && (zNe D T s i && !decide (zGg (zCC D T s) (zNm9 D T s) (q_cnt (zNe D T s) i) < 6)))) ∧
  ∀ t, t < 6 → bt (ρ 41 3) t = zGS (zCC D T s) (zNm9 D T s) (zNm9 D T s) t
theorem z_coverPlan (ok : sj_ok G) (hC : repC D (σ 2)) (v : okD D) (hT : repT (dN D) T (σ 3)) {s : Nat} (hs : s < 20) : ∃ ρ, sj_C G 42 me_X2_plan [.ref (sj_ad G 41), .ref (sj_ad G 1), .int (nI s)] σ (.ok 0, ρ) ∧ (∀ b, b ≠ 41 → b ≠ 42 → b ≠ 43 → ρ b = σ b) ∧ zVP D T s ρ := by
  obtain ⟨ρ0, hcol, hfr, hn, ha⟩ := z_collect (σ := σ) ok hC v hT hs
  have hm : zNm9 D T s = q_cnt (zNe D T s) 9 := rfl
  generalize eC : zCC D T s = C
  generalize eN : zNe D T s = N at hn ha hm
  have hcc : ∀ l, l < 9 → N l = true → ∀ t, C (q_cnt N l) t = zCap D T s l t := fun l hl h t => by
    rw [← eN] at h ⊢
    rw [← eC]
    exact zCC_eq hl h
  have key : ∀ k l (ρ : sj_S), l + k = 9 → (∀ b, b ≠ 41 → b ≠ 42 → b ≠ 43 → ρ b = σ b) → ρ 41 1 = ρ0 41 1 → ρ 43 = ρ0 43 →
      (∀ i, i < l → ρ 42 i = if N i = true ∧ zGg C (q_cnt N 9) (q_cnt N i) < 6 then nI (zGg C (q_cnt N 9) (q_cnt N i)) else -1) →
      (∀ i, i < 32 → bt (ρ 41 2) i = (decide (i < l) && (N i && !decide (zGg C (q_cnt N 9) (q_cnt N i) < 6)))) →
      (∀ t, t < 6 → bt (ρ 41 3) t = zGS C (q_cnt N 9) (q_cnt N l) t) →
      ∃ ρ', sj_J G 42 me_X2_plan (.ok 0, ρ') 37 [.ref (sj_ad G 41), .null, .null, .int (nI (zMx C (q_cnt N 9 - q_cnt N l) (q_cnt N l) (zGS C (q_cnt N 9) (q_cnt N l)))), .int (nI l)] ρ [] ∧
        (∀ b, b ≠ 41 → b ≠ 42 → b ≠ 43 → ρ' b = σ b) ∧ ρ' 41 1 = ρ0 41 1 ∧ ρ' 43 = ρ0 43 ∧
        (∀ i, i < 9 → ρ' 42 i = if N i = true ∧ zGg C (q_cnt N 9) (q_cnt N i) < 6 then nI (zGg C (q_cnt N 9) (q_cnt N i)) else -1) ∧
        (∀ i, i < 32 → bt (ρ' 41 2) i = (decide (i < 9) && (N i && !decide (zGg C (q_cnt N 9) (q_cnt N i) < 6)))) ∧
        (∀ t, t < 6 → bt (ρ' 41 3) t = zGS C (q_cnt N 9) (q_cnt N 9) t) := by
    intro k
    induction k with
    | zero =>
      intro l ρ hl hf h1 h43 h42 h2 h3
      obtain rfl : l = 9 := by omega
      exact ⟨ρ, t_X2_plan_37 ⟨fun _ => rfl, fun q => absurd (nI_le (by omega) (by omega)) q⟩, hf, h1, h43, h42, h2, h3⟩
    | succ k ih =>
      intro l ρ hl hf h1 h43 h42 h2 h3
      have hbit : bt (ρ 41 1) l = N l := by rw [h1]; exact hn l (by omega)
      by_cases hN : N l = true
      · have e1 : q_cnt N (l + 1) = q_cnt N l + 1 := by rw [q_cnt_s, hN]; rfl
        have hle := q_cnt_mono (S := N) (i := l + 1) 9 (by omega)
        have h99 := q_cnt_le N 9
        generalize en : q_cnt N 9 - (q_cnt N l + 1) = n
        have e2 : q_cnt N 9 - q_cnt N l = n + 1 := by omega
        have hlt := z_leastTaker (σ := sj_st ρ 42 l (-1)) (N := N) (C := C) ok (fun i hi => by rw [z_stn (by decide), h1]; exact hn i (by omega)) (fun i hi h t ht => by rw [z_stn (by decide), h43, hcc i hi h t]; exact ha i hi h t ht) (l := l) (S := zGS C (q_cnt N 9) (q_cnt N l)) (by omega) hN (fun t ht => by rw [z_stn (by decide)]; exact h3 t ht) (n := n) (by omega)
        have eg : zGt C n (q_cnt N l) (zGS C (q_cnt N 9) (q_cnt N l)) = zGg C (q_cnt N 9) (q_cnt N l) := by unfold zGg; rw [en]
        rw [eg] at hlt
        have eS : zGS C (q_cnt N 9) (q_cnt N l + 1) = zRmv (zGS C (q_cnt N 9) (q_cnt N l)) (zGg C (q_cnt N 9) (q_cnt N l)) := zGS_s
        by_cases hg : zGg C (q_cnt N 9) (q_cnt N l) < 6
        · rw [if_pos hg] at hlt
          have hdue : zMx C (n + 1) (q_cnt N l) (zGS C (q_cnt N 9) (q_cnt N l)) = 1 + zMx C n (q_cnt N l + 1) (zGS C (q_cnt N 9) (q_cnt N l + 1)) := by
            rw [eS, ← eg]
            exact (zGt_c (C := C) (n := n) (k := q_cnt N l) (by rw [eg]; exact hg)).2.2
          have hz := zMx_n (C := C) n (q_cnt N l + 1) (zGS C (q_cnt N 9) (q_cnt N l + 1))
          obtain ⟨ρ', r1, r2⟩ := ih (l + 1) (sj_st (sj_st (sj_st ρ 42 l (-1)) 42 l (nI (zGg C (q_cnt N 9) (q_cnt N l)))) 41 3 ((ρ 41 3) &&& ((nI 1 <<< (nI (zGg C (q_cnt N 9) (q_cnt N l)) &&& 31)) ^^^ (-1)))) (by omega)
            (fun b n1 n2 n3 => by rw [z_stn n1, z_stn n2, z_stn n2]; exact hf b n1 n2 n3) (by rw [z_sti (by decide), z_stn (by decide), z_stn (by decide)]; exact h1) (by rw [z_stn (by decide), z_stn (by decide), z_stn (by decide)]; exact h43)
            (fun i hi => by
              rw [z_stn (by decide)]
              by_cases e : i = l
              · subst e
                rw [z_ste, if_pos ⟨hN, hg⟩]
              · rw [z_sti e, z_sti e]
                exact h42 i (by omega))
            (fun i hi => by
              rw [z_sti (by decide), z_stn (by decide), z_stn (by decide), h2 i hi]
              by_cases e : i = l
              · subst e
                rw [decide_eq_false (by omega : ¬ i < i), decide_eq_true hg]
                simp
              · by_cases q : i < l
                · rw [decide_eq_true q, decide_eq_true (by omega : i < l + 1)]
                · rw [decide_eq_false q, decide_eq_false (by omega : ¬ i < l + 1)])
            (fun t ht => by
              rw [z_ste, b_and, b_xor, z_shl1 (by omega) (by omega), b_m1 t (by omega), h3 t ht, e1, eS]
              unfold zRmv
              simp)
          refine ⟨ρ', ?_, r2⟩
          rw [e1, en] at r1
          rw [e2, hdue]
          rw [hdue] at hlt
          refine t_X2_plan_37 ⟨fun q => absurd q (nI_ge (by omega) (by omega)), fun _ => ⟨z_in (by omega) (by decide), fun q => ?_, fun _ => ?_⟩⟩
          · rw [z_bit (by omega), hbit, hN] at q
            cases q
          · rw [nI_clamp (by omega)]
            refine ⟨_, _, hlt, z_in (by omega) (by decide), z_in (by omega) (by decide), fun _ => z_in (by omega) (by decide), ?_⟩
            unfold wp_X2_plan_128
            rw [z_ste, if_neg (z_nm1 (by omega)), if_neg (z_nm1 (by omega)), nI_add, Nat.add_comm 1, pk_m1, z_stn (by decide)]
            exact r1
        · rw [if_neg hg] at hlt
          have hdue : zMx C (n + 1) (q_cnt N l) (zGS C (q_cnt N 9) (q_cnt N l)) = zMx C n (q_cnt N l + 1) (zGS C (q_cnt N 9) (q_cnt N l + 1)) := by
            rw [eS, zMx_out (by omega)]
            exact zGt_n (C := C) (n := n) (k := q_cnt N l) (by rw [eg]; exact hg)
          obtain ⟨ρ', r1, r2⟩ := ih (l + 1) (sj_st (sj_st (sj_st ρ 42 l (-1)) 42 l (-1)) 41 2 ((ρ 41 2) ||| (nI 1 <<< (nI l &&& 31)))) (by omega)
            (fun b n1 n2 n3 => by rw [z_stn n1, z_stn n2, z_stn n2]; exact hf b n1 n2 n3) (by rw [z_sti (by decide), z_stn (by decide), z_stn (by decide)]; exact h1) (by rw [z_stn (by decide), z_stn (by decide), z_stn (by decide)]; exact h43)
            (fun i hi => by
              rw [z_stn (by decide)]
              by_cases e : i = l
              · subst e
                rw [z_ste, if_neg (fun q => hg q.2)]
              · rw [z_sti e, z_sti e]
                exact h42 i (by omega))
            (fun i hi => by
              rw [z_ste, b_or, h2 i hi, z_shl1 (by omega) hi]
              by_cases e : i = l
              · subst e
                rw [decide_eq_true rfl, Bool.or_true, decide_eq_true (by omega : i < i + 1), hN, decide_eq_false hg]
                rfl
              · rw [decide_eq_false e, Bool.or_false]
                by_cases q : i < l
                · rw [decide_eq_true q, decide_eq_true (by omega : i < l + 1)]
                · rw [decide_eq_false q, decide_eq_false (by omega : ¬ i < l + 1)])
            (fun t ht => by
              rw [z_sti (by decide), z_stn (by decide), z_stn (by decide), h3 t ht, e1, eS]
              unfold zRmv
              rw [decide_eq_false (by omega)]
              simp)
          refine ⟨ρ', ?_, r2⟩
          rw [e1, en] at r1
          rw [e2, hdue]
          rw [hdue] at hlt
          refine t_X2_plan_37 ⟨fun q => absurd q (nI_ge (by omega) (by omega)), fun _ => ⟨z_in (by omega) (by decide), fun q => ?_, fun _ => ?_⟩⟩
          · rw [z_bit (by omega), hbit, hN] at q
            cases q
          · rw [nI_clamp (by omega)]
            refine ⟨_, _, hlt, z_in (by omega) (by decide), z_in (by omega) (by decide), fun _ => z_in (by omega) (by decide), ?_⟩
            unfold wp_X2_plan_128
            rw [z_ste, if_pos rfl, if_pos rfl, nI_add, z_stn (by decide)]
            exact r1
      · have hN' : N l = false := by simpa using hN
        have e1 : q_cnt N (l + 1) = q_cnt N l := by rw [q_cnt_s, hN']; rfl
        obtain ⟨ρ', r1, r2⟩ := ih (l + 1) (sj_st ρ 42 l (-1)) (by omega)
          (fun b n1 n2 n3 => by rw [z_stn n2]; exact hf b n1 n2 n3) (by rw [z_stn (by decide)]; exact h1) (by rw [z_stn (by decide)]; exact h43)
          (fun i hi => by
            by_cases e : i = l
            · subst e
              rw [z_ste, if_neg (fun q => hN q.1)]
            · rw [z_sti e]
              exact h42 i (by omega))
          (fun i hi => by
            rw [z_stn (by decide), h2 i hi]
            by_cases e : i = l
            · subst e
              rw [hN']
              simp
            · by_cases q : i < l
              · rw [decide_eq_true q, decide_eq_true (by omega : i < l + 1)]
              · rw [decide_eq_false q, decide_eq_false (by omega : ¬ i < l + 1)])
          (fun t ht => by
            rw [z_stn (by decide), h3 t ht, e1])
        refine ⟨ρ', ?_, r2⟩
        rw [e1] at r1
        refine t_X2_plan_37 ⟨fun q => absurd q (nI_ge (by omega) (by omega)), fun _ => ⟨z_in (by omega) (by decide), fun _ => ?_, fun q => ?_⟩⟩
        · unfold wp_X2_plan_128
          rw [nI_clamp (by omega), nI_add]
          exact r1
        · rw [z_bit (by omega), hbit] at q
          exact absurd hN' q
  have h63 : ∀ t, t < 6 → bt (nI 63) t = true := by decide +kernel
  obtain ⟨ρ', r1, r2, r3, r4, r5, r6, r7⟩ := key 9 0 (sj_st (sj_st ρ0 41 2 (nI 0)) 41 3 (nI 63)) (by decide) (fun b n1 n2 n3 => by rw [z_stn n1, z_stn n1]; exact hfr b n1 n3) (by rw [z_sti (by decide), z_sti (by decide)]) (by rw [z_stn (by decide), z_stn (by decide)]) (fun i hi => absurd hi (by omega))
    (fun i hi => by rw [z_sti (by decide), z_ste, z_bn 0 i hi, decide_eq_false (by omega)]; exact Nat.zero_testBit i) (fun t ht => by rw [z_ste, h63 t ht]; rfl)
  have hmt := z_mostTakenC (σ := sj_st (sj_st ρ0 41 2 (nI 0)) 41 3 (nI 63)) (N := N) (C := C) (x1 := ρ0 41 1) (x2 := nI 63) (S := fun _ => true) ok (fun i hi => hn i (by omega)) (fun i hi h t ht => by rw [z_stn (by decide), z_stn (by decide), hcc i hi h t]; exact ha i hi h t ht) (l := 0) (by omega) h63
  refine ⟨ρ', c_X2_plan ok ⟨_, hcol, _, _, hmt, r1⟩, r2, ?_⟩
  unfold zVP
  rw [eN, eC, hm, ← eN]
  unfold zVR
  rw [eN]
  exact ⟨⟨fun i hi => by rw [r3]; exact hn i hi, fun i hi h t ht => by rw [r4]; exact ha i hi h t ht⟩, r5, r6, r7⟩
end ZVC
