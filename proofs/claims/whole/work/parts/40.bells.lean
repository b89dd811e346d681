/-! PAIRS 7: setBells, slotAt; the frame beside school, history and proof -/
def zFrm (A K : List Nat) (σ σ' : sj_S) : Prop := (∀ b, b ∈ A → σ' b = σ b) ∧ (∀ k, k ∈ K → σ' 56 k = σ 56 k) ∧ σ' 30 7 = σ 30 7
def zSlot (f : Nat → Bool) : Nat → Nat → Option Nat
  | 0, _ => none
  | k + 1, i => if f i then some i else zSlot f k (i + 1)
section ZP7
variable {G : sj_G} {σ : sj_S}
abbrev zBA : List Nat := [33, 50, 51, 52, 54, 55, 73, 74, 75, 76]
abbrev zBK : List Nat := [21, 22, 26, 27, 29]
def zIB (σ σ' : sj_S) : Prop := zA σ' ∧ zBells σ' ∧ zFrm zBA zBK σ σ'
theorem zIB_th {c : Int32} (h : zA σ) (hB : zBells σ) : zIB σ (sj_st σ 56 0 c) :=
  ⟨(zI2_th h).1, fun d hd => by rw [z_stn (by decide), z_stn (by decide), z_stn (by decide), z_stn (by decide), z_stn (by decide), z_stn (by decide)]; exact hB d hd, fun b hb => z_stn (zne (by decide) hb), fun k hk => z_sti (zne (by decide) hk), by rw [z_stn (by decide)]⟩
theorem zIB_th2 {c e : Int32} (h : zA σ) (hB : zBells σ) : zIB σ (sj_st (sj_st σ 56 0 c) 56 0 e) := by
  obtain ⟨h1, h2, h3, h4, h5⟩ := zIB_th (c := c) h hB
  obtain ⟨g1, g2, g3, g4, g5⟩ := zIB_th (c := e) h1 h2
  exact ⟨g1, g2, fun b hb => (g3 b hb).trans (h3 b hb), fun k hk => (g4 k hk).trans (h4 k hk), g5.trans h5⟩
theorem p_setBells (ok : sj_ok G) (h : zA σ) (hB : zBells σ) (x1 x2 x3 x4 : Int32) : zPair G (zIB σ) 11 me_X11_setBells 3 me_X12_setBells [.int x1, .int x2, .int x3, .int x4] (zcd 1 0 0) σ := by
  have hf : wp_X12_setBells_55 G (.ok (nI 0), sj_st (sj_st σ 56 0 (nI 0)) 56 0 (nI 1)) x1 x2 x3 x4 (nI 0) (sj_st σ 56 0 (nI 0)) :=
    ⟨_, _, y_fails0 ok zT00 (by decide), fun h => absurd h z_10, fun _ => rfl⟩
  have bt3 : ∀ x lo hi : Int32, (¬ x < lo ∧ x ≤ hi ∧ ¬ hi < x) ∨ ((x < lo ∨ ¬ x ≤ hi) ∧ (x < lo ∨ hi < x)) := fun x lo hi => by
    rw [Int32.lt_iff_toInt_lt, Int32.le_iff_toInt_le, Int32.lt_iff_toInt_lt]
    omega
  rcases z_rg x1 5 with ⟨d, hd, rfl⟩ | hx
  · rcases bt3 x2 (nI 420) (nI 600) with ⟨a1, a2, a3⟩ | ⟨a1, a2⟩
    · rcases bt3 x3 (nI 30) (nI 60) with ⟨b1, b2, b3⟩ | ⟨b1, b2⟩
      · rcases bt3 x4 (nI 0) (nI 30) with ⟨c1, c2, c3⟩ | ⟨c1, c2⟩
        · generalize eτ : sj_st (sj_st (sj_st σ 47 d x2) 48 d x3) 49 d x4 = τ
          have hp : sj_C G 2 me_X0_put [.ref (sj_ad G 46), .int (nI d), .int x2, .int x3, .int x4] σ (.ok 0, τ) := by
            refine c_X0_put ok ⟨z_in hd (by decide), z_in hd (by decide), z_in hd (by decide), ?_⟩
            rw [nI_clamp (by omega), eτ]
          have hq : (d + 1) * 4 - 1 < 20 := by omega
          have hm1 := z_minute (σ := τ) (e := true) ok hq
          have hc : sj_C G 11 me_X11_setBells [.ref (sj_ad G 0), .int (nI d), .int x2, .int x3, .int x4] σ (.ok (zMin (τ 47 (((d + 1) * 4 - 1) / 4)) (τ 48 (((d + 1) * 4 - 1) / 4)) (τ 49 (((d + 1) * 4 - 1) / 4)) (((d + 1) * 4 - 1) % 4) true), τ) := by
            refine c_X11_setBells ok (Or.inl ⟨_, z_range0 ok hd (by decide), Or.inl ⟨_, z_between0 ok a1 a2, Or.inl ⟨_, z_between0 ok b1 b2, Or.inl ⟨_, z_between0 ok c1 c2, _, hp, ?_⟩⟩⟩⟩)
            rw [nI_add, pk_mul, pk_sub (by omega)]
            exact ⟨_, _, hm1, rfl⟩
          generalize eρ : sj_st (sj_st (sj_st (sj_st τ 56 0 (nI 0)) 70 d x2) 71 d x3) 72 d x4 = ρ
          have hm2 := y_minute (σ := ρ) (e := true) ok hq
          have hm : sj_C G 3 me_X12_setBells [.ref (sj_ad G 56), .int (nI d), .int x2, .int x3, .int x4] τ (.ok (zMin (ρ 70 (((d + 1) * 4 - 1) / 4)) (ρ 71 (((d + 1) * 4 - 1) / 4)) (ρ 72 (((d + 1) * 4 - 1) / 4)) (((d + 1) * 4 - 1) % 4) true), ρ) := by
            refine c_X12_setBells ok ⟨_, _, y_inr1 ok (B := 4) hd (by decide), fun q => absurd q z_10, fun _ => ⟨_, _, y_in1 ok a1 a3, fun q => absurd q z_10, fun _ => ⟨_, _, y_in1 ok b1 b3, fun q => absurd q z_10, fun _ => ⟨_, _, y_in1 ok c1 c3, ?_⟩⟩⟩⟩
            rw [if_neg z_10]
            refine ⟨_, _, y_fails1 ok zT00, fun _ => ⟨z_in hd (by decide), z_in hd (by decide), z_in hd (by decide), ?_⟩, fun q => absurd nI_0 q⟩
            rw [nI_clamp (by omega), eρ, pk_mul, nI_add, pk_sub (by omega), show 4 * d + 4 - 1 = (d + 1) * 4 - 1 by omega]
            exact ⟨_, _, hm2, rfl⟩
          have hq4 : ((d + 1) * 4 - 1) / 4 = d := by omega
          have t47 : τ 47 = upd (σ 47) d x2 := by rw [← eτ, z_stn (by decide), z_stn (by decide), z_sta]
          have t48 : τ 48 = upd (σ 48) d x3 := by rw [← eτ, z_stn (by decide), z_sta, z_stn (by decide)]
          have t49 : τ 49 = upd (σ 49) d x4 := by rw [← eτ, z_sta, z_stn (by decide), z_stn (by decide)]
          have hτ : ∀ b, b ≠ 47 → b ≠ 48 → b ≠ 49 → τ b = σ b := fun b h1 h2 h3 => by rw [← eτ, z_stn h3, z_stn h2, z_stn h1]
          have hρ : ∀ b, b ≠ 56 → b ≠ 70 → b ≠ 71 → b ≠ 72 → ρ b = τ b := fun b h1 h2 h3 h4 => by rw [← eρ, z_stn h4, z_stn h3, z_stn h2, z_stn h1]
          have r70 : ρ 70 = upd (σ 70) d x2 := by rw [← eρ, z_stn (by decide), z_stn (by decide), z_sta, z_stn (by decide), hτ 70 (by decide) (by decide) (by decide)]
          have r71 : ρ 71 = upd (σ 71) d x3 := by rw [← eρ, z_stn (by decide), z_sta, z_stn (by decide), z_stn (by decide), hτ 71 (by decide) (by decide) (by decide)]
          have r72 : ρ 72 = upd (σ 72) d x4 := by rw [← eρ, z_sta, z_stn (by decide), z_stn (by decide), z_stn (by decide), hτ 72 (by decide) (by decide) (by decide)]
          have r56 : ∀ k, k ≠ 0 → ρ 56 k = σ 56 k := fun k hk => by rw [← eρ, z_stn (by decide), z_stn (by decide), z_stn (by decide), z_sti hk, hτ 56 (by decide) (by decide) (by decide)]
          refine ⟨_, _, _, _, hc, hm, zSame_ok ?_ ?_, ?_, fun e he => ?_, fun b hb => ?_, fun k hk => r56 k (zne (by decide) hk), ?_⟩
          · rw [← eρ, z_stn (by decide), z_stn (by decide), z_stn (by decide), z_ste]
          · rw [hq4, t47, t48, t49, r70, r71, r72, z_ue, z_ue, z_ue, z_ue, z_ue, z_ue]
          · refine zA_of h (fun b hb => ?_) (r56 3 (by decide)) (r56 7 (by decide)) ?_
            · rw [hρ b (zne (by decide) hb) (zne (by decide) hb) (zne (by decide) hb) (zne (by decide) hb), hτ b (zne (by decide) hb) (zne (by decide) hb) (zne (by decide) hb)]
            · rw [hρ 30 (by decide) (by decide) (by decide) (by decide), hτ 30 (by decide) (by decide) (by decide)]
          · rw [hρ 47 (by decide) (by decide) (by decide) (by decide), hρ 48 (by decide) (by decide) (by decide) (by decide), hρ 49 (by decide) (by decide) (by decide) (by decide), t47, t48, t49, r70, r71, r72]
            by_cases q : e = d
            · subst q
              rw [z_ue, z_ue, z_ue, z_ue, z_ue, z_ue]
              exact ⟨rfl, rfl, rfl⟩
            · rw [z_un q, z_un q, z_un q, z_un q, z_un q, z_un q]
              exact hB e he
          · rw [hρ b (zne (by decide) hb) (zne (by decide) hb) (zne (by decide) hb) (zne (by decide) hb), hτ b (zne (by decide) hb) (zne (by decide) hb) (zne (by decide) hb)]
          · rw [hρ 30 (by decide) (by decide) (by decide) (by decide), hτ 30 (by decide) (by decide) (by decide)]
        · refine ⟨_, _, _, _, c_X11_setBells ok (Or.inl ⟨_, z_range0 ok hd (by decide), Or.inl ⟨_, z_between0 ok a1 a2, Or.inl ⟨_, z_between0 ok b1 b2, Or.inr ⟨_, _, z_between1 ok c1, rfl⟩⟩⟩⟩), c_X12_setBells ok (R := (.ok (nI 0), sj_st (sj_st σ 56 0 (nI 0)) 56 0 (nI 1))) ⟨_, _, y_inr1 ok (B := 4) hd (by decide), fun q => absurd q z_10, fun _ => ⟨_, _, y_in1 ok a1 a3, fun q => absurd q z_10, fun _ => ⟨_, _, y_in1 ok b1 b3, fun q => absurd q z_10, fun _ => ⟨_, _, y_in0 ok c2, ?_⟩⟩⟩⟩, zSame_er (by decide) z_ste, zIB_th2 h hB⟩
          rw [if_pos z_00]
          exact hf
      · exact ⟨_, _, _, _, c_X11_setBells ok (Or.inl ⟨_, z_range0 ok hd (by decide), Or.inl ⟨_, z_between0 ok a1 a2, Or.inr ⟨_, _, z_between1 ok b1, rfl⟩⟩⟩), c_X12_setBells ok (R := (.ok (nI 0), sj_st (sj_st σ 56 0 (nI 0)) 56 0 (nI 1))) ⟨_, _, y_inr1 ok (B := 4) hd (by decide), fun q => absurd q z_10, fun _ => ⟨_, _, y_in1 ok a1 a3, fun q => absurd q z_10, fun _ => ⟨_, _, y_in0 ok b2, fun _ => hf, fun q => absurd nI_0 q⟩⟩⟩, zSame_er (by decide) z_ste, zIB_th2 h hB⟩
    · exact ⟨_, _, _, _, c_X11_setBells ok (Or.inl ⟨_, z_range0 ok hd (by decide), Or.inr ⟨_, _, z_between1 ok a1, rfl⟩⟩), c_X12_setBells ok (R := (.ok (nI 0), sj_st (sj_st σ 56 0 (nI 0)) 56 0 (nI 1))) ⟨_, _, y_inr1 ok (B := 4) hd (by decide), fun q => absurd q z_10, fun _ => ⟨_, _, y_in0 ok a2, fun _ => hf, fun q => absurd nI_0 q⟩⟩, zSame_er (by decide) z_ste, zIB_th2 h hB⟩
  · exact ⟨_, _, _, _, c_X11_setBells ok (Or.inr ⟨_, _, z_range1 ok hx (by decide) (by decide), rfl⟩), c_X12_setBells ok (R := (.ok (nI 0), sj_st (sj_st σ 56 0 (nI 0)) 56 0 (nI 1))) ⟨_, _, y_inr0 ok (B := 4) hx (by decide), fun _ => hf, fun q => absurd nI_0 q⟩, zSame_er (by decide) z_ste, zIB_th2 h hB⟩
/-- whether a minute lies in an hour -/
def zHr (τ : sj_S) (m : Int32) (s : Nat) : Bool := !decide (m < zMin (τ 47 (s / 4)) (τ 48 (s / 4)) (τ 49 (s / 4)) (s % 4) false) && !decide (zMin (τ 47 (s / 4)) (τ 48 (s / 4)) (τ 49 (s / 4)) (s % 4) true ≤ m)
theorem z_slotAt_18 (ok : sj_ok G) {d : Nat} {m : Int32} (hd : d < 5) : ∀ k i, i + k = (d + 1) * 4 → sj_J G 11 me_X11_slotAt (.ok (zOp (zSlot (zHr σ m) k i)), σ) 18 [.ref (sj_ad G 0), .int (nI d), .int m, .int (nI i)] σ [] := by
  intro k
  induction k with
  | zero =>
    intro i hi
    refine t_X11_slotAt_18 ⟨fun _ => rfl, fun q => ?_⟩
    rw [nI_add, pk_mul] at q
    exact absurd (nI_le (by omega) (by omega)) q
  | succ k ih =>
    intro i hi
    have h1 := ih (i + 1) (by omega)
    have hi20 : i < 20 := by omega
    refine t_X11_slotAt_18 ⟨fun q => ?_, fun _ => ⟨_, _, z_minute (e := false) ok hi20, fun q => ?_, fun q => ⟨_, _, z_minute (e := true) ok hi20, fun q2 => ?_, fun q2 => ?_⟩⟩⟩
    · rw [nI_add, pk_mul] at q
      exact absurd q (nI_ge (by omega) (by omega))
    · unfold wp_X11_slotAt_55
      have e : zSlot (zHr σ m) (k + 1) i = zSlot (zHr σ m) k (i + 1) := by simp [zSlot, zHr, q]
      rw [e, nI_add]
      exact h1
    · unfold wp_X11_slotAt_55
      have e : zSlot (zHr σ m) (k + 1) i = zSlot (zHr σ m) k (i + 1) := by simp [zSlot, zHr, q2]
      rw [e, nI_add]
      exact h1
    · have e : zSlot (zHr σ m) (k + 1) i = some i := by simp [zSlot, zHr, q, q2]
      rw [e]
      rfl
def zHm (τ : sj_S) (m : Int32) (s : Nat) : Bool := !decide (m < zMin (τ 70 (s / 4)) (τ 71 (s / 4)) (τ 72 (s / 4)) (s % 4) false) && !decide (zMin (τ 70 (s / 4)) (τ 71 (s / 4)) (τ 72 (s / 4)) (s % 4) true ≤ m)
theorem y_slotAt_44 (ok : sj_ok G) {d : Nat} {m : Int32} (hd : d < 5) : ∀ k i, i + k = 4 * d + 4 → sj_J G 3 me_X12_slotAt (.ok (zOp (zSlot (zHm σ m) k i)), σ) 44 [.ref (sj_ad G 56), .int (nI d), .int m, .int (nI i)] σ [] := by
  intro k
  induction k with
  | zero =>
    intro i hi
    refine t_X12_slotAt_44 ⟨fun _ => rfl, fun q => ?_⟩
    rw [pk_mul, nI_add] at q
    exact absurd (nI_le (by omega) (by omega)) q
  | succ k ih =>
    intro i hi
    have h1 := ih (i + 1) (by omega)
    have hi20 : i < 20 := by omega
    refine t_X12_slotAt_44 ⟨fun q => ?_, fun _ => ⟨_, _, y_minute (e := false) ok hi20, fun q => ?_, fun q => ⟨_, _, y_minute (e := true) ok hi20, fun q2 => ?_, fun q2 => ?_⟩⟩⟩
    · rw [pk_mul, nI_add] at q
      exact absurd q (nI_ge (by omega) (by omega))
    · unfold wp_X12_slotAt_75
      have e : zSlot (zHm σ m) (k + 1) i = zSlot (zHm σ m) k (i + 1) := by simp [zSlot, zHm, q]
      rw [e, nI_add]
      exact h1
    · unfold wp_X12_slotAt_75
      have e : zSlot (zHm σ m) (k + 1) i = zSlot (zHm σ m) k (i + 1) := by simp [zSlot, zHm, q2]
      rw [e, nI_add]
      exact h1
    · have e : zSlot (zHm σ m) (k + 1) i = some i := by simp [zSlot, zHm, q, q2]
      rw [e]
      rfl
theorem zSlot_congr {f g : Nat → Bool} {n : Nat} (h : ∀ i, i < n → f i = g i) : ∀ k i, i + k ≤ n → zSlot f k i = zSlot g k i := by
  intro k
  induction k with
  | zero => intro i _; rfl
  | succ k ih =>
    intro i hi
    show (if f i then some i else zSlot f k (i + 1)) = (if g i then some i else zSlot g k (i + 1))
    rw [h i (by omega), ih (i + 1) (by omega)]
theorem p_slotAt (ok : sj_ok G) (h : zA σ) (hB : zBells σ) (x y : Int32) : zPair G (zIB σ) 11 me_X11_slotAt 3 me_X12_slotAt [.int x, .int y] (zcd 1 0 0) σ := by
  have hf : wp_X12_slotAt_31 G (.ok (nI 0), sj_st (sj_st σ 56 0 (nI 0)) 56 0 (nI 1)) x y (nI 0) (sj_st σ 56 0 (nI 0)) :=
    ⟨_, _, y_fails0 ok zT00 (by decide), fun h => absurd h z_10, fun _ => rfl⟩
  rcases z_rg x 5 with ⟨d, hd, rfl⟩ | hx
  · rcases z_rg y 1440 with ⟨m, hm, rfl⟩ | hy
    · have hc : sj_C G 11 me_X11_slotAt [.ref (sj_ad G 0), .int (nI d), .int (nI m)] σ (.ok (zOp (zSlot (zHr σ (nI m)) 4 (d * 4))), σ) := by
        refine c_X11_slotAt ok (Or.inl ⟨_, z_range0 ok hd (by decide), Or.inl ⟨_, z_range0 ok hm (by decide), ?_⟩⟩)
        rw [pk_mul]
        exact z_slotAt_18 ok hd 4 (d * 4) (by omega)
      have hmm : sj_C G 3 me_X12_slotAt [.ref (sj_ad G 56), .int (nI d), .int (nI m)] σ (.ok (zOp (zSlot (zHm (sj_st σ 56 0 (nI 0)) (nI m)) 4 (4 * d))), sj_st σ 56 0 (nI 0)) := by
        refine c_X12_slotAt ok ⟨_, _, y_inr1 ok (B := 4) hd (by decide), fun q => absurd q z_10, fun _ => ⟨_, _, y_inr1 ok (B := 1439) hm (by decide), ?_⟩⟩
        rw [if_neg z_10]
        refine ⟨_, _, y_fails1 ok zT00, fun _ => ?_, fun q => absurd nI_0 q⟩
        rw [pk_mul]
        exact y_slotAt_44 ok hd 4 (4 * d) (by omega)
      refine ⟨_, _, _, _, hc, hmm, zSame_ok z_ste ?_, zIB_th h hB⟩
      have e : ∀ i, i < 20 → zHr σ (nI m) i = zHm (sj_st σ 56 0 (nI 0)) (nI m) i := fun i hi => by
        obtain ⟨b1, b2, b3⟩ := hB (i / 4) (by omega)
        unfold zHr zHm
        rw [z_stn (by decide), z_stn (by decide), z_stn (by decide), b1, b2, b3]
      rw [zSlot_congr e 4 (d * 4) (by omega), show d * 4 = 4 * d by omega]
    · refine ⟨_, _, _, _, c_X11_slotAt ok (Or.inl ⟨_, z_range0 ok hd (by decide), Or.inr ⟨_, _, z_range1 ok hy (by decide) (by decide), rfl⟩⟩), c_X12_slotAt ok (R := (.ok (nI 0), sj_st (sj_st σ 56 0 (nI 0)) 56 0 (nI 1))) ⟨_, _, y_inr1 ok (B := 4) hd (by decide), fun q => absurd q z_10, fun _ => ⟨_, _, y_inr0 ok (B := 1439) hy (by decide), ?_⟩⟩, zSame_er (by decide) z_ste, zIB_th2 h hB⟩
      rw [if_pos z_00]
      exact hf
  · exact ⟨_, _, _, _, c_X11_slotAt ok (Or.inr ⟨_, _, z_range1 ok hx (by decide) (by decide), rfl⟩), c_X12_slotAt ok (R := (.ok (nI 0), sj_st (sj_st σ 56 0 (nI 0)) 56 0 (nI 1))) ⟨_, _, y_inr0 ok (B := 4) hx (by decide), fun _ => hf, fun q => absurd nI_0 q⟩, zSame_er (by decide) z_ste, zIB_th2 h hB⟩
end ZP7
