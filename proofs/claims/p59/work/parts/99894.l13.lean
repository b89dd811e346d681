/-! P59, THE LAW 13: the bells -/
theorem zSlot4 (f : Nat → Bool) (i : Nat) : zSlot f 4 i = if f i then some i else if f (i + 1) then some (i + 1) else if f (i + 2) then some (i + 2) else if f (i + 3) then some (i + 3) else none := rfl
def kBl (σ : sj_S) (d b l p : Nat) : Prop := σ 47 d = nI b ∧ σ 48 d = nI l ∧ σ 49 d = nI p
section L13
variable {G : sj_G} {σ : sj_S} {d b l p : Nat}
theorem k_bell (ok : sj_ok G) (hB : kBl σ d b l p) (hd : d < 5) {h : Nat} (hh : h < 4) :
    sj_C G 11 me_X11_bell [.ref (sj_ad G 0), .int (nI (4 * d + h)), .int (nI 0)] σ (.ok (nI (b + h * (l + p))), σ) ∧ sj_C G 11 me_X11_bell [.ref (sj_ad G 0), .int (nI (4 * d + h)), .int (nI 1)] σ (.ok (nI (b + h * (l + p) + l)), σ) := by
  have m0 := z_minute (σ := σ) (s := 4 * d + h) (e := false) ok (by omega)
  have m1 := z_minute (σ := σ) (s := 4 * d + h) (e := true) ok (by omega)
  rw [show (4 * d + h) / 4 = d by omega, show (4 * d + h) % 4 = h by omega, hB.1, hB.2.1, hB.2.2] at m0 m1
  rw [show zMin (nI b) (nI l) (nI p) h false = nI b + nI h * (nI l + nI p) from rfl, nI_add, pk_mul, nI_add] at m0
  rw [show zMin (nI b) (nI l) (nI p) h true = nI b + nI h * (nI l + nI p) + nI l from rfl, nI_add, pk_mul, nI_add, nI_add] at m1
  exact ⟨c_X11_bell ok (Or.inl ⟨_, z_range0 ok (by omega) (by decide), _, _, m0, rfl⟩), c_X11_bell ok (Or.inl ⟨_, z_range0 ok (by omega) (by decide), _, _, m1, rfl⟩)⟩
theorem k_slotC (ok : sj_ok G) (hd : d < 5) {m : Nat} (hm : m < 1440) : sj_C G 11 me_X11_slotAt [.ref (sj_ad G 0), .int (nI d), .int (nI m)] σ (.ok (zOp (zSlot (zHr σ (nI m)) 4 (d * 4))), σ) := by
  refine c_X11_slotAt ok (Or.inl ⟨_, z_range0 ok hd (by decide), Or.inl ⟨_, z_range0 ok hm (by decide), ?_⟩⟩)
  rw [pk_mul]
  exact z_slotAt_18 ok hd 4 (d * 4) (by omega)
theorem k_hr (hB : kBl σ d b l p) {m i : Nat} (hb : b + i * (l + p) + l < 2 ^ 31) (hm : m < 2 ^ 31) (hi : i < 4) : zHr σ (nI m) (d * 4 + i) = decide (b + i * (l + p) ≤ m ∧ m < b + i * (l + p) + l) := by
  unfold zHr
  rw [show (d * 4 + i) / 4 = d by omega, show (d * 4 + i) % 4 = i by omega, hB.1, hB.2.1, hB.2.2]
  rw [show zMin (nI b) (nI l) (nI p) i false = nI b + nI i * (nI l + nI p) from rfl, show zMin (nI b) (nI l) (nI p) i true = nI b + nI i * (nI l + nI p) + nI l from rfl, nI_add, pk_mul, nI_add, nI_add]
  have e1 : decide (nI m < nI (b + i * (l + p))) = decide (m < b + i * (l + p)) := decide_eq_decide.mpr (by rw [nI_ltI hm (by omega)])
  have e2 : decide (nI (b + i * (l + p) + l) ≤ nI m) = decide (b + i * (l + p) + l ≤ m) := decide_eq_decide.mpr (by rw [nI_leI hb hm])
  rw [e1, e2]
  generalize b + i * (l + p) = w
  by_cases q1 : m < w <;> by_cases q2 : w + l ≤ m
  · rw [decide_eq_true q1, decide_eq_false (by omega : ¬ (w ≤ m ∧ m < w + l))]; rfl
  · rw [decide_eq_true q1, decide_eq_false (by omega : ¬ (w ≤ m ∧ m < w + l))]; rfl
  · rw [decide_eq_false q1, decide_eq_true q2, decide_eq_false (by omega : ¬ (w ≤ m ∧ m < w + l))]; rfl
  · rw [decide_eq_false q1, decide_eq_false q2, decide_eq_true (by omega : (w ≤ m ∧ m < w + l))]; rfl
theorem k_slotAt (ok : sj_ok G) (hB : kBl σ d b l p) (hd : d < 5) (hb : b ≤ 600) (hl : l ≤ 60) (hp : p ≤ 30) {m : Nat} (hm : m < 1440) :
    (∀ h, h < 4 → b + h * (l + p) ≤ m → m < b + h * (l + p) + l → sj_C G 11 me_X11_slotAt [.ref (sj_ad G 0), .int (nI d), .int (nI m)] σ (.ok (nI (4 * d + h)), σ)) ∧
    ((∀ i, i < 4 → ¬ (b + i * (l + p) ≤ m ∧ m < b + i * (l + p) + l)) → sj_C G 11 me_X11_slotAt [.ref (sj_ad G 0), .int (nI d), .int (nI m)] σ (.ok (-1), σ)) := by
  have hc := k_slotC (σ := σ) ok hd hm
  have f0 : zHr σ (nI m) (d * 4) = decide (b + 0 * (l + p) ≤ m ∧ m < b + 0 * (l + p) + l) := k_hr hB (i := 0) (by omega) (by omega) (by decide)
  have f1 : zHr σ (nI m) (d * 4 + 1) = decide (b + 1 * (l + p) ≤ m ∧ m < b + 1 * (l + p) + l) := k_hr hB (i := 1) (by omega) (by omega) (by decide)
  have f2 : zHr σ (nI m) (d * 4 + 2) = decide (b + 2 * (l + p) ≤ m ∧ m < b + 2 * (l + p) + l) := k_hr hB (i := 2) (by omega) (by omega) (by decide)
  have f3 : zHr σ (nI m) (d * 4 + 3) = decide (b + 3 * (l + p) ≤ m ∧ m < b + 3 * (l + p) + l) := k_hr hB (i := 3) (by omega) (by omega) (by decide)
  rw [zSlot4, f0, f1, f2, f3] at hc
  simp only [decide_eq_true_eq] at hc
  refine ⟨fun h hh h1 h2 => ?_, fun hno => ?_⟩
  · rcases (by omega : h = 0 ∨ h = 1 ∨ h = 2 ∨ h = 3) with e | e | e | e <;> subst e
    · rw [if_pos ⟨h1, h2⟩] at hc
      rw [show 4 * d + 0 = d * 4 by omega]
      exact hc
    · rw [if_neg (by omega), if_pos ⟨h1, h2⟩] at hc
      rw [show 4 * d + 1 = d * 4 + 1 by omega]
      exact hc
    · rw [if_neg (by omega), if_neg (by omega), if_pos ⟨h1, h2⟩] at hc
      rw [show 4 * d + 2 = d * 4 + 2 by omega]
      exact hc
    · rw [if_neg (by omega), if_neg (by omega), if_neg (by omega), if_pos ⟨h1, h2⟩] at hc
      rw [show 4 * d + 3 = d * 4 + 3 by omega]
      exact hc
  · rw [if_neg (hno 0 (by decide)), if_neg (hno 1 (by decide)), if_neg (hno 2 (by decide)), if_neg (hno 3 (by decide))] at hc
    exact hc
theorem k_setBells (ok : sj_ok G) (hd : d < 5) (hb : 420 ≤ b) (hb2 : b ≤ 600) (hl : 30 ≤ l) (hl2 : l ≤ 60) (hp : p ≤ 30) : ∃ τ, sj_C G 11 me_X11_setBells [.ref (sj_ad G 0), .int (nI d), .int (nI b), .int (nI l), .int (nI p)] σ (.ok (nI (b + 3 * (l + p) + l)), τ) ∧ kBl τ d b l p ∧ ∀ b, b ≠ 47 → b ≠ 48 → b ≠ 49 → τ b = σ b := by
  generalize eτ : sj_st (sj_st (sj_st σ 47 d (nI b)) 48 d (nI l)) 49 d (nI p) = τ
  have hput : sj_C G 2 me_X0_put [.ref (sj_ad G 46), .int (nI d), .int (nI b), .int (nI l), .int (nI p)] σ (.ok 0, τ) := by
    refine c_X0_put ok ⟨z_in hd (by decide), z_in hd (by decide), z_in hd (by decide), ?_⟩
    rw [nI_clamp (by omega), eτ]
  have hB : kBl τ d b l p := by
    refine ⟨?_, ?_, ?_⟩
    · rw [← eτ, z_stn (by decide), z_stn (by decide), z_ste]
    · rw [← eτ, z_stn (by decide), z_ste]
    · rw [← eτ, z_ste]
  have m1 := z_minute (σ := τ) (s := 4 * d + 3) (e := true) ok (by omega)
  rw [show (4 * d + 3) / 4 = d by omega, show (4 * d + 3) % 4 = 3 by omega, hB.1, hB.2.1, hB.2.2] at m1
  rw [show zMin (nI b) (nI l) (nI p) 3 true = nI b + nI 3 * (nI l + nI p) + nI l from rfl, nI_add, pk_mul, nI_add, nI_add] at m1
  refine ⟨τ, c_X11_setBells ok (Or.inl ⟨_, z_range0 ok hd (by decide), Or.inl ⟨_, z_between0 ok (nI_nlt hb (by omega)) (nI_le hb2 (by decide)), Or.inl ⟨_, z_between0 ok (nI_nlt hl (by omega)) (nI_le hl2 (by decide)), Or.inl ⟨_, z_between0 ok (nI_nlt (Nat.zero_le _) (by omega)) (nI_le hp (by decide)), _, hput, ?_⟩⟩⟩⟩), hB, fun b h1 h2 h3 => by rw [← eτ, z_stn h3, z_stn h2, z_stn h1]⟩
  rw [nI_add, pk_mul, pk_sub (by omega), show (d + 1) * 4 - 1 = 4 * d + 3 by omega]
  exact ⟨_, _, m1, rfl⟩
theorem l_areBells (ok : sj_ok G) (hO : sj_ad G 70 = sj_ad G 0) : ∃ σ', sj_C G 12 me_L_areBells [.ref (sj_ad G 56)] σ (.ok (nI 1), σ') ∧ (∀ b, b ≠ 47 → b ≠ 48 → b ≠ 49 → b ≠ 56 → σ' b = σ b) ∧ ∀ k, k ≠ 0 → σ' 56 k = σ 56 k := by
  obtain ⟨d, x1, hd, n1⟩ := l_next (σ := σ) ok (n := 5) (by decide) (by decide)
  generalize e1 : sj_st σ 56 0 x1 = ρ1 at n1
  obtain ⟨a, x2, ha, n2⟩ := l_next (σ := ρ1) ok (n := 181) (by decide) (by decide)
  generalize e2 : sj_st ρ1 56 0 x2 = ρ2 at n2
  obtain ⟨l', x3, hl', n3⟩ := l_next (σ := ρ2) ok (n := 31) (by decide) (by decide)
  generalize e3 : sj_st ρ2 56 0 x3 = ρ3 at n3
  obtain ⟨p, x4, hp, n4⟩ := l_next (σ := ρ3) ok (n := 31) (by decide) (by decide)
  generalize e4 : sj_st ρ3 56 0 x4 = ρ4 at n4
  obtain ⟨b, eb⟩ : ∃ b, b = 420 + a := ⟨_, rfl⟩
  obtain ⟨l, el⟩ : ∃ l, l = 30 + l' := ⟨_, rfl⟩
  obtain ⟨τ, c5, hB, n5⟩ := k_setBells (σ := ρ4) (d := d) (b := b) (l := l) (p := p) ok hd (by omega) (by omega) (by omega) (by omega) (by omega)
  have key : ∀ j h, h + j = 4 → sj_J G 12 me_L_areBells (.ok (nI 1), τ) 53 [.ref (sj_ad G 56), .int (nI d), .int (nI b), .int (nI l), .int (nI p), .int (nI (b + 3 * (l + p) + l)), .int (nI h), .null, .null, .null] τ [] := by
    intro j
    induction j with
    | zero =>
      intro h hh
      obtain rfl : h = 4 := by omega
      have c := (k_slotAt (m := b - 1) ok hB hd (by omega) (by omega) (by omega) (by omega)).2 (fun i _ r => by
        have := r.1
        generalize i * (l + p) = w at this
        omega)
      refine t_L_areBells_53 hO ⟨fun _ => ?_, fun r => absurd (nI_le (Nat.le_refl 4) (by decide)) r⟩
      rw [pk_sub (by omega)]
      refine ⟨_, _, c, ?_⟩
      unfold wp_L_areBells_208
      rw [if_pos rfl]
      exact ⟨rfl, Or.inr rfl⟩
    | succ j ih =>
      intro h hh
      have h4 : h < 4 := by omega
      have g := ih (h + 1) (by omega)
      obtain ⟨b0, b1⟩ := k_bell ok hB hd h4
      have hW : b + h * (l + p) + l ≤ b + 3 * (l + p) + l := by
        have := Nat.mul_le_mul_right (l + p) (show h ≤ 3 by omega)
        omega
      have s1 := (k_slotAt (m := b + h * (l + p)) ok hB hd (by omega) (by omega) (by omega) (by omega)).1 h h4 (Nat.le_refl _) (by omega)
      have s2 := (k_slotAt (m := b + h * (l + p) + l - 1) ok hB hd (by omega) (by omega) (by omega) (by omega)).1 h h4 (by omega) (by omega)
      have s3 : 0 < p → sj_C G 11 me_X11_slotAt [.ref (sj_ad G 0), .int (nI d), .int (nI (b + h * (l + p) + l))] τ (.ok (-1), τ) := fun hp0 => by
        refine (k_slotAt (m := b + h * (l + p) + l) ok hB hd (by omega) (by omega) (by omega) (by omega)).2 (fun i hi r => ?_)
        by_cases q : i ≤ h
        · have := Nat.mul_le_mul_right (l + p) q
          omega
        · have h1 : (h + 1) * (l + p) ≤ i * (l + p) := Nat.mul_le_mul_right (l + p) (by omega)
          rw [Nat.succ_mul] at h1
          omega
      rw [← pk_sub (by omega)] at s2
      have e1 : nI 4 * nI d + nI h = nI (4 * d + h) := by rw [pk_mul, nI_add]
      have e2 : nI b + nI h * (nI l + nI p) = nI (b + h * (l + p)) := by rw [nI_add, pk_mul, nI_add]
      have on : wp_L_areBells_182 G (.ok (nI 1), τ) (nI d) (nI b) (nI l) (nI p) (nI (b + 3 * (l + p) + l)) (nI h) τ := by
        unfold wp_L_areBells_182
        rw [nI_add]
        exact g
      have on2 : wp_L_areBells_167 G (.ok (nI 1), τ) (nI d) (nI b) (nI l) (nI p) (nI (b + 3 * (l + p) + l)) (nI h) (nI (b + h * (l + p) + l)) τ := by
        unfold wp_L_areBells_167
        refine ⟨fun _ => on, fun r => ⟨fun _ => on, fun r2 => ?_⟩⟩
        rw [nI_eq (by omega) (by decide)] at r
        rw [r] at r2
        exact absurd rfl r2
      refine t_L_areBells_53 hO ⟨fun r => absurd r (nI_ge h4 (by decide)), fun _ => ?_⟩
      rw [e1, e2]
      refine ⟨_, _, b0, _, _, b1, fun r => absurd rfl r, fun _ => ⟨fun r => absurd (nI_add _ _).symm r, fun _ => ⟨_, _, s1, fun r => absurd rfl r, fun _ => ⟨_, _, s2, fun _ => ⟨fun _ => on2, fun r => ?_⟩, fun r => absurd rfl r⟩⟩⟩⟩
      have hp0 : 0 < p := by
        apply Classical.byContradiction
        intro r2
        rw [show p = 0 by omega] at r
        exact absurd (by decide) r
      exact ⟨_, _, s3 hp0, fun r => absurd rfl r, fun _ => on2⟩
  have n04 : ∀ c, c ≠ 56 → ρ4 c = σ c := fun c hc => by rw [← e4, z_stn hc, ← e3, z_stn hc, ← e2, z_stn hc, ← e1, z_stn hc]
  have k04 : ∀ k, k ≠ 0 → ρ4 56 k = σ 56 k := fun k hk => by rw [← e4, z_sti hk, ← e3, z_sti hk, ← e2, z_sti hk, ← e1, z_sti hk]
  refine ⟨τ, c_L_areBells ok hO ⟨_, _, n1, _, _, n2, _, _, n3, _, _, n4, ?_⟩, fun b h1 h2 h3 h4 => by rw [n5 b h1 h2 h3, n04 b h4], fun k hk => by rw [n5 56 (by decide) (by decide) (by decide), k04 k hk]⟩
  rw [nI_add, nI_add, ← eb, ← el]
  exact ⟨_, _, c5, key 4 0 (by decide)⟩
end L13
