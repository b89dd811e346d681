/-! the reference's rooms; the pair of roomOf -/
section ZRM
variable {G : sj_G} {σ : sj_S} {D : zD} {T : Nat → Nat} {H : Nat → Bool}
def zGw (D : zD) (T : Nat → Nat) (f : Nat → Int32) (s i : Nat) : Nat → Int32 := fun o => if o < dN D then (if zPc T (dN D) s i o && !decide (dKi D o = 0) then nI (zGi D T s (zGo D T s) i o) else -1) else f o
theorem zGw_next {f : Nat → Int32} {s : Nat} : zGw D T f s (dN D) = zGw D T f (s + 1) 0 := by
  funext o
  unfold zGw
  have e : zPc T (dN D) s (dN D) o = zPc T (dN D) (s + 1) 0 o := by
    rw [Bool.eq_iff_iff, zPc_iff, zPc_iff]
    omega
  rw [e]
  rfl
theorem zGw_skip {f : Nat → Int32} {s i : Nat} (h : T i ≠ s ∨ dKi D i = 0) : zGw D T f s (i + 1) = zGw D T f s i := by
  funext o
  unfold zGw
  by_cases hi : o = i
  · subst hi
    rcases h with h | h
    · have e : zPc T (dN D) s (o + 1) o = zPc T (dN D) s o o := by
        rw [Bool.eq_iff_iff, zPc_iff, zPc_iff]
        omega
      rw [e, zGi_keep (Or.inr h)]
    · rw [decide_eq_true h]; simp
  · have e : zPc T (dN D) s (i + 1) o = zPc T (dN D) s i o := by
      rw [Bool.eq_iff_iff, zPc_iff, zPc_iff]
      omega
    rw [e, zGi_keep (Or.inl hi)]
theorem zGw_set {f : Nat → Int32} {s i : Nat} (hi : i < dN D) (h : T i = s) (k : dKi D i ≠ 0) : zGw D T f s (i + 1) = upd (zGw D T f s i) i (nI (zLr D T (zGi D T s (zGo D T s) i) i)) := by
  funext o
  unfold upd
  by_cases e : o = i
  · subst e
    rw [if_pos rfl]
    unfold zGw
    rw [if_pos hi, zPc_iff.mpr ⟨hi, Or.inr ⟨h, by omega⟩⟩, decide_eq_false k]
    show nI (zGi D T s (zGo D T s) (o + 1) o) = _
    have : zGi D T s (zGo D T s) (o + 1) o = zLr D T (zGi D T s (zGo D T s) o) o := by
      show (if T o = s ∧ dKi D o ≠ 0 then (fun q => if q = o then zLr D T (zGi D T s (zGo D T s) o) o else zGi D T s (zGo D T s) o q) else zGi D T s (zGo D T s) o) o = _
      rw [if_pos ⟨h, k⟩]
      exact if_pos rfl
    rw [this]
  · rw [if_neg e]
    unfold zGw
    have e2 : zPc T (dN D) s (i + 1) o = zPc T (dN D) s i o := by
      rw [Bool.eq_iff_iff, zPc_iff, zPc_iff]
      omega
    rw [e2, zGi_keep (Or.inl e)]
theorem y_isRoomTaken (ok : sj_ok G) (hM : repM D (σ 57)) (v : okD D) (hT : ∀ o, o < dN D → σ 59 o = nI (T o) ∧ T o < 20) {l r : Nat} (hl : l < dN D) (hk : dKi D l ≠ 0) (hr : r < 100) {g : Nat → Nat} (hg : ∀ o, o < dN D → σ 63 o = if zAhd T l o && !decide (dKi D o = 0) then nI (g o) else -1) (hg3 : ∀ o, g o ≤ 3) : sj_C G 5 me_X12_isRoomTaken [.ref (sj_ad G 56), .int (nI l), .int (nI r)] σ (.ok (if zUs D T g l r (dN D) then nI 1 else nI 0), σ) := by
  have h9 := v.1
  have vin : ∀ x, x < 128 → vp_in (nI x) 128 := fun x hx => z_in hx (by decide)
  obtain ⟨-, -, -, m3, -⟩ := hM.2.2.2.1 l hl
  obtain ⟨-, -, -, vk, -⟩ := v.2.2.2.1 l hl
  refine c_X12_isRoomTaken ok ?_
  unfold wp_X12_isRoomTaken_0
  have key : ∀ j i, i + j = dN D → zUs D T g l r i = false → sj_J G 5 me_X12_isRoomTaken (.ok (if zUs D T g l r (dN D) then nI 1 else nI 0), σ) 2 [.ref (sj_ad G 56), .int (nI l), .int (nI r), .int (nI i)] σ [] := by
    intro j
    induction j with
    | zero =>
      intro i hi q
      have : i = dN D := by omega
      subst this
      refine t_X12_isRoomTaken_2 ⟨_, _, y_many ok, fun _ => ?_, fun z => ?_⟩
      · rw [q]; rfl
      · rw [hM.1] at z
        exact absurd (nI_le (by omega) (by omega)) z
    | succ j ih =>
      intro i hi q
      obtain ⟨-, -, -, n3, -⟩ := hM.2.2.2.1 i (by omega)
      obtain ⟨-, -, -, wk, -⟩ := v.2.2.2.1 i (by omega)
      have eq1 : zUs D T g l r (i + 1) = (zUs D T g l r i || (zRv D T l i && decide (g i = r))) := rfl
      rw [q, Bool.false_or] at eq1
      have nx : (zRv D T l i && decide (g i = r)) = false → wp_X12_isRoomTaken_57 G (.ok (if zUs D T g l r (dN D) then nI 1 else nI 0), σ) (nI l) (nI r) (nI i) σ := fun z => by
        unfold wp_X12_isRoomTaken_57
        rw [nI_add]
        exact ih (i + 1) (by omega) (by rw [eq1]; exact z)
      refine t_X12_isRoomTaken_2 ⟨_, _, y_many ok, fun z => ?_, fun _ => ⟨fun z => nx ?_, fun z => ⟨z_in (by omega) (by decide), ?_⟩⟩⟩
      · rw [hM.1] at z
        exact absurd z (nI_ge (by omega) (by omega))
      · rw [nI_eq (by omega) (by omega)] at z
        unfold zRv zAhd
        rw [z]; simp
      · rw [nI_clamp (by omega), hg i (by omega)]
        cases hc : (zAhd T l i && !decide (dKi D i = 0))
        · rw [if_neg (by decide)]
          have nm : ¬ (-1 : Int32) = nI r := fun e => absurd (by rw [← e]; decide : nI r < 0) (nI_pos (by omega))
          refine ⟨fun _ => nx ?_, fun e => absurd e nm⟩
          unfold zRv
          rw [Bool.and_eq_false_iff] at hc
          rcases hc with hc | hc
          · rw [hc]; rfl
          · have k0 : dKi D i = 0 := by simpa using hc
            rw [k0, decide_eq_false (fun e => hk e.symm)]; simp
        · rw [if_pos rfl]
          rw [Bool.and_eq_true] at hc
          have eg : (nI (g i) = nI r) = (g i = r) := by rw [nI_eq (by have := hg3 i; omega) (by omega)]
          rw [eg]
          refine ⟨fun e => nx ?_, fun e => ?_⟩
          · rw [decide_eq_false e, Bool.and_false]
          · rw [nI_add, nI_add, nI_clamp (by omega), nI_clamp (by omega), n3, m3]
            refine ⟨vin _ (by omega), vin _ (by omega), fun e2 => nx ?_, fun e2 => ⟨_, _, y_doMeet ok hM v hl (by omega : i < dN D) (hT l hl) (hT i (by omega)), fun e3 => nx ?_, fun e3 => ?_⟩⟩
            · rw [zk_eq wk vk] at e2
              unfold zRv
              rw [decide_eq_false e2]; simp
            · unfold zRv
              cases hm : zMt (dDb D l) (T l) (dDb D i) (T i)
              · simp
              · rw [hm] at e3; exact absurd e3 z_10
            · rw [zk_eq wk vk] at e2
              have hm : zMt (dDb D l) (T l) (dDb D i) (T i) = true := by
                cases hm : zMt (dDb D l) (T l) (dDb D i) (T i)
                · rw [hm] at e3; exact absurd nI_0 e3
                · rfl
              have h1 : zUs D T g l r (dN D) = true := q_any_mono (i := i + 1) (by
                show zUs D T g l r (i + 1) = true
                rw [eq1]
                unfold zRv
                rw [hc.1, decide_eq_true e2, hm, decide_eq_true e]; rfl) (by omega)
              rw [h1]; rfl
  exact key (dN D) 0 (by omega) rfl
theorem y_givesRooms (ok : sj_ok G) (hM : repM D (σ 57)) (v : okD D) (hT : ∀ o, o < dN D → σ 59 o = nI (T o) ∧ T o < 20) (hr : zRi D H T) : ∃ τ, sj_C G 6 me_X12_givesRooms [.ref (sj_ad G 56)] σ (.ok 0, τ) ∧ (∀ k, k ≠ 63 → τ k = σ k) ∧ ∀ l, l < dN D → τ 63 l = if dKi D l = 0 then -1 else nI (zGo D T 20 l) := by
  have h9 := v.1
  have vin : ∀ x, x < 128 → vp_in (nI x) 128 := fun x hx => z_in hx (by decide)
  refine ⟨sj_up σ 63 (zGw D T (σ 63) 20 0), c_X12_givesRooms ok ?_, fun k hk => z_upn hk, fun l hl => ?_⟩
  · unfold wp_X12_givesRooms_0
    have key : ∀ j s, s + j = 20 → sj_J G 6 me_X12_givesRooms (.ok 0, sj_up σ 63 (zGw D T (σ 63) 20 0)) 25 [.ref (sj_ad G 56), .int (nI s), .null, .null] (sj_up σ 63 (zGw D T (σ 63) s 0)) [] := by
      intro j
      induction j with
      | zero =>
        intro s hs
        have : s = 20 := by omega
        subst this
        exact t_X12_givesRooms_25 ⟨fun _ => rfl, fun q => absurd (nI_le (by omega) (by omega)) q⟩
      | succ j ih =>
        intro s hs
        refine t_X12_givesRooms_25 ⟨fun q => absurd q (nI_ge (by omega) (by decide)), fun _ => ?_⟩
        have key2 : ∀ m i, i + m = dN D → sj_J G 6 me_X12_givesRooms (.ok 0, sj_up σ 63 (zGw D T (σ 63) 20 0)) 33 [.ref (sj_ad G 56), .int (nI s), .int (nI i), .null] (sj_up σ 63 (zGw D T (σ 63) s i)) [] := by
          intro m
          induction m with
          | zero =>
            intro i hi
            have : i = dN D := by omega
            subst this
            refine t_X12_givesRooms_33 ⟨_, _, y_many ok, fun _ => ?_, fun q => ?_⟩
            · rw [nI_add, zGw_next]
              exact ih (s + 1) (by omega)
            · rw [z_upn (by decide), hM.1] at q
              exact absurd (nI_le (by omega) (by omega)) q
          | succ m ihm =>
            intro i hi
            have h1 := ihm (i + 1) (by omega)
            obtain ⟨ti, ti2⟩ := hT i (by omega)
            obtain ⟨-, -, -, n3, -⟩ := hM.2.2.2.1 i (by omega)
            obtain ⟨-, -, -, wk, -⟩ := v.2.2.2.1 i (by omega)
            have nx : (T i ≠ s ∨ dKi D i = 0) → wp_X12_givesRooms_91 G (.ok 0, sj_up σ 63 (zGw D T (σ 63) 20 0)) (nI s) (nI i) (sj_up σ 63 (zGw D T (σ 63) s i)) := fun z => by
              unfold wp_X12_givesRooms_91
              rw [zGw_skip z] at h1
              rw [nI_add]
              exact h1
            refine t_X12_givesRooms_33 ⟨_, _, y_many ok, fun q => ?_, fun _ => ⟨z_in (by omega) (by decide), fun q => nx (Or.inl ?_), fun q => ?_⟩⟩
            · rw [z_upn (by decide), hM.1] at q
              exact absurd q (nI_ge (by omega) (by omega))
            · rw [z_upn (by decide), nI_clamp (by omega), ti, nI_eq (by omega) (by omega)] at q
              exact q
            · rw [z_upn (by decide), nI_clamp (by omega), ti, nI_eq (by omega) (by omega)] at q
              rw [z_upn (show 57 ≠ 63 by decide), nI_add, nI_clamp (by omega), n3, zk_m1 wk]
              refine ⟨vin _ (by omega), fun k0 => ?_, fun k0 => nx (Or.inr k0)⟩
              rw [zGw_set (by omega) q k0] at h1
              have hlt := zLr_lt (g := zGi D T s (zGo D T s) i) v hr (by omega : i < dN D) k0
              have htk : ∀ r, r < 100 → sj_C G 5 me_X12_isRoomTaken [.ref (sj_ad G 56), .int (nI i), .int (nI r)] (sj_up σ 63 (zGw D T (σ 63) s i)) (.ok (if zUs D T (zGi D T s (zGo D T s) i) i r (dN D) then nI 1 else nI 0), sj_up σ 63 (zGw D T (σ 63) s i)) := fun r hr100 =>
                y_isRoomTaken (g := zGi D T s (zGo D T s) i) ok (by rw [z_upn (by decide)]; exact hM) v (fun o ho => by rw [z_upn (by decide)]; exact hT o ho) (by omega) k0 hr100 (fun o ho => by
                  rw [sj_up_s]
                  unfold zGw
                  rw [if_pos ho]
                  have : zPc T (dN D) s i o = zAhd T i o := by
                    unfold zPc zAhd
                    rw [decide_eq_true ho, q]; rfl
                  rw [this]) (fun o => zGi_le (fun o => zGo_le s o) i o)
              have fin : ∀ r, r < 3 → zLr D T (zGi D T s (zGo D T s) i) i = r → vp_in (nI i) 9 ∧ wp_X12_givesRooms_91 G (.ok 0, sj_up σ 63 (zGw D T (σ 63) 20 0)) (nI s) (nI i) (sj_st (sj_up σ 63 (zGw D T (σ 63) s i)) 63 (nI i).toNatClampNeg (nI r)) := fun r hr3 e => by
                refine ⟨z_in (by omega) (by decide), ?_⟩
                unfold wp_X12_givesRooms_91
                rw [e] at h1
                rw [nI_clamp (by omega), z_st_up, nI_add]
                exact h1
              have el : zLr D T (zGi D T s (zGo D T s) i) i = if zUs D T (zGi D T s (zGo D T s) i) i 0 (dN D) = false then 0 else if zUs D T (zGi D T s (zGo D T s) i) i 1 (dN D) = false then 1 else if zUs D T (zGi D T s (zGo D T s) i) i 2 (dN D) = false then 2 else 3 := rfl
              have up : ∀ r, r < 3 → (zUs D T (zGi D T s (zGo D T s) i) i r (dN D) = false → zLr D T (zGi D T s (zGo D T s) i) i = r) → (zUs D T (zGi D T s (zGo D T s) i) i r (dN D) = true → sj_J G 6 me_X12_givesRooms (.ok 0, sj_up σ 63 (zGw D T (σ 63) 20 0)) 69 [.ref (sj_ad G 56), .int (nI s), .int (nI i), .int (nI (r + 1))] (sj_up σ 63 (zGw D T (σ 63) s i)) []) → sj_J G 6 me_X12_givesRooms (.ok 0, sj_up σ 63 (zGw D T (σ 63) 20 0)) 69 [.ref (sj_ad G 56), .int (nI s), .int (nI i), .int (nI r)] (sj_up σ 63 (zGw D T (σ 63) s i)) [] := fun r hr3 ha hb => by
                refine t_X12_givesRooms_69 ⟨_, _, htk r (by omega), fun z => fin r hr3 (ha ?_), fun z => ?_⟩
                · cases hu : zUs D T (zGi D T s (zGo D T s) i) i r (dN D)
                  · rfl
                  · rw [hu] at z; exact absurd z z_10
                · rw [nI_add]
                  refine hb ?_
                  cases hu : zUs D T (zGi D T s (zGo D T s) i) i r (dN D)
                  · rw [hu] at z; exact absurd nI_0 z
                  · rfl
              refine up 0 (by decide) (fun z => by rw [el, if_pos z]) (fun z0 => up 1 (by decide) (fun z => by rw [el, if_neg (by rw [z0]; decide), if_pos z]) (fun z1 => up 2 (by decide) (fun z => by rw [el, if_neg (by rw [z0]; decide), if_neg (by rw [z1]; decide), if_pos z]) (fun z2 => ?_)))
              rw [el, if_neg (by rw [z0]; decide), if_neg (by rw [z1]; decide), if_neg (by rw [z2]; decide)] at hlt
              omega
        exact key2 (dN D) 0 (by omega)
    have k0 := key 20 0 (by omega)
    have e0 : zGw D T (σ 63) 0 0 = fun o => if o < dN D then -1 else σ 63 o := by
      funext o
      unfold zGw
      have : zPc T (dN D) 0 0 o = false := by
        rw [← Bool.not_eq_true, zPc_iff]
        omega
      rw [this]; rfl
    rw [e0] at k0
    have ini : ∀ j i, i + j = dN D → sj_J G 6 me_X12_givesRooms (.ok 0, sj_up σ 63 (zGw D T (σ 63) 20 0)) 2 [.ref (sj_ad G 56), .int (nI i), .null, .null] (sj_up σ 63 (fun o => if o < i then -1 else σ 63 o)) [] := by
      intro j
      induction j with
      | zero =>
        intro i hi
        have : i = dN D := by omega
        subst this
        refine t_X12_givesRooms_2 ⟨_, _, y_many ok, fun _ => k0, fun q => ?_⟩
        rw [z_upn (by decide), hM.1] at q
        exact absurd (nI_le (by omega) (by omega)) q
      | succ j ih =>
        intro i hi
        have h1 := ih (i + 1) (by omega)
        refine t_X12_givesRooms_2 ⟨_, _, y_many ok, fun q => ?_, fun _ => ⟨z_in (by omega) (by decide), ?_⟩⟩
        · rw [z_upn (by decide), hM.1] at q
          exact absurd q (nI_ge (by omega) (by omega))
        · rw [nI_clamp (by omega), z_st_up, nI_add]
          have e : upd (fun o => if o < i then -1 else σ 63 o) i (-1) = fun o => if o < i + 1 then -1 else σ 63 o := by
            funext o
            unfold upd
            by_cases q : o = i
            · rw [if_pos q, if_pos (by omega)]
            · rw [if_neg q]
              show (if o < i then -1 else σ 63 o) = _
              by_cases r : o < i
              · rw [if_pos r, if_pos (by omega)]
              · rw [if_neg r, if_neg (by omega)]
          rw [e]
          exact h1
    have i0 := ini (dN D) 0 (by omega)
    have e1 : (fun o => if o < 0 then -1 else σ 63 o) = σ 63 := by
      funext o
      rw [if_neg (by omega)]
    rw [e1, z_up_self] at i0
    exact i0
  · rw [sj_up_s]
    unfold zGw
    rw [if_pos hl, zPc_iff.mpr ⟨hl, Or.inl (hT l hl).2⟩, Bool.true_and]
    by_cases k : dKi D l = 0
    · rw [decide_eq_true k, if_pos k]; rfl
    · rw [decide_eq_false k, if_neg k]; rfl
theorem p_roomOf (ok : sj_ok G) (h : zA σ) (x : Int32) : zPair G (zI2 σ) 10 me_X11_roomOf 7 me_X12_roomOf [.int x] (zcd 3 2 0) σ := by
  obtain ⟨D, T, v, hC, hM, hT⟩ := h.1
  have h9 := v.1
  have hM0 : repM D (sj_st σ 56 0 (nI 0) 57) := by rw [z_stn (by decide)]; exact hM
  rcases z_rg x (dN D) with ⟨l, hl, rfl⟩ | hx
  · by_cases hq : dT D = 1
    · obtain ⟨hT, hrt⟩ := hT hq
      rw [zRi_iff v] at hrt
      obtain ⟨τ, htk, hru, hτ⟩ := z_take (σ := σ) (b := 6) ok hC v (Or.inl rfl) (nI 0)
      have τn : ∀ k, (k < 6 ∨ 16 < k) → τ k = σ k := fun k hk => hτ k (fun j hj => by omega)
      have hR : repT (dN D) T (τ 3) := fun o ho => by rw [τn 3 (by omega)]; exact ⟨(hT o ho).1, (hT o ho).2.2⟩
      obtain ⟨ρ, hgr, hρ⟩ := z_giveRooms ok v (Or.inl rfl) z_sl3 (by decide) hru hR hl
      have ρn : ∀ k, k ≠ 17 → (k < 6 ∨ 16 < k) → ρ k = σ k := fun k h1 h2 => by rw [hρ k h1, τn k h2]
      have hc : sj_C G 10 me_X11_roomOf [.ref (sj_ad G 0), .int (nI l)] σ (.ok (if dKi D l = 0 then -1 else nI (zGo D T 20 l)), ρ) :=
        c_X11_roomOf ok (Or.inl ⟨_, z_requireLesson0 ok hC v hl, Or.inl ⟨_, z_requireTable0 ok (hC.2.2.1.trans (by rw [hq])), _, htk, _, _, hgr, rfl⟩⟩)
      have ρ57 : ρ 57 = σ 57 := ρn 57 (by decide) (by omega)
      have hM1 : repM D (sj_st ρ 56 0 (nI 0) 57) := by rw [z_stn (by decide), ρ57]; exact hM
      obtain ⟨κ, hlk, f1, f2, f3⟩ := y_looksAtTable (σ := sj_st ρ 56 0 (nI 0)) ok h9 hM1.1
      have κ57 : κ 57 = σ 57 := by rw [f1 57 (by decide) (by decide), z_stn (by decide), ρ57]
      obtain ⟨ω, hgm, ωn, ω63⟩ := y_givesRooms (σ := κ) (T := T) ok (by rw [κ57]; exact hM) v (fun o ho => ⟨by rw [f2 o ho, z_stn (by decide), ρ57]; exact (hT o ho).2.1, (hT o ho).2.2⟩) hrt
      have hm : sj_C G 7 me_X12_roomOf [.ref (sj_ad G 56), .int (nI l)] ρ (.ok (if dKi D l = 0 then -1 else nI (zGo D T 20 l)), ω) := by
        refine c_X12_roomOf ok ⟨_, _, y_noLesson0 ok hM1 v zT00 hl, fun q => absurd nI_0 q, fun _ => ⟨_, _, y_noTable0 ok zT00 (hM1.2.2.1.trans (by rw [hq])), fun _ => ⟨_, hlk, _, hgm, z_in (by omega) (by decide), ?_⟩, fun q => absurd nI_0 q⟩⟩
        rw [nI_clamp (by omega), ω63 l hl]
      have hk : ∀ b, b ≠ 59 → b ≠ 60 → b ≠ 63 → b ≠ 17 → (b < 6 ∨ 16 < b) → b ≠ 56 → ω b = σ b := fun b h1 h2 h3 h4 h5 h6 => by
        rw [ωn b h3, f1 b h1 h2, z_stn h6, ρn b h4 h5]
      have hk2 : ∀ k, k ≠ 0 → ω 56 k = σ 56 k := fun k hk0 => by
        rw [ωn 56 (by decide), f1 56 (by decide) (by decide), z_sti hk0, ρn 56 (by decide) (by omega)]
      have m1 : ∀ b, b ∈ [2, 3, 4, 5, 32, 57, 58, 62] → b < 6 ∨ 16 < b := by decide
      have m2 : ∀ b, b ∈ [33, 46, 47, 48, 49, 50, 51, 52, 54, 55, 70, 71, 72, 73, 74, 75, 76] → b < 6 ∨ 16 < b := by decide
      refine ⟨_, _, _, _, hc, hm, zSame_ok (by rw [ωn 56 (by decide), f1 56 (by decide) (by decide), z_ste]) rfl, zA_of h (fun b hb => hk b (zne (by decide) hb) (zne (by decide) hb) (zne (by decide) hb) (zne (by decide) hb) (m1 b hb) (zne (by decide) hb)) (hk2 3 (by decide)) (hk2 7 (by decide)) (by rw [hk 30 (by decide) (by decide) (by decide) (by decide) (by omega) (by decide)]), fun b hb => hk b (zne (by decide) hb) (zne (by decide) hb) (zne (by decide) hb) (zne (by decide) hb) (m2 b hb) (zne (by decide) hb), fun k hkk => hk2 k (zne (by decide) hkk), by rw [hk 30 (by decide) (by decide) (by decide) (by decide) (by omega) (by decide)]⟩
    · have hq := zT_of v hq
      exact ⟨_, _, _, _, c_X11_roomOf ok (Or.inl ⟨_, z_requireLesson0 ok hC v hl, Or.inr ⟨_, _, z_requireTable1 ok (hC.2.2.1.trans (by rw [hq])), rfl⟩⟩), c_X12_roomOf ok (R := (.ok (nI 0), sj_st (sj_st σ 56 0 (nI 0)) 56 0 (nI 2))) ⟨_, _, y_noLesson0 ok hM0 v zT00 hl, fun q => absurd nI_0 q, fun _ => ⟨_, _, y_noTable1 ok zT00 (hM0.2.2.1.trans (by rw [hq])) (by decide), fun q => absurd q z_10, fun _ => rfl⟩⟩, zSame_er (by decide) z_ste, zI2_th2 h⟩
  · exact ⟨_, _, _, _, c_X11_roomOf ok (Or.inr ⟨_, _, z_requireLesson1 ok hC v hx, rfl⟩), c_X12_roomOf ok (R := (.ok (nI 0), sj_st (sj_st σ 56 0 (nI 0)) 56 0 (nI 1))) ⟨_, _, y_noLesson1 ok hM0 v zT00 hx (by decide), fun _ => rfl, fun q => absurd q z_10⟩, zSame_er (by decide) z_ste, zI2_th2 h⟩
end ZRM
