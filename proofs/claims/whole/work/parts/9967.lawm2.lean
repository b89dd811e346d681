/-! THE LAW: meanSlot and taken -/
section LKD
variable {G : sj_G} {q : lG} {A0 : Nat → Prop} {M : sj_M} {p : Program} {e : Env} {s : State} {m : MethodId} {args : Array Value} {below : List Frame} {meth : Method} {c : Code} {rm : Room} {Z : State → Prop} {cells slots : Nat} {E : va_W} {pc : Nat} {L st rest : List Value} {σ : sj_S}
theorem lj_callD {M' : sj_M} {d' idx b : Nat} {As : List Value} {ws' : List Cond} {Rc : Except Nat UInt64} {σ1 : sj_S} (hK0 : ∀ x, x < s.heap.size → ¬ sj_A G x → ¬ A0 x) (hA : ∀ x, sj_A G x → A0 x) (hE : ∀ x ∈ E, ¬ sj_A G x.1) (hd : decode (sj_cc M) pc = .ok (.invokevirtual idx, 3)) (hg : GoodIn (sj_ws M) (wsV (sj_own M) idx (sj_own M') (sj_y M') (sj_ws M'))) (hw : sj_ws M' = Cond.code (sj_y M') (sj_cc M') (sj_nL M') (sj_rt M') :: ws') (hh : sj_hd M' As.length = true) (hb : b < sj_NA) (hbk : sj_lk b ≤ 12) (hbc : (vwCl[sj_lk b]?).map (fun q => q.1) = some (sj_own M')) (hrs : (rest.map fun v => v.category).sum ≤ 8) (hdd : d' + 1 ≤ rm.frames ∧ 64 * (d' + 1) ≤ rm.locals) (hmc : cells + dj_mc (Rc, σ1) ≤ rm.cells ∧ slots + dj_ms (Rc, σ1) ≤ rm.slots) (hc : dj_C G d' M' (.ref (sj_ad G b) :: As) σ (Rc, σ1))
    (ker : ∀ k9, Rc = .error k9 → ∀ (H : Heap) (locs : List Loc) (ls : Array Slot) (ce : Cell) (q9 : Addr), sj_ok G → tj_Cx G M p s m args meth c → tj_H G A0 s σ1 E H locs → sj_lh ls (sj_nL M) L → H[q9]? = some ce → ce.vm = .none → s.vm.findClass (sj_ex k9) = some ce.cls → vx_W p (sj_l G) e rm s m args below meth c H locs (cells + 1) (slots + 6) Z (F0 m pc ls rest) q9)
    (kok : ∀ v, Rc = .ok v → tj_J G A0 M p e s m args below meth c rm Z cells slots E (pc + 3) L σ1 (.double v :: rest)) : tj_J G A0 M p e s m args below meth c rm Z cells slots E pc L σ (As.reverse ++ .ref (sj_ad G b) :: rest) := by
  intro ok C H locs ls hH hl
  have hr := tj_runG (E := E) (As := As) (rest := rest) (rm := rm) (e := e) (below := below) (cells := cells) (slots := slots) (mc := dj_mc (Rc, σ1)) (ms := dj_ms (Rc, σ1)) (Qc := dj_Q G (Rc, σ1)) (XC := dj_X G (Rc, σ1)) hK0 C hH hl.1 hd hg hw hh hb hbk hbc hrs hdd hc hmc
  refine vx_calld (a := (Value.ref (sj_ad G b) :: As).toArray) hr hH.2.1 (fun q _ h => hA q h) hA (fun q _ h => hA q h) (fun E ce q9 u t H1 locs1 ht hvm hpx hBX hz hk hS1 hce hcv hcl => ?_) (fun r u t H1 locs1 ht hvm hpost hB hz hk hS1 => ?_)
  · obtain ⟨k9, h9, e2, e3⟩ := hBX
    dsimp only at h9
    subst h9
    subst e2
    exact ker k9 rfl H1 locs1 ls ce q9 ok C (tj_after hE hH ht e3 hz hk hS1) hl hce hcv hcl
  · dsimp only at hpost
    subst hpost
    exact kok r rfl ok C H1 locs1 ls (tj_after hE hH ht hB hz hk hS1) hl
theorem lj_callF {M' : sj_M} {d' idx b : Nat} {As : List Value} {ws' : List Cond} {Rc : Except Nat UInt32} {σ1 : sj_S} (hK0 : ∀ x, x < s.heap.size → ¬ sj_A G x → ¬ A0 x) (hA : ∀ x, sj_A G x → A0 x) (hE : ∀ x ∈ E, ¬ sj_A G x.1) (hd : decode (sj_cc M) pc = .ok (.invokevirtual idx, 3)) (hg : GoodIn (sj_ws M) (wsV (sj_own M) idx (sj_own M') (sj_y M') (sj_ws M'))) (hw : sj_ws M' = Cond.code (sj_y M') (sj_cc M') (sj_nL M') (sj_rt M') :: ws') (hh : sj_hd M' As.length = true) (hb : b < sj_NA) (hbk : sj_lk b ≤ 12) (hbc : (vwCl[sj_lk b]?).map (fun q => q.1) = some (sj_own M')) (hrs : (rest.map fun v => v.category).sum ≤ 8) (hdd : d' + 1 ≤ rm.frames ∧ 64 * (d' + 1) ≤ rm.locals) (hmc : cells + fj_mc (Rc, σ1) ≤ rm.cells ∧ slots + fj_ms (Rc, σ1) ≤ rm.slots) (hc : fj_C G d' M' (.ref (sj_ad G b) :: As) σ (Rc, σ1))
    (ker : ∀ k9, Rc = .error k9 → ∀ (H : Heap) (locs : List Loc) (ls : Array Slot) (ce : Cell) (q9 : Addr), sj_ok G → tj_Cx G M p s m args meth c → tj_H G A0 s σ1 E H locs → sj_lh ls (sj_nL M) L → H[q9]? = some ce → ce.vm = .none → s.vm.findClass (sj_ex k9) = some ce.cls → vx_W p (sj_l G) e rm s m args below meth c H locs (cells + 1) (slots + 6) Z (F0 m pc ls rest) q9)
    (kok : ∀ v, Rc = .ok v → tj_J G A0 M p e s m args below meth c rm Z cells slots E (pc + 3) L σ1 (.float v :: rest)) : tj_J G A0 M p e s m args below meth c rm Z cells slots E pc L σ (As.reverse ++ .ref (sj_ad G b) :: rest) := by
  intro ok C H locs ls hH hl
  have hr := tj_runG (E := E) (As := As) (rest := rest) (rm := rm) (e := e) (below := below) (cells := cells) (slots := slots) (mc := fj_mc (Rc, σ1)) (ms := fj_ms (Rc, σ1)) (Qc := fj_Q G (Rc, σ1)) (XC := fj_X G (Rc, σ1)) hK0 C hH hl.1 hd hg hw hh hb hbk hbc hrs hdd hc hmc
  refine vx_callf (a := (Value.ref (sj_ad G b) :: As).toArray) hr hH.2.1 (fun q _ h => hA q h) hA (fun q _ h => hA q h) (fun E ce q9 u t H1 locs1 ht hvm hpx hBX hz hk hS1 hce hcv hcl => ?_) (fun r u t H1 locs1 ht hvm hpost hB hz hk hS1 => ?_)
  · obtain ⟨k9, h9, e2, e3⟩ := hBX
    dsimp only at h9
    subst h9
    subst e2
    exact ker k9 rfl H1 locs1 ls ce q9 ok C (tj_after hE hH ht e3 hz hk hS1) hl hce hcv hcl
  · dsimp only at hpost
    subst hpost
    exact kok r rfl ok C H1 locs1 ls (tj_after hE hH ht hB hz hk hS1) hl
end LKD
def lrd {α : Type} (Rc : Except Nat α) : Int32 := match Rc with
  | .ok _ => nI 0
  | .error _ => nI 1
def ldd (Rc : Except Nat UInt64) (g : Nat → UInt64) : Nat → UInt64 := match Rc with
  | .ok v => vf_upd g 0 v
  | .error _ => g
def ldf (Rc : Except Nat UInt32) (g : Nat → UInt64) : Nat → UInt64 := match Rc with
  | .ok v => vf_upd g 0 (FP.f2d v)
  | .error _ => g
section LWD
variable {G : sj_G} {q : lG} {σ σ1 : sj_S} {f : Nat → Int64} {g : Nat → UInt64}
set_option maxRecDepth 20000 in
theorem ggL_meanSlot_X11_meanSlot : GoodIn wsL_meanSlot wsX11_meanSlot := goodIn_ca (goodIn_r _ [6, 7, 8, 9, 10, 11, 5, 12, 13, 14, 15, 16, 17, 18, 19, 20, 21, 22, 23, 24, 25, 26, 27, 28, 29, 30, 31, 32, 33, 34, 35, 36, 37] (by decide +kernel) (by decide +kernel)) (goodIn_sub (fun _ h => List.mem_cons_of_mem _ (List.mem_append_right _ h)) (by decide +kernel))
set_option maxRecDepth 20000 in
theorem gL_meanSlot_X11_meanSlot : GoodIn wsL_meanSlot (wsV RL 150 RX11 yX11_meanSlot wsX11_meanSlot) := goodIn_app (goodIn_of _ (by decide +kernel)) ggL_meanSlot_X11_meanSlot
theorem dL_meanSlot_0 : decode cL_meanSlot 0 = .ok (.aload_n 1, 1) := by decide +kernel
theorem dL_meanSlot_1 : decode cL_meanSlot 1 = .ok (.iconst 0, 1) := by decide +kernel
theorem dL_meanSlot_2 : decode cL_meanSlot 2 = .ok (.aload_n 0, 1) := by decide +kernel
theorem dL_meanSlot_3 : decode cL_meanSlot 3 = .ok (.invokevirtual 150, 3) := by decide +kernel
theorem dL_meanSlot_6 : decode cL_meanSlot 6 = .ok (.dastore, 1) := by decide +kernel
theorem dL_meanSlot_7 : decode cL_meanSlot 7 = .ok (.goto 6, 3) := by decide +kernel
theorem dL_meanSlot_10 : decode cL_meanSlot 10 = .ok (.astore_n 2, 1) := by decide +kernel
theorem dL_meanSlot_11 : decode cL_meanSlot 11 = .ok (.iconst 1, 1) := by decide +kernel
theorem dL_meanSlot_12 : decode cL_meanSlot 12 = .ok (.ireturn, 1) := by decide +kernel
theorem dL_meanSlot_13 : decode cL_meanSlot 13 = .ok (.iconst 0, 1) := by decide +kernel
theorem dL_meanSlot_14 : decode cL_meanSlot 14 = .ok (.ireturn, 1) := by decide +kernel
abbrev me_L_meanSlot : sj_M := (yL_meanSlot, RL, cL_meanSlot, 3, wsL_meanSlot, some .int)
theorem hd_L_meanSlot : sj_hd me_L_meanSlot 2 = true := by decide +kernel
set_option maxRecDepth 20000 in
theorem ggL_taken_X11_taken : GoodIn wsL_taken wsX11_taken := goodIn_ca (goodIn_r _ [6, 7, 8, 9, 10, 11, 5, 12, 13, 14, 15, 16, 17, 18, 19, 20, 21, 22, 23, 24, 25, 26, 27, 28, 29, 30, 31, 32, 33, 34, 35, 36, 37, 38, 39, 40, 41] (by decide +kernel) (by decide +kernel)) (goodIn_sub (fun _ h => List.mem_cons_of_mem _ (List.mem_append_right _ h)) (by decide +kernel))
set_option maxRecDepth 20000 in
theorem gL_taken_X11_taken : GoodIn wsL_taken (wsV RL 154 RX11 yX11_taken wsX11_taken) := goodIn_app (goodIn_of _ (by decide +kernel)) ggL_taken_X11_taken
theorem dL_taken_0 : decode cL_taken 0 = .ok (.aload_n 1, 1) := by decide +kernel
theorem dL_taken_1 : decode cL_taken 1 = .ok (.iconst 0, 1) := by decide +kernel
theorem dL_taken_2 : decode cL_taken 2 = .ok (.aload_n 0, 1) := by decide +kernel
theorem dL_taken_3 : decode cL_taken 3 = .ok (.invokevirtual 154, 3) := by decide +kernel
theorem dL_taken_6 : decode cL_taken 6 = .ok (.f2d, 1) := by decide +kernel
theorem dL_taken_7 : decode cL_taken 7 = .ok (.dastore, 1) := by decide +kernel
theorem dL_taken_8 : decode cL_taken 8 = .ok (.goto 6, 3) := by decide +kernel
theorem dL_taken_11 : decode cL_taken 11 = .ok (.astore_n 2, 1) := by decide +kernel
theorem dL_taken_12 : decode cL_taken 12 = .ok (.iconst 1, 1) := by decide +kernel
theorem dL_taken_13 : decode cL_taken 13 = .ok (.ireturn, 1) := by decide +kernel
theorem dL_taken_14 : decode cL_taken 14 = .ok (.iconst 0, 1) := by decide +kernel
theorem dL_taken_15 : decode cL_taken 15 = .ok (.ireturn, 1) := by decide +kernel
abbrev me_L_taken : sj_M := (yL_taken, RL, cL_taken, 3, wsL_taken, some .int)
theorem hd_L_taken : sj_hd me_L_taken 2 = true := by decide +kernel
set_option maxRecDepth 20000 in
theorem lm_meanSlot (ok : sj_ok G) (hq : lok G q) {Rc : Except Nat UInt64} (hc : dj_C G 10 me_X11_meanSlot [.ref (sj_ad G 0)] σ (Rc, σ1)) (hr : ∀ k, Rc = .error k → k = 2) : lj_C G q me_L_meanSlot [.ref (sj_ad G 0), .ref q.2.1] σ f g (lrd Rc) σ1 f (ldd Rc g) := by
  refine lj_enter (hh := [(0, 7, 10, 15)]) ok (by decide +kernel) rfl rfl (Nat.le_of_ble_eq_true rfl) (by simp [Value.category]) (fun p e s m args below meth c htab hT hN => ?_)
  refine tj_aload_n dL_meanSlot_0 (i := 1) rfl rfl ?_
  refine tj_iconst (v := nI 0) dL_meanSlot_1 (by decide +kernel) ?_
  refine tj_aload_n dL_meanSlot_2 (i := 0) rfl rfl ?_
  refine lj_callD (M' := me_X11_meanSlot) (b := 0) (As := []) (rest := [.int (nI 0), .ref q.2.1]) (fun _ _ h => h) (fun _ h => h) (lok_E hq) dL_meanSlot_3 gL_meanSlot_X11_meanSlot rfl hd_X11_meanSlot (by decide +kernel) (by decide +kernel) rfl (Nat.le_of_ble_eq_true rfl) ⟨Nat.le_of_ble_eq_true rfl, Nat.le_of_ble_eq_true rfl⟩ (by cases Rc <;> exact ⟨Nat.le_of_ble_eq_true rfl, Nat.le_of_ble_eq_true rfl⟩) hc (fun k9 hk9 H locs ls ce q9 ok C hH hl hce hcv hcl => ?_) (fun v hv => ?_)
  · obtain rfl := hr k9 hk9
    subst hk9
    refine lj_catch ok C hT htab (pre := []) (suf := []) rfl (by decide) (by decide) ⟨by decide, by decide⟩ (fun z hz => nomatch hz) (by decide +kernel) hH hl hce hcv hcl ?_
    refine tj_astore_n dL_meanSlot_10 (i := 2) rfl (by decide) ?_
    refine tj_iconst (v := nI 1) dL_meanSlot_11 (by decide +kernel) ?_
    refine lj_open (q := q) (fun _ h => Or.inl h) ?_
    exact lj_ret dL_meanSlot_12 rfl (Nat.le_refl _) (Nat.le_refl _)
  · subst hv
    refine lj_open (q := q) (fun _ h => Or.inl h) ?_
    refine lj_dast hq hT hN dL_meanSlot_6 ?_
    refine tj_goto (tgt := 13) dL_meanSlot_7 (by decide) ?_
    refine tj_iconst (v := nI 0) dL_meanSlot_13 (by decide +kernel) ?_
    exact lj_ret dL_meanSlot_14 rfl (Nat.zero_le _) (Nat.zero_le _)
set_option maxRecDepth 20000 in
theorem lm_taken (ok : sj_ok G) (hq : lok G q) {Rc : Except Nat UInt32} (hc : fj_C G 10 me_X11_taken [.ref (sj_ad G 0)] σ (Rc, σ1)) (hr : ∀ k, Rc = .error k → k = 2) (hn : ∀ v, Rc = .ok v → vf_n64 (FP.f2d v)) : lj_C G q me_L_taken [.ref (sj_ad G 0), .ref q.2.1] σ f g (lrd Rc) σ1 f (ldf Rc g) := by
  refine lj_enter (hh := [(0, 8, 11, 15)]) ok (by decide +kernel) rfl rfl (Nat.le_of_ble_eq_true rfl) (by simp [Value.category]) (fun p e s m args below meth c htab hT hN => ?_)
  refine tj_aload_n dL_taken_0 (i := 1) rfl rfl ?_
  refine tj_iconst (v := nI 0) dL_taken_1 (by decide +kernel) ?_
  refine tj_aload_n dL_taken_2 (i := 0) rfl rfl ?_
  refine lj_callF (M' := me_X11_taken) (b := 0) (As := []) (rest := [.int (nI 0), .ref q.2.1]) (fun _ _ h => h) (fun _ h => h) (lok_E hq) dL_taken_3 gL_taken_X11_taken rfl hd_X11_taken (by decide +kernel) (by decide +kernel) rfl (Nat.le_of_ble_eq_true rfl) ⟨Nat.le_of_ble_eq_true rfl, Nat.le_of_ble_eq_true rfl⟩ (by cases Rc <;> exact ⟨Nat.le_of_ble_eq_true rfl, Nat.le_of_ble_eq_true rfl⟩) hc (fun k9 hk9 H locs ls ce q9 ok C hH hl hce hcv hcl => ?_) (fun v hv => ?_)
  · obtain rfl := hr k9 hk9
    subst hk9
    refine lj_catch ok C hT htab (pre := []) (suf := []) rfl (by decide) (by decide) ⟨by decide, by decide⟩ (fun z hz => nomatch hz) (by decide +kernel) hH hl hce hcv hcl ?_
    refine tj_astore_n dL_taken_11 (i := 2) rfl (by decide) ?_
    refine tj_iconst (v := nI 1) dL_taken_12 (by decide +kernel) ?_
    refine lj_open (q := q) (fun _ h => Or.inl h) ?_
    exact lj_ret dL_taken_13 rfl (Nat.le_refl _) (Nat.le_refl _)
  · have hn2 := hn v hv
    subst hv
    refine lj_open (q := q) (fun _ h => Or.inl h) ?_
    refine tj_f2d dL_taken_6 hn2 ?_
    refine lj_dast hq hT hN dL_taken_7 ?_
    refine tj_goto (tgt := 14) dL_taken_8 (by decide) ?_
    refine tj_iconst (v := nI 0) dL_taken_14 (by decide +kernel) ?_
    exact lj_ret dL_taken_15 rfl (Nat.zero_le _) (Nat.zero_le _)
end LWD
