/-! LETTERS: String.charAt of the days' letters, instruction by instruction -/
section ZLE
variable {G : sj_G} {d : Nat} {M : sj_M} {R : sj_R} {pc : Nat} {L rest : List Value} {σ : sj_S}
theorem sj_Kt_of {s : State} {H : Heap} (h : sj_K G s H) : sj_Kt G s H := h.2.2.2.2.2.2.2
theorem sj_gs {idx : Nat} {C n t : String} {v : Value} (hd : decode (sj_cc M) pc = .ok (.getstatic idx, 3)) (hZ : ∀ s : State, sj_K G s s.heap → va_Z C n t v (sj_A G) s s.heap) (hlink : Cond.fieldLink (sj_own M) idx C n t ∈ sj_ws M) (k : sj_J G d M R (pc + 3) L σ (v :: rest)) : sj_J G d M R pc L σ rest :=
  fun p e s m args below meth c ok C9 H locs ls hP hS hl => va_gets C9.1 C9.2.1 (hZ s C9.2.2.2.2.2.2.2.2) hS C9.2.2.2.1 (C9.2.2.2.2.1 _ hlink) (fun _ hx => hx) hd (k p e s m args below meth c ok C9 H locs ls hP hS hl)
theorem sj_gsq {idx : Nat} {C n t : String} (hd : decode (sj_cc M) pc = .ok (.getstatic idx, 3)) (hZ : ∀ s : State, sj_K G s s.heap → va_Zq C n t (sj_A G) s s.heap) (hlink : Cond.fieldLink (sj_own M) idx C n t ∈ sj_ws M) (k : ∀ v : Value, v.category = 1 → sj_J G d M R (pc + 3) L σ (v :: rest)) : sj_J G d M R pc L σ rest := by
  intro p e s m args below meth c ok C9 H locs ls hP hS hl
  rcases hZ s C9.2.2.2.2.2.2.2.2 with h | ⟨q, h⟩
  · exact va_gets C9.1 C9.2.1 h hS C9.2.2.2.1 (C9.2.2.2.2.1 _ hlink) (fun _ hx => hx) hd (k .null rfl p e s m args below meth c ok C9 H locs ls hP hS hl)
  · exact va_gets C9.1 C9.2.1 h hS C9.2.2.2.1 (C9.2.2.2.2.1 _ hlink) (fun _ hx => hx) hd (k (.ref q) rfl p e s m args below meth c ok C9 H locs ls hP hS hl)
theorem sj_tcoder {idx : Nat} (hd : decode (sj_cc M) pc = .ok (.getfield idx, 3)) (hlink : Cond.fieldLink (sj_own M) idx "java/lang/String" "coder" "B" ∈ sj_ws M) (k : sj_J G d M R (pc + 3) L σ (.int 0 :: rest)) : sj_J G d M R pc L σ (.ref (sj_tk G) :: rest) :=
  fun p e s m args below meth c ok C9 H locs ls hP hS hl => vk_getf C9.1 C9.2.1 ((sj_Kt_of C9.2.2.2.2.2.2.2.2).1.1 0 (by decide)).2.1 hS C9.2.2.2.1 (C9.2.2.2.2.1 _ hlink) (fun _ hx => hx) hd (k p e s m args below meth c ok C9 H locs ls hP hS hl)
theorem sj_tvalue {idx : Nat} (hd : decode (sj_cc M) pc = .ok (.getfield idx, 3)) (hlink : Cond.fieldLink (sj_own M) idx "java/lang/String" "value" "[B" ∈ sj_ws M) (k : sj_J G d M R (pc + 3) L σ (.ref (sj_tv G) :: rest)) : sj_J G d M R pc L σ (.ref (sj_tk G) :: rest) :=
  fun p e s m args below meth c ok C9 H locs ls hP hS hl => vk_getf C9.1 C9.2.1 ((sj_Kt_of C9.2.2.2.2.2.2.2.2).1.1 0 (by decide)).2.2.1 hS C9.2.2.2.1 (C9.2.2.2.2.1 _ hlink) (fun _ hx => hx) hd (k p e s m args below meth c ok C9 H locs ls hP hS hl)
theorem sj_tlen (hd : decode (sj_cc M) pc = .ok (.arraylength, 1)) (k : sj_J G d M R (pc + 1) L σ (.int (nI 5) :: rest)) : sj_J G d M R pc L σ (.ref (sj_tv G) :: rest) :=
  fun p e s m args below meth c ok C9 H locs ls hP hS hl => va_tlen C9.1 C9.2.1 ((sj_Kt_of C9.2.2.2.2.2.2.2.2).1.1 0 (by decide)).2.2.2 hS rfl hd (k p e s m args below meth c ok C9 H locs ls hP hS hl)
theorem sj_tbald {j : Nat} (hj : j < 5) (hd : decode (sj_cc M) pc = .ok (.baload, 1)) (k : sj_J G d M R (pc + 1) L σ (.int (([109, 116, 119, 104, 102] : List Int32).getD j 0) :: rest)) : sj_J G d M R pc L σ (.int (nI j) :: .ref (sj_tv G) :: rest) :=
  fun p e s m args below meth c ok C9 H locs ls hP hS hl => va_tb C9.1 C9.2.1 ((sj_Kt_of C9.2.2.2.2.2.2.2.2).1.1 0 (by decide)).2.2.2 hS (z_in hj (by decide)) (by show Value.int (([109, 116, 119, 104, 102] : List Int32).getD (nI j).toNatClampNeg 0) = _; rw [nI_clamp (by omega)]) hd (k p e s m args below meth c ok C9 H locs ls hP hS hl)
theorem sj_ldcT (hd : decode (sj_cc M) pc = .ok (.ldc 64, 2)) (ho : sj_own M = RX9) (k : sj_J G d M R (pc + 2) L σ (.ref (sj_tk G) :: rest)) : sj_J G d M R pc L σ rest :=
  fun p e s m args below meth c ok C9 H locs ls hP hS hl => va_ldcS C9.1 C9.2.1 (own := RX9) (tx := "mtwhf") (by rw [← ho]; exact C9.2.2.2.1) (sj_Kt_of C9.2.2.2.2.2.2.2.2).2.1 hd (k p e s m args below meth c ok C9 H locs ls hP hS hl)
theorem sj_callTi {M' : sj_M} {d' idx : Nat} {As : List Value} {ws' : List Cond} {v : Int32} {σ1 : sj_S} {ty : FieldType} (hd : decode (sj_cc M) pc = .ok (.invokevirtual idx, 3)) (hg : GoodIn (sj_ws M) (wsV (sj_own M) idx (sj_own M') (sj_y M') (sj_ws M'))) (hw : sj_ws M' = Cond.code (sj_y M') (sj_cc M') (sj_nL M') (sj_rt M') :: ws') (hh : sj_hd M' As.length = true) (hbc : sj_own M' = "java/lang/String") (hrs : (rest.map fun v => v.category).sum ≤ 8) (hdd : d' + 1 ≤ d) (hrt : sj_rt M' = some ty) (hc : sj_C G d' M' (.ref (sj_tk G) :: As) σ (.ok v, σ1)) (k : sj_J G d M R (pc + 3) L σ1 (.int v :: rest)) : sj_J G d M R pc L σ (As.reverse ++ .ref (sj_tk G) :: rest) := by
  intro p e s m args below meth c ok C H locs ls hP hS hl
  unfold sj_hd at hh
  simp only [Bool.and_eq_true, decide_eq_true_eq] at hh
  have hr : vx_Run p (sj_l G) e (sj_rm d R) s m args below meth c H locs 0 0 (sj_mc ((.ok v, σ1) : sj_R)) (sj_ms ((.ok v, σ1) : sj_R)) (F0 m pc ls (As.reverse ++ .ref (sj_tk G) :: rest)) rest (sj_Q G (sj_rt M') ((.ok v, σ1) : sj_R) (Value.ref (sj_tk G) :: As).toArray) (sj_X G ((.ok v, σ1) : sj_R)) (sj_A G) := by
    refine vx_runV (rest := rest) ⟨C.1, C.2.1, C.2.2.1, C.2.2.2.1, C.2.2.2.2.1⟩ hc (cwV As.length C.2.2.2.2.1 hg hw rfl rfl ⟨hh.1.1.1.1, hh.1.1.1.2, hh.1.1.2, hh.1.2⟩ ⟨?_, ?_⟩) ⟨sj_blind, ?_, fun U hU hW => ⟨rfl, by unfold sj_B; rw [hU]; exact hP, sj_K_moved ok hW hS hU C.2.2.2.2.2.2.2.2⟩⟩ rfl rfl hl.1 rfl (lv_room hrs) hd ⟨?_, ?_⟩
    · exact hdd
    · show 8 + (sj_nL M' + 11) + 64 * d' ≤ 64 * d
      have := hh.2
      omega
    · have h9 := vk_recv (sj_Kt_of C.2.2.2.2.2.2.2.2).1 (i := 0) (by decide) hS
      rw [hbc]
      exact h9
    · exact Nat.zero_le _
    · exact Nat.zero_le _
  rw [hrt] at hr
  refine vx_calli (a := (Value.ref (sj_tk G) :: As).toArray) hr hS (fun q _ h => h) (fun q h => h) (fun q _ h => h) (fun E ce q9 u t H1 locs1 ht hvm hpx hBX hz hk hS1 hce hcv hcl => ?_) (fun r u t H1 locs1 ht hvm hpost hB hz hk hS1 => ?_)
  · obtain ⟨k9, h9, -⟩ := hBX
    cases h9
  · cases hpost
    exact k p e s m args below meth c ok C H1 locs1 ls (by rw [← ht]; exact hB) hS1 hl
abbrev me_J3_ci : sj_M := (yJ3_checkIndex_8e157, RJ3, cJ3_checkIndex_8e157, 3, wsJ3_checkIndex_8e157, some .int)
abbrev me_J0_ci : sj_M := (yJ0_checkIndex_df160, RJ0, cJ0_checkIndex_df160, 2, wsJ0_checkIndex_df160, none)
abbrev me_J1_ca : sj_M := (yJ1_charAt_3b067, RJ1, cJ1_charAt_3b067, 2, wsJ1_charAt_3b067, some .char)
abbrev me_J0_l1 : sj_M := (yJ0_isLatin1_aae02, RJ0, cJ0_isLatin1_aae02, 1, wsJ0_isLatin1_aae02, some .boolean)
abbrev me_J0_ca : sj_M := (yJ0_charAt_5068e, RJ0, cJ0_charAt_5068e, 2, wsJ0_charAt_5068e, some .char)
theorem hd_J3_ci : sj_hd me_J3_ci 3 = true := by decide +kernel
theorem hd_J0_ci : sj_hd me_J0_ci 2 = true := by decide +kernel
theorem hd_J1_ca : sj_hd me_J1_ca 2 = true := by decide +kernel
theorem hd_J0_l1 : sj_hd me_J0_l1 0 = true := by decide +kernel
theorem hd_J0_ca : sj_hd me_J0_ca 1 = true := by decide +kernel
theorem c_J3_ci (ok : sj_ok G) {i n : Nat} (hi : i < n) (hn : n < 2 ^ 31) {v : Value} (hv : v.category = 1) : sj_C G 2 me_J3_ci [.int (nI i), .int (nI n), v] σ (.ok (nI i), σ) := by
  refine sj_enterF ok (by decide +kernel) rfl rfl (Nat.le_of_ble_eq_true rfl) (by
    intro w hw
    rcases List.mem_cons.mp hw with h | h
    · rw [h]; rfl
    · rcases List.mem_cons.mp h with h | h
      · rw [h]; rfl
      · rcases List.mem_cons.mp h with h | h
        · rw [h]; exact hv
        · cases h) ?_
  refine sj_iload_n dJ3_checkIndex_8e157_0 (i := 0) rfl rfl ?_
  refine sj_if_lt (tgt := 9) dJ3_checkIndex_8e157_1 (by decide) (fun q => absurd q (nI_pos (by omega))) (fun _ => ?_)
  refine sj_iload_n dJ3_checkIndex_8e157_4 (i := 0) rfl rfl ?_
  refine sj_iload_n dJ3_checkIndex_8e157_5 (i := 1) rfl rfl ?_
  refine sj_icmp_lt (tgt := 16) dJ3_checkIndex_8e157_6 (by decide) (fun _ => ?_) (fun q => absurd (nI_lt hi hn) q)
  refine sj_iload_n dJ3_checkIndex_8e157_16 (i := 0) rfl rfl ?_
  exact sj_ret dJ3_checkIndex_8e157_17 rfl rfl
theorem c_J0_ci (ok : sj_ok G) {i n : Nat} (hi : i < n) (hn : n < 2 ^ 31) : sj_C G 3 me_J0_ci [.int (nI i), .int (nI n)] σ (.ok 0, σ) := by
  refine sj_enterF ok (by decide +kernel) rfl rfl (Nat.le_of_ble_eq_true rfl) (by simp [Value.category]) ?_
  refine sj_iload_n dJ0_checkIndex_df160_0 (i := 0) rfl rfl ?_
  refine sj_iload_n dJ0_checkIndex_df160_1 (i := 1) rfl rfl ?_
  refine sj_gsq (C := "jdk/internal/util/Preconditions") (n := "SIOOBE_FORMATTER") (t := "Ljava/util/function/BiFunction;") dJ0_checkIndex_df160_2 (fun s h => (sj_Kt_of h).2.2.2) (by decide +kernel) (fun v hv => ?_)
  refine sj_callSi (M' := me_J3_ci) (As := [.int (nI i), .int (nI n), v]) (rest := []) dJ0_checkIndex_df160_5 gJ0_checkIndex_df160_J3_checkIndex_8e157 rfl hd_J3_ci (Nat.le_of_ble_eq_true rfl) (by omega) rfl (c_J3_ci ok hi hn hv) ?_
  refine sj_pop dJ0_checkIndex_df160_8 rfl ?_
  exact sj_vret dJ0_checkIndex_df160_9 rfl
def zLet (d : Nat) : Nat := if d = 0 then 109 else if d = 1 then 116 else if d = 2 then 119 else if d = 3 then 104 else 102
theorem zLet_v {j : Nat} (hj : j < 5) : (((([109, 116, 119, 104, 102] : List Int32).getD j 0) &&& nI 255).toUInt32 % 65536).toInt32 = nI (zLet j) := by
  rcases (by omega : j = 0 ∨ j = 1 ∨ j = 2 ∨ j = 3 ∨ j = 4) with e | e | e | e | e <;> subst e <;> decide
theorem zLet_n {j : Nat} (hj : j < 5) : narrow .char (.int (nI (zLet j))) = .int (nI (zLet j)) := by
  rcases (by omega : j = 0 ∨ j = 1 ∨ j = 2 ∨ j = 3 ∨ j = 4) with e | e | e | e | e <;> subst e <;> rfl
theorem c_J1_ca (ok : sj_ok G) {j : Nat} (hj : j < 5) : sj_C G 4 me_J1_ca [.ref (sj_tv G), .int (nI j)] σ (.ok (nI (zLet j)), σ) := by
  refine sj_enterF ok (by decide +kernel) rfl rfl (Nat.le_of_ble_eq_true rfl) (by simp [Value.category]) ?_
  refine sj_iload_n dJ1_charAt_3b067_0 (i := 1) rfl rfl ?_
  refine sj_aload_n dJ1_charAt_3b067_1 (i := 0) rfl rfl ?_
  refine sj_tlen dJ1_charAt_3b067_2 ?_
  refine sj_callSv (M' := me_J0_ci) (As := [.int (nI j), .int (nI 5)]) (rest := []) dJ1_charAt_3b067_3 gJ1_charAt_3b067_J0_checkIndex_df160 rfl hd_J0_ci (Nat.le_of_ble_eq_true rfl) (by omega) rfl (c_J0_ci ok hj (by decide)) ?_
  refine sj_aload_n dJ1_charAt_3b067_6 (i := 0) rfl rfl ?_
  refine sj_iload_n dJ1_charAt_3b067_7 (i := 1) rfl rfl ?_
  refine sj_tbald hj dJ1_charAt_3b067_8 ?_
  refine sj_sipush (v := nI 255) dJ1_charAt_3b067_9 (by decide +kernel) ?_
  refine sj_iand dJ1_charAt_3b067_12 ?_
  refine sj_i2c dJ1_charAt_3b067_13 ?_
  rw [zLet_v hj]
  exact sj_ret dJ1_charAt_3b067_14 rfl (zLet_n hj)
theorem c_J0_l1 (ok : sj_ok G) : sj_C G 2 me_J0_l1 [.ref (sj_tk G)] σ (.ok (nI 1), σ) := by
  refine sj_enterF ok (by decide +kernel) rfl rfl (Nat.le_of_ble_eq_true rfl) (by simp [Value.category]) ?_
  refine sj_gs (C := "java/lang/String") (n := "COMPACT_STRINGS") (t := "Z") (v := .int 1) dJ0_isLatin1_aae02_0 (fun s h => (sj_Kt_of h).2.2.1) (by decide +kernel) ?_
  refine sj_if_eq (tgt := 17) dJ0_isLatin1_aae02_3 (by decide) (fun q => absurd q (by decide)) (fun _ => ?_)
  refine sj_aload_n dJ0_isLatin1_aae02_6 (i := 0) rfl rfl ?_
  refine sj_tcoder dJ0_isLatin1_aae02_7 (by decide +kernel) ?_
  refine sj_if_ne (tgt := 17) dJ0_isLatin1_aae02_10 (by decide) (fun q => absurd rfl q) (fun _ => ?_)
  refine sj_iconst (v := nI 1) dJ0_isLatin1_aae02_13 (by decide) ?_
  refine sj_goto (tgt := 18) dJ0_isLatin1_aae02_14 (by decide) ?_
  exact sj_ret dJ0_isLatin1_aae02_18 rfl rfl
theorem c_J0_ca (ok : sj_ok G) {j : Nat} (hj : j < 5) : sj_C G 6 me_J0_ca [.ref (sj_tk G), .int (nI j)] σ (.ok (nI (zLet j)), σ) := by
  refine sj_enterF ok (by decide +kernel) rfl rfl (Nat.le_of_ble_eq_true rfl) (by simp [Value.category]) ?_
  refine sj_aload_n dJ0_charAt_5068e_0 (i := 0) rfl rfl ?_
  refine sj_callTi (M' := me_J0_l1) (As := []) (rest := []) dJ0_charAt_5068e_1 gJ0_charAt_5068e_J0_isLatin1_aae02 rfl hd_J0_l1 rfl (Nat.le_of_ble_eq_true rfl) (by omega) rfl (c_J0_l1 ok) ?_
  refine sj_if_eq (tgt := 16) dJ0_charAt_5068e_4 (by decide) (fun q => absurd q (by decide)) (fun _ => ?_)
  refine sj_aload_n dJ0_charAt_5068e_7 (i := 0) rfl rfl ?_
  refine sj_tvalue dJ0_charAt_5068e_8 (by decide +kernel) ?_
  refine sj_iload_n dJ0_charAt_5068e_11 (i := 1) rfl rfl ?_
  refine sj_callSi (M' := me_J1_ca) (As := [.ref (sj_tv G), .int (nI j)]) (rest := []) dJ0_charAt_5068e_12 gJ0_charAt_5068e_J1_charAt_3b067 rfl hd_J1_ca (Nat.le_of_ble_eq_true rfl) (by omega) rfl (c_J1_ca ok hj) ?_
  exact sj_ret dJ0_charAt_5068e_15 rfl (zLet_n hj)
theorem z_letterOfDay (ok : sj_ok G) {j : Nat} (hj : j < 5) : sj_C G 7 me_X9_letterOfDay [.ref (sj_ad G 52), .int (nI j)] σ (.ok (nI (zLet j)), σ) := by
  refine sj_enter ok (by decide +kernel) rfl rfl (Nat.le_of_ble_eq_true rfl) (by simp [Value.category]) ?_
  refine sj_ldcT dX9_letterOfDay_0 rfl ?_
  refine sj_iload_n dX9_letterOfDay_2 (i := 1) rfl rfl ?_
  refine sj_callTi (M' := me_J0_ca) (As := [.int (nI j)]) (rest := []) dX9_letterOfDay_3 gX9_letterOfDay_J0_charAt_5068e rfl hd_J0_ca rfl (Nat.le_of_ble_eq_true rfl) (by omega) rfl (c_J0_ca ok hj) ?_
  exact sj_ret dX9_letterOfDay_6 rfl (zLet_n hj)
end ZLE
