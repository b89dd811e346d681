abbrev me_X0_init : sj_M := (yX0_init, RX0, cX0_init, 2, wsX0_init, none)
abbrev me_X1_init : sj_M := (yX1_init, RX1, cX1_init, 1, wsX1_init, none)
abbrev me_X2_init : sj_M := (yX2_init, RX2, cX2_init, 1, wsX2_init, none)
abbrev me_X3_init : sj_M := (yX3_init, RX3, cX3_init, 1, wsX3_init, none)
abbrev me_X4_init : sj_M := (yX4_init, RX4, cX4_init, 1, wsX4_init, none)
abbrev me_X5_init : sj_M := (yX5_init, RX5, cX5_init, 1, wsX5_init, none)
abbrev me_X6_init : sj_M := (yX6_init, RX6, cX6_init, 1, wsX6_init, none)
abbrev me_X7_init : sj_M := (yX7_init, RX7, cX7_init, 1, wsX7_init, none)
abbrev me_X8_init : sj_M := (yX8_init, RX8, cX8_init, 2, wsX8_init, none)
abbrev me_X9_init : sj_M := (yX9_init, RX9, cX9_init, 1, wsX9_init, none)
abbrev me_X10_init : sj_M := (yX10_init, RX10, cX10_init, 1, wsX10_init, none)
abbrev me_X11_init : sj_M := (yX11_init, RX11, cX11_init, 1, wsX11_init, none)
section KJC
variable {l : Launch} {D : va_G} {cs : Nat → ClassId}
set_option maxRecDepth 20000 in
set_option maxHeartbeats 1000000 in
theorem k_X5_init : kj_C l D cs me_X5_init 2 1 2560 4 2 4 zInit := by
  refine kj_enter (by decide +kernel) rfl rfl rfl rfl (Nat.le_of_ble_eq_true rfl) (fun h0 p e s m args below meth c hin => ?_)
  show kj_J l D cs _ _ p e s m args below meth c _ _ 0 0 [(h0, .inr (5, [.null, .int 0, .int 0]))] 0 [.ref h0] []
  refine kj_aload_n dX5_init_0 (i := 0) rfl rfl ?_
  refine kj_objInit dX5_init_1 (by decide +kernel) (by decide +kernel) (by decide +kernel) ⟨Nat.le_of_ble_eq_true rfl, Nat.le_of_ble_eq_true rfl⟩ ?_
  refine kj_aload_n dX5_init_4 (i := 0) rfl rfl ?_
  refine kj_sipush (v := (nI 2560)) dX5_init_5 (by decide +kernel) ?_
  refine kj_newa (t0 := 0) (kk := 13) (N := 2560) dX5_init_8 (by decide +kernel) rfl rfl (by decide +kernel) (by decide +kernel) (Nat.le_of_ble_eq_true rfl) (Nat.le_of_ble_eq_true rfl) (Nat.le_of_ble_eq_true rfl) (fun q0 => ?_)
  show kj_J l D cs _ _ p e s m args below meth c _ _ 1 2560 [(h0, .inr (5, [.null, .int 0, .int 0])), (q0, .inl (cs 13, 2560, .inl (fun _ => 0)))] 10 [.ref h0] [.ref q0, .ref h0]
  refine kj_putF (ci := 5) (k9 := 0) (ty := .array .int) hin dX5_init_10 rfl (by decide +kernel) (by decide +kernel) rfl rfl (by decide +kernel) rfl rfl (Nat.le_of_ble_eq_true rfl) rfl ?_
  show kj_J l D cs _ _ p e s m args below meth c _ _ 1 2560 [(h0, .inr (5, [.ref q0, .int 0, .int 0])), (q0, .inl (cs 13, 2560, .inl (fun _ => 0)))] 13 [.ref h0] []
  exact kj_ret (ad := kj_ad 4 [h0, q0]) (b := 4) (n := 2) (r := 4) dX5_init_13 rfl rfl rfl (fun _ h => h) (fun h => h) (Nat.le_of_ble_eq_true rfl) (Nat.le_of_ble_eq_true rfl)
set_option maxRecDepth 20000 in
set_option maxHeartbeats 1000000 in
theorem k_X7_init : kj_C l D cs me_X7_init 2 11 99 6 12 6 zInit := by
  refine kj_enter (by decide +kernel) rfl rfl rfl rfl (Nat.le_of_ble_eq_true rfl) (fun h0 p e s m args below meth c hin => ?_)
  show kj_J l D cs _ _ p e s m args below meth c _ _ 0 0 [(h0, .inr (7, [.int 0, .null, .null, .null, .null, .null, .null, .null, .null, .null, .null, .null]))] 0 [.ref h0] []
  refine kj_aload_n dX7_init_0 (i := 0) rfl rfl ?_
  refine kj_objInit dX7_init_1 (by decide +kernel) (by decide +kernel) (by decide +kernel) ⟨Nat.le_of_ble_eq_true rfl, Nat.le_of_ble_eq_true rfl⟩ ?_
  refine kj_aload_n dX7_init_4 (i := 0) rfl rfl ?_
  refine kj_bipush (v := (nI 9)) dX7_init_5 (by decide +kernel) ?_
  refine kj_newa (t0 := 0) (kk := 13) (N := 9) dX7_init_7 (by decide +kernel) rfl rfl (by decide +kernel) (by decide +kernel) (Nat.le_of_ble_eq_true rfl) (Nat.le_of_ble_eq_true rfl) (Nat.le_of_ble_eq_true rfl) (fun q0 => ?_)
  show kj_J l D cs _ _ p e s m args below meth c _ _ 1 9 [(h0, .inr (7, [.int 0, .null, .null, .null, .null, .null, .null, .null, .null, .null, .null, .null])), (q0, .inl (cs 13, 9, .inl (fun _ => 0)))] 9 [.ref h0] [.ref q0, .ref h0]
  refine kj_putF (ci := 7) (k9 := 1) (ty := .array .int) hin dX7_init_9 rfl (by decide +kernel) (by decide +kernel) rfl rfl (by decide +kernel) rfl rfl (Nat.le_of_ble_eq_true rfl) rfl ?_
  show kj_J l D cs _ _ p e s m args below meth c _ _ 1 9 [(h0, .inr (7, [.int 0, .ref q0, .null, .null, .null, .null, .null, .null, .null, .null, .null, .null])), (q0, .inl (cs 13, 9, .inl (fun _ => 0)))] 12 [.ref h0] []
  refine kj_aload_n dX7_init_12 (i := 0) rfl rfl ?_
  refine kj_bipush (v := (nI 9)) dX7_init_13 (by decide +kernel) ?_
  refine kj_newa (t0 := 0) (kk := 13) (N := 9) dX7_init_15 (by decide +kernel) rfl rfl (by decide +kernel) (by decide +kernel) (Nat.le_of_ble_eq_true rfl) (Nat.le_of_ble_eq_true rfl) (Nat.le_of_ble_eq_true rfl) (fun q1 => ?_)
  show kj_J l D cs _ _ p e s m args below meth c _ _ 2 18 [(h0, .inr (7, [.int 0, .ref q0, .null, .null, .null, .null, .null, .null, .null, .null, .null, .null])), (q0, .inl (cs 13, 9, .inl (fun _ => 0))), (q1, .inl (cs 13, 9, .inl (fun _ => 0)))] 17 [.ref h0] [.ref q1, .ref h0]
  refine kj_putF (ci := 7) (k9 := 2) (ty := .array .int) hin dX7_init_17 rfl (by decide +kernel) (by decide +kernel) rfl rfl (by decide +kernel) rfl rfl (Nat.le_of_ble_eq_true rfl) rfl ?_
  show kj_J l D cs _ _ p e s m args below meth c _ _ 2 18 [(h0, .inr (7, [.int 0, .ref q0, .ref q1, .null, .null, .null, .null, .null, .null, .null, .null, .null])), (q0, .inl (cs 13, 9, .inl (fun _ => 0))), (q1, .inl (cs 13, 9, .inl (fun _ => 0)))] 20 [.ref h0] []
  refine kj_aload_n dX7_init_20 (i := 0) rfl rfl ?_
  refine kj_bipush (v := (nI 9)) dX7_init_21 (by decide +kernel) ?_
  refine kj_newa (t0 := 0) (kk := 13) (N := 9) dX7_init_23 (by decide +kernel) rfl rfl (by decide +kernel) (by decide +kernel) (Nat.le_of_ble_eq_true rfl) (Nat.le_of_ble_eq_true rfl) (Nat.le_of_ble_eq_true rfl) (fun q2 => ?_)
  show kj_J l D cs _ _ p e s m args below meth c _ _ 3 27 [(h0, .inr (7, [.int 0, .ref q0, .ref q1, .null, .null, .null, .null, .null, .null, .null, .null, .null])), (q0, .inl (cs 13, 9, .inl (fun _ => 0))), (q1, .inl (cs 13, 9, .inl (fun _ => 0))), (q2, .inl (cs 13, 9, .inl (fun _ => 0)))] 25 [.ref h0] [.ref q2, .ref h0]
  refine kj_putF (ci := 7) (k9 := 3) (ty := .array .int) hin dX7_init_25 rfl (by decide +kernel) (by decide +kernel) rfl rfl (by decide +kernel) rfl rfl (Nat.le_of_ble_eq_true rfl) rfl ?_
  show kj_J l D cs _ _ p e s m args below meth c _ _ 3 27 [(h0, .inr (7, [.int 0, .ref q0, .ref q1, .ref q2, .null, .null, .null, .null, .null, .null, .null, .null])), (q0, .inl (cs 13, 9, .inl (fun _ => 0))), (q1, .inl (cs 13, 9, .inl (fun _ => 0))), (q2, .inl (cs 13, 9, .inl (fun _ => 0)))] 28 [.ref h0] []
  refine kj_aload_n dX7_init_28 (i := 0) rfl rfl ?_
  refine kj_bipush (v := (nI 9)) dX7_init_29 (by decide +kernel) ?_
  refine kj_newa (t0 := 0) (kk := 13) (N := 9) dX7_init_31 (by decide +kernel) rfl rfl (by decide +kernel) (by decide +kernel) (Nat.le_of_ble_eq_true rfl) (Nat.le_of_ble_eq_true rfl) (Nat.le_of_ble_eq_true rfl) (fun q3 => ?_)
  show kj_J l D cs _ _ p e s m args below meth c _ _ 4 36 [(h0, .inr (7, [.int 0, .ref q0, .ref q1, .ref q2, .null, .null, .null, .null, .null, .null, .null, .null])), (q0, .inl (cs 13, 9, .inl (fun _ => 0))), (q1, .inl (cs 13, 9, .inl (fun _ => 0))), (q2, .inl (cs 13, 9, .inl (fun _ => 0))), (q3, .inl (cs 13, 9, .inl (fun _ => 0)))] 33 [.ref h0] [.ref q3, .ref h0]
  refine kj_putF (ci := 7) (k9 := 4) (ty := .array .int) hin dX7_init_33 rfl (by decide +kernel) (by decide +kernel) rfl rfl (by decide +kernel) rfl rfl (Nat.le_of_ble_eq_true rfl) rfl ?_
  show kj_J l D cs _ _ p e s m args below meth c _ _ 4 36 [(h0, .inr (7, [.int 0, .ref q0, .ref q1, .ref q2, .ref q3, .null, .null, .null, .null, .null, .null, .null])), (q0, .inl (cs 13, 9, .inl (fun _ => 0))), (q1, .inl (cs 13, 9, .inl (fun _ => 0))), (q2, .inl (cs 13, 9, .inl (fun _ => 0))), (q3, .inl (cs 13, 9, .inl (fun _ => 0)))] 36 [.ref h0] []
  refine kj_aload_n dX7_init_36 (i := 0) rfl rfl ?_
  refine kj_bipush (v := (nI 9)) dX7_init_37 (by decide +kernel) ?_
  refine kj_newa (t0 := 0) (kk := 13) (N := 9) dX7_init_39 (by decide +kernel) rfl rfl (by decide +kernel) (by decide +kernel) (Nat.le_of_ble_eq_true rfl) (Nat.le_of_ble_eq_true rfl) (Nat.le_of_ble_eq_true rfl) (fun q4 => ?_)
  show kj_J l D cs _ _ p e s m args below meth c _ _ 5 45 [(h0, .inr (7, [.int 0, .ref q0, .ref q1, .ref q2, .ref q3, .null, .null, .null, .null, .null, .null, .null])), (q0, .inl (cs 13, 9, .inl (fun _ => 0))), (q1, .inl (cs 13, 9, .inl (fun _ => 0))), (q2, .inl (cs 13, 9, .inl (fun _ => 0))), (q3, .inl (cs 13, 9, .inl (fun _ => 0))), (q4, .inl (cs 13, 9, .inl (fun _ => 0)))] 41 [.ref h0] [.ref q4, .ref h0]
  refine kj_putF (ci := 7) (k9 := 5) (ty := .array .int) hin dX7_init_41 rfl (by decide +kernel) (by decide +kernel) rfl rfl (by decide +kernel) rfl rfl (Nat.le_of_ble_eq_true rfl) rfl ?_
  show kj_J l D cs _ _ p e s m args below meth c _ _ 5 45 [(h0, .inr (7, [.int 0, .ref q0, .ref q1, .ref q2, .ref q3, .ref q4, .null, .null, .null, .null, .null, .null])), (q0, .inl (cs 13, 9, .inl (fun _ => 0))), (q1, .inl (cs 13, 9, .inl (fun _ => 0))), (q2, .inl (cs 13, 9, .inl (fun _ => 0))), (q3, .inl (cs 13, 9, .inl (fun _ => 0))), (q4, .inl (cs 13, 9, .inl (fun _ => 0)))] 44 [.ref h0] []
  refine kj_aload_n dX7_init_44 (i := 0) rfl rfl ?_
  refine kj_bipush (v := (nI 9)) dX7_init_45 (by decide +kernel) ?_
  refine kj_newa (t0 := 0) (kk := 13) (N := 9) dX7_init_47 (by decide +kernel) rfl rfl (by decide +kernel) (by decide +kernel) (Nat.le_of_ble_eq_true rfl) (Nat.le_of_ble_eq_true rfl) (Nat.le_of_ble_eq_true rfl) (fun q5 => ?_)
  show kj_J l D cs _ _ p e s m args below meth c _ _ 6 54 [(h0, .inr (7, [.int 0, .ref q0, .ref q1, .ref q2, .ref q3, .ref q4, .null, .null, .null, .null, .null, .null])), (q0, .inl (cs 13, 9, .inl (fun _ => 0))), (q1, .inl (cs 13, 9, .inl (fun _ => 0))), (q2, .inl (cs 13, 9, .inl (fun _ => 0))), (q3, .inl (cs 13, 9, .inl (fun _ => 0))), (q4, .inl (cs 13, 9, .inl (fun _ => 0))), (q5, .inl (cs 13, 9, .inl (fun _ => 0)))] 49 [.ref h0] [.ref q5, .ref h0]
  refine kj_putF (ci := 7) (k9 := 6) (ty := .array .int) hin dX7_init_49 rfl (by decide +kernel) (by decide +kernel) rfl rfl (by decide +kernel) rfl rfl (Nat.le_of_ble_eq_true rfl) rfl ?_
  show kj_J l D cs _ _ p e s m args below meth c _ _ 6 54 [(h0, .inr (7, [.int 0, .ref q0, .ref q1, .ref q2, .ref q3, .ref q4, .ref q5, .null, .null, .null, .null, .null])), (q0, .inl (cs 13, 9, .inl (fun _ => 0))), (q1, .inl (cs 13, 9, .inl (fun _ => 0))), (q2, .inl (cs 13, 9, .inl (fun _ => 0))), (q3, .inl (cs 13, 9, .inl (fun _ => 0))), (q4, .inl (cs 13, 9, .inl (fun _ => 0))), (q5, .inl (cs 13, 9, .inl (fun _ => 0)))] 52 [.ref h0] []
  refine kj_aload_n dX7_init_52 (i := 0) rfl rfl ?_
  refine kj_bipush (v := (nI 9)) dX7_init_53 (by decide +kernel) ?_
  refine kj_newa (t0 := 0) (kk := 13) (N := 9) dX7_init_55 (by decide +kernel) rfl rfl (by decide +kernel) (by decide +kernel) (Nat.le_of_ble_eq_true rfl) (Nat.le_of_ble_eq_true rfl) (Nat.le_of_ble_eq_true rfl) (fun q6 => ?_)
  show kj_J l D cs _ _ p e s m args below meth c _ _ 7 63 [(h0, .inr (7, [.int 0, .ref q0, .ref q1, .ref q2, .ref q3, .ref q4, .ref q5, .null, .null, .null, .null, .null])), (q0, .inl (cs 13, 9, .inl (fun _ => 0))), (q1, .inl (cs 13, 9, .inl (fun _ => 0))), (q2, .inl (cs 13, 9, .inl (fun _ => 0))), (q3, .inl (cs 13, 9, .inl (fun _ => 0))), (q4, .inl (cs 13, 9, .inl (fun _ => 0))), (q5, .inl (cs 13, 9, .inl (fun _ => 0))), (q6, .inl (cs 13, 9, .inl (fun _ => 0)))] 57 [.ref h0] [.ref q6, .ref h0]
  refine kj_putF (ci := 7) (k9 := 7) (ty := .array .int) hin dX7_init_57 rfl (by decide +kernel) (by decide +kernel) rfl rfl (by decide +kernel) rfl rfl (Nat.le_of_ble_eq_true rfl) rfl ?_
  show kj_J l D cs _ _ p e s m args below meth c _ _ 7 63 [(h0, .inr (7, [.int 0, .ref q0, .ref q1, .ref q2, .ref q3, .ref q4, .ref q5, .ref q6, .null, .null, .null, .null])), (q0, .inl (cs 13, 9, .inl (fun _ => 0))), (q1, .inl (cs 13, 9, .inl (fun _ => 0))), (q2, .inl (cs 13, 9, .inl (fun _ => 0))), (q3, .inl (cs 13, 9, .inl (fun _ => 0))), (q4, .inl (cs 13, 9, .inl (fun _ => 0))), (q5, .inl (cs 13, 9, .inl (fun _ => 0))), (q6, .inl (cs 13, 9, .inl (fun _ => 0)))] 60 [.ref h0] []
  refine kj_aload_n dX7_init_60 (i := 0) rfl rfl ?_
  refine kj_bipush (v := (nI 9)) dX7_init_61 (by decide +kernel) ?_
  refine kj_newa (t0 := 0) (kk := 13) (N := 9) dX7_init_63 (by decide +kernel) rfl rfl (by decide +kernel) (by decide +kernel) (Nat.le_of_ble_eq_true rfl) (Nat.le_of_ble_eq_true rfl) (Nat.le_of_ble_eq_true rfl) (fun q7 => ?_)
  show kj_J l D cs _ _ p e s m args below meth c _ _ 8 72 [(h0, .inr (7, [.int 0, .ref q0, .ref q1, .ref q2, .ref q3, .ref q4, .ref q5, .ref q6, .null, .null, .null, .null])), (q0, .inl (cs 13, 9, .inl (fun _ => 0))), (q1, .inl (cs 13, 9, .inl (fun _ => 0))), (q2, .inl (cs 13, 9, .inl (fun _ => 0))), (q3, .inl (cs 13, 9, .inl (fun _ => 0))), (q4, .inl (cs 13, 9, .inl (fun _ => 0))), (q5, .inl (cs 13, 9, .inl (fun _ => 0))), (q6, .inl (cs 13, 9, .inl (fun _ => 0))), (q7, .inl (cs 13, 9, .inl (fun _ => 0)))] 65 [.ref h0] [.ref q7, .ref h0]
  refine kj_putF (ci := 7) (k9 := 8) (ty := .array .int) hin dX7_init_65 rfl (by decide +kernel) (by decide +kernel) rfl rfl (by decide +kernel) rfl rfl (Nat.le_of_ble_eq_true rfl) rfl ?_
  show kj_J l D cs _ _ p e s m args below meth c _ _ 8 72 [(h0, .inr (7, [.int 0, .ref q0, .ref q1, .ref q2, .ref q3, .ref q4, .ref q5, .ref q6, .ref q7, .null, .null, .null])), (q0, .inl (cs 13, 9, .inl (fun _ => 0))), (q1, .inl (cs 13, 9, .inl (fun _ => 0))), (q2, .inl (cs 13, 9, .inl (fun _ => 0))), (q3, .inl (cs 13, 9, .inl (fun _ => 0))), (q4, .inl (cs 13, 9, .inl (fun _ => 0))), (q5, .inl (cs 13, 9, .inl (fun _ => 0))), (q6, .inl (cs 13, 9, .inl (fun _ => 0))), (q7, .inl (cs 13, 9, .inl (fun _ => 0)))] 68 [.ref h0] []
  refine kj_aload_n dX7_init_68 (i := 0) rfl rfl ?_
  refine kj_bipush (v := (nI 9)) dX7_init_69 (by decide +kernel) ?_
  refine kj_newa (t0 := 0) (kk := 13) (N := 9) dX7_init_71 (by decide +kernel) rfl rfl (by decide +kernel) (by decide +kernel) (Nat.le_of_ble_eq_true rfl) (Nat.le_of_ble_eq_true rfl) (Nat.le_of_ble_eq_true rfl) (fun q8 => ?_)
  show kj_J l D cs _ _ p e s m args below meth c _ _ 9 81 [(h0, .inr (7, [.int 0, .ref q0, .ref q1, .ref q2, .ref q3, .ref q4, .ref q5, .ref q6, .ref q7, .null, .null, .null])), (q0, .inl (cs 13, 9, .inl (fun _ => 0))), (q1, .inl (cs 13, 9, .inl (fun _ => 0))), (q2, .inl (cs 13, 9, .inl (fun _ => 0))), (q3, .inl (cs 13, 9, .inl (fun _ => 0))), (q4, .inl (cs 13, 9, .inl (fun _ => 0))), (q5, .inl (cs 13, 9, .inl (fun _ => 0))), (q6, .inl (cs 13, 9, .inl (fun _ => 0))), (q7, .inl (cs 13, 9, .inl (fun _ => 0))), (q8, .inl (cs 13, 9, .inl (fun _ => 0)))] 73 [.ref h0] [.ref q8, .ref h0]
  refine kj_putF (ci := 7) (k9 := 9) (ty := .array .int) hin dX7_init_73 rfl (by decide +kernel) (by decide +kernel) rfl rfl (by decide +kernel) rfl rfl (Nat.le_of_ble_eq_true rfl) rfl ?_
  show kj_J l D cs _ _ p e s m args below meth c _ _ 9 81 [(h0, .inr (7, [.int 0, .ref q0, .ref q1, .ref q2, .ref q3, .ref q4, .ref q5, .ref q6, .ref q7, .ref q8, .null, .null])), (q0, .inl (cs 13, 9, .inl (fun _ => 0))), (q1, .inl (cs 13, 9, .inl (fun _ => 0))), (q2, .inl (cs 13, 9, .inl (fun _ => 0))), (q3, .inl (cs 13, 9, .inl (fun _ => 0))), (q4, .inl (cs 13, 9, .inl (fun _ => 0))), (q5, .inl (cs 13, 9, .inl (fun _ => 0))), (q6, .inl (cs 13, 9, .inl (fun _ => 0))), (q7, .inl (cs 13, 9, .inl (fun _ => 0))), (q8, .inl (cs 13, 9, .inl (fun _ => 0)))] 76 [.ref h0] []
  refine kj_aload_n dX7_init_76 (i := 0) rfl rfl ?_
  refine kj_bipush (v := (nI 9)) dX7_init_77 (by decide +kernel) ?_
  refine kj_newa (t0 := 0) (kk := 13) (N := 9) dX7_init_79 (by decide +kernel) rfl rfl (by decide +kernel) (by decide +kernel) (Nat.le_of_ble_eq_true rfl) (Nat.le_of_ble_eq_true rfl) (Nat.le_of_ble_eq_true rfl) (fun q9 => ?_)
  show kj_J l D cs _ _ p e s m args below meth c _ _ 10 90 [(h0, .inr (7, [.int 0, .ref q0, .ref q1, .ref q2, .ref q3, .ref q4, .ref q5, .ref q6, .ref q7, .ref q8, .null, .null])), (q0, .inl (cs 13, 9, .inl (fun _ => 0))), (q1, .inl (cs 13, 9, .inl (fun _ => 0))), (q2, .inl (cs 13, 9, .inl (fun _ => 0))), (q3, .inl (cs 13, 9, .inl (fun _ => 0))), (q4, .inl (cs 13, 9, .inl (fun _ => 0))), (q5, .inl (cs 13, 9, .inl (fun _ => 0))), (q6, .inl (cs 13, 9, .inl (fun _ => 0))), (q7, .inl (cs 13, 9, .inl (fun _ => 0))), (q8, .inl (cs 13, 9, .inl (fun _ => 0))), (q9, .inl (cs 13, 9, .inl (fun _ => 0)))] 81 [.ref h0] [.ref q9, .ref h0]
  refine kj_putF (ci := 7) (k9 := 10) (ty := .array .int) hin dX7_init_81 rfl (by decide +kernel) (by decide +kernel) rfl rfl (by decide +kernel) rfl rfl (Nat.le_of_ble_eq_true rfl) rfl ?_
  show kj_J l D cs _ _ p e s m args below meth c _ _ 10 90 [(h0, .inr (7, [.int 0, .ref q0, .ref q1, .ref q2, .ref q3, .ref q4, .ref q5, .ref q6, .ref q7, .ref q8, .ref q9, .null])), (q0, .inl (cs 13, 9, .inl (fun _ => 0))), (q1, .inl (cs 13, 9, .inl (fun _ => 0))), (q2, .inl (cs 13, 9, .inl (fun _ => 0))), (q3, .inl (cs 13, 9, .inl (fun _ => 0))), (q4, .inl (cs 13, 9, .inl (fun _ => 0))), (q5, .inl (cs 13, 9, .inl (fun _ => 0))), (q6, .inl (cs 13, 9, .inl (fun _ => 0))), (q7, .inl (cs 13, 9, .inl (fun _ => 0))), (q8, .inl (cs 13, 9, .inl (fun _ => 0))), (q9, .inl (cs 13, 9, .inl (fun _ => 0)))] 84 [.ref h0] []
  refine kj_aload_n dX7_init_84 (i := 0) rfl rfl ?_
  refine kj_bipush (v := (nI 9)) dX7_init_85 (by decide +kernel) ?_
  refine kj_newa (t0 := 0) (kk := 13) (N := 9) dX7_init_87 (by decide +kernel) rfl rfl (by decide +kernel) (by decide +kernel) (Nat.le_of_ble_eq_true rfl) (Nat.le_of_ble_eq_true rfl) (Nat.le_of_ble_eq_true rfl) (fun q10 => ?_)
  show kj_J l D cs _ _ p e s m args below meth c _ _ 11 99 [(h0, .inr (7, [.int 0, .ref q0, .ref q1, .ref q2, .ref q3, .ref q4, .ref q5, .ref q6, .ref q7, .ref q8, .ref q9, .null])), (q0, .inl (cs 13, 9, .inl (fun _ => 0))), (q1, .inl (cs 13, 9, .inl (fun _ => 0))), (q2, .inl (cs 13, 9, .inl (fun _ => 0))), (q3, .inl (cs 13, 9, .inl (fun _ => 0))), (q4, .inl (cs 13, 9, .inl (fun _ => 0))), (q5, .inl (cs 13, 9, .inl (fun _ => 0))), (q6, .inl (cs 13, 9, .inl (fun _ => 0))), (q7, .inl (cs 13, 9, .inl (fun _ => 0))), (q8, .inl (cs 13, 9, .inl (fun _ => 0))), (q9, .inl (cs 13, 9, .inl (fun _ => 0))), (q10, .inl (cs 13, 9, .inl (fun _ => 0)))] 89 [.ref h0] [.ref q10, .ref h0]
  refine kj_putF (ci := 7) (k9 := 11) (ty := .array .int) hin dX7_init_89 rfl (by decide +kernel) (by decide +kernel) rfl rfl (by decide +kernel) rfl rfl (Nat.le_of_ble_eq_true rfl) rfl ?_
  show kj_J l D cs _ _ p e s m args below meth c _ _ 11 99 [(h0, .inr (7, [.int 0, .ref q0, .ref q1, .ref q2, .ref q3, .ref q4, .ref q5, .ref q6, .ref q7, .ref q8, .ref q9, .ref q10])), (q0, .inl (cs 13, 9, .inl (fun _ => 0))), (q1, .inl (cs 13, 9, .inl (fun _ => 0))), (q2, .inl (cs 13, 9, .inl (fun _ => 0))), (q3, .inl (cs 13, 9, .inl (fun _ => 0))), (q4, .inl (cs 13, 9, .inl (fun _ => 0))), (q5, .inl (cs 13, 9, .inl (fun _ => 0))), (q6, .inl (cs 13, 9, .inl (fun _ => 0))), (q7, .inl (cs 13, 9, .inl (fun _ => 0))), (q8, .inl (cs 13, 9, .inl (fun _ => 0))), (q9, .inl (cs 13, 9, .inl (fun _ => 0))), (q10, .inl (cs 13, 9, .inl (fun _ => 0)))] 92 [.ref h0] []
  exact kj_ret (ad := kj_ad 6 [h0, q0, q1, q2, q3, q4, q5, q6, q7, q8, q9, q10]) (b := 6) (n := 12) (r := 6) dX7_init_92 rfl rfl rfl (fun _ h => h) (fun h => h) (Nat.le_of_ble_eq_true rfl) (Nat.le_of_ble_eq_true rfl)
set_option maxRecDepth 20000 in
set_option maxHeartbeats 1000000 in
theorem k_X6_init : kj_C l D cs me_X6_init 2 2 18 36 3 36 zInit := by
  refine kj_enter (by decide +kernel) rfl rfl rfl rfl (Nat.le_of_ble_eq_true rfl) (fun h0 p e s m args below meth c hin => ?_)
  show kj_J l D cs _ _ p e s m args below meth c _ _ 0 0 [(h0, .inr (6, [.null, .null, .int 0]))] 0 [.ref h0] []
  refine kj_aload_n dX6_init_0 (i := 0) rfl rfl ?_
  refine kj_objInit dX6_init_1 (by decide +kernel) (by decide +kernel) (by decide +kernel) ⟨Nat.le_of_ble_eq_true rfl, Nat.le_of_ble_eq_true rfl⟩ ?_
  refine kj_aload_n dX6_init_4 (i := 0) rfl rfl ?_
  refine kj_bipush (v := (nI 9)) dX6_init_5 (by decide +kernel) ?_
  refine kj_newa (t0 := 0) (kk := 13) (N := 9) dX6_init_7 (by decide +kernel) rfl rfl (by decide +kernel) (by decide +kernel) (Nat.le_of_ble_eq_true rfl) (Nat.le_of_ble_eq_true rfl) (Nat.le_of_ble_eq_true rfl) (fun q0 => ?_)
  show kj_J l D cs _ _ p e s m args below meth c _ _ 1 9 [(h0, .inr (6, [.null, .null, .int 0])), (q0, .inl (cs 13, 9, .inl (fun _ => 0)))] 9 [.ref h0] [.ref q0, .ref h0]
  refine kj_putF (ci := 6) (k9 := 0) (ty := .array .int) hin dX6_init_9 rfl (by decide +kernel) (by decide +kernel) rfl rfl (by decide +kernel) rfl rfl (Nat.le_of_ble_eq_true rfl) rfl ?_
  show kj_J l D cs _ _ p e s m args below meth c _ _ 1 9 [(h0, .inr (6, [.ref q0, .null, .int 0])), (q0, .inl (cs 13, 9, .inl (fun _ => 0)))] 12 [.ref h0] []
  refine kj_aload_n dX6_init_12 (i := 0) rfl rfl ?_
  refine kj_bipush (v := (nI 9)) dX6_init_13 (by decide +kernel) ?_
  refine kj_newa (t0 := 0) (kk := 13) (N := 9) dX6_init_15 (by decide +kernel) rfl rfl (by decide +kernel) (by decide +kernel) (Nat.le_of_ble_eq_true rfl) (Nat.le_of_ble_eq_true rfl) (Nat.le_of_ble_eq_true rfl) (fun q1 => ?_)
  show kj_J l D cs _ _ p e s m args below meth c _ _ 2 18 [(h0, .inr (6, [.ref q0, .null, .int 0])), (q0, .inl (cs 13, 9, .inl (fun _ => 0))), (q1, .inl (cs 13, 9, .inl (fun _ => 0)))] 17 [.ref h0] [.ref q1, .ref h0]
  refine kj_putF (ci := 6) (k9 := 1) (ty := .array .int) hin dX6_init_17 rfl (by decide +kernel) (by decide +kernel) rfl rfl (by decide +kernel) rfl rfl (Nat.le_of_ble_eq_true rfl) rfl ?_
  show kj_J l D cs _ _ p e s m args below meth c _ _ 2 18 [(h0, .inr (6, [.ref q0, .ref q1, .int 0])), (q0, .inl (cs 13, 9, .inl (fun _ => 0))), (q1, .inl (cs 13, 9, .inl (fun _ => 0)))] 20 [.ref h0] []
  exact kj_ret (ad := kj_ad 36 [h0, q0, q1]) (b := 36) (n := 3) (r := 36) dX6_init_20 rfl rfl rfl (fun _ h => h) (fun h => h) (Nat.le_of_ble_eq_true rfl) (Nat.le_of_ble_eq_true rfl)
set_option maxRecDepth 20000 in
set_option maxHeartbeats 1000000 in
theorem k_X1_init : kj_C l D cs me_X1_init 2 1 9 39 2 39 zInit := by
  refine kj_enter (by decide +kernel) rfl rfl rfl rfl (Nat.le_of_ble_eq_true rfl) (fun h0 p e s m args below meth c hin => ?_)
  show kj_J l D cs _ _ p e s m args below meth c _ _ 0 0 [(h0, .inr (1, [.null]))] 0 [.ref h0] []
  refine kj_aload_n dX1_init_0 (i := 0) rfl rfl ?_
  refine kj_objInit dX1_init_1 (by decide +kernel) (by decide +kernel) (by decide +kernel) ⟨Nat.le_of_ble_eq_true rfl, Nat.le_of_ble_eq_true rfl⟩ ?_
  refine kj_aload_n dX1_init_4 (i := 0) rfl rfl ?_
  refine kj_bipush (v := (nI 9)) dX1_init_5 (by decide +kernel) ?_
  refine kj_newa (t0 := 0) (kk := 13) (N := 9) dX1_init_7 (by decide +kernel) rfl rfl (by decide +kernel) (by decide +kernel) (Nat.le_of_ble_eq_true rfl) (Nat.le_of_ble_eq_true rfl) (Nat.le_of_ble_eq_true rfl) (fun q0 => ?_)
  show kj_J l D cs _ _ p e s m args below meth c _ _ 1 9 [(h0, .inr (1, [.null])), (q0, .inl (cs 13, 9, .inl (fun _ => 0)))] 9 [.ref h0] [.ref q0, .ref h0]
  refine kj_putF (ci := 1) (k9 := 0) (ty := .array .int) hin dX1_init_9 rfl (by decide +kernel) (by decide +kernel) rfl rfl (by decide +kernel) rfl rfl (Nat.le_of_ble_eq_true rfl) rfl ?_
  show kj_J l D cs _ _ p e s m args below meth c _ _ 1 9 [(h0, .inr (1, [.ref q0])), (q0, .inl (cs 13, 9, .inl (fun _ => 0)))] 12 [.ref h0] []
  exact kj_ret (ad := kj_ad 39 [h0, q0]) (b := 39) (n := 2) (r := 39) dX1_init_12 rfl rfl rfl (fun _ h => h) (fun h => h) (Nat.le_of_ble_eq_true rfl) (Nat.le_of_ble_eq_true rfl)
set_option maxRecDepth 20000 in
set_option maxHeartbeats 1000000 in
theorem k_X2_init : kj_C l D cs me_X2_init 2 2 18 41 3 41 zInit := by
  refine kj_enter (by decide +kernel) rfl rfl rfl rfl (Nat.le_of_ble_eq_true rfl) (fun h0 p e s m args below meth c hin => ?_)
  show kj_J l D cs _ _ p e s m args below meth c _ _ 0 0 [(h0, .inr (2, [.null, .int 0, .int 0, .int 0, .null]))] 0 [.ref h0] []
  refine kj_aload_n dX2_init_0 (i := 0) rfl rfl ?_
  refine kj_objInit dX2_init_1 (by decide +kernel) (by decide +kernel) (by decide +kernel) ⟨Nat.le_of_ble_eq_true rfl, Nat.le_of_ble_eq_true rfl⟩ ?_
  refine kj_aload_n dX2_init_4 (i := 0) rfl rfl ?_
  refine kj_bipush (v := (nI 9)) dX2_init_5 (by decide +kernel) ?_
  refine kj_newa (t0 := 0) (kk := 13) (N := 9) dX2_init_7 (by decide +kernel) rfl rfl (by decide +kernel) (by decide +kernel) (Nat.le_of_ble_eq_true rfl) (Nat.le_of_ble_eq_true rfl) (Nat.le_of_ble_eq_true rfl) (fun q0 => ?_)
  show kj_J l D cs _ _ p e s m args below meth c _ _ 1 9 [(h0, .inr (2, [.null, .int 0, .int 0, .int 0, .null])), (q0, .inl (cs 13, 9, .inl (fun _ => 0)))] 9 [.ref h0] [.ref q0, .ref h0]
  refine kj_putF (ci := 2) (k9 := 0) (ty := .array .int) hin dX2_init_9 rfl (by decide +kernel) (by decide +kernel) rfl rfl (by decide +kernel) rfl rfl (Nat.le_of_ble_eq_true rfl) rfl ?_
  show kj_J l D cs _ _ p e s m args below meth c _ _ 1 9 [(h0, .inr (2, [.ref q0, .int 0, .int 0, .int 0, .null])), (q0, .inl (cs 13, 9, .inl (fun _ => 0)))] 12 [.ref h0] []
  refine kj_aload_n dX2_init_12 (i := 0) rfl rfl ?_
  refine kj_bipush (v := (nI 9)) dX2_init_13 (by decide +kernel) ?_
  refine kj_newa (t0 := 0) (kk := 13) (N := 9) dX2_init_15 (by decide +kernel) rfl rfl (by decide +kernel) (by decide +kernel) (Nat.le_of_ble_eq_true rfl) (Nat.le_of_ble_eq_true rfl) (Nat.le_of_ble_eq_true rfl) (fun q1 => ?_)
  show kj_J l D cs _ _ p e s m args below meth c _ _ 2 18 [(h0, .inr (2, [.ref q0, .int 0, .int 0, .int 0, .null])), (q0, .inl (cs 13, 9, .inl (fun _ => 0))), (q1, .inl (cs 13, 9, .inl (fun _ => 0)))] 17 [.ref h0] [.ref q1, .ref h0]
  refine kj_putF (ci := 2) (k9 := 4) (ty := .array .int) hin dX2_init_17 rfl (by decide +kernel) (by decide +kernel) rfl rfl (by decide +kernel) rfl rfl (Nat.le_of_ble_eq_true rfl) rfl ?_
  show kj_J l D cs _ _ p e s m args below meth c _ _ 2 18 [(h0, .inr (2, [.ref q0, .int 0, .int 0, .int 0, .ref q1])), (q0, .inl (cs 13, 9, .inl (fun _ => 0))), (q1, .inl (cs 13, 9, .inl (fun _ => 0)))] 20 [.ref h0] []
  exact kj_ret (ad := kj_ad 41 [h0, q0, q1]) (b := 41) (n := 3) (r := 41) dX2_init_20 rfl rfl rfl (fun _ h => h) (fun h => h) (Nat.le_of_ble_eq_true rfl) (Nat.le_of_ble_eq_true rfl)
set_option maxRecDepth 20000 in
set_option maxHeartbeats 1000000 in
theorem k_X3_init : kj_C l D cs me_X3_init 2 1 8 44 2 44 zInit := by
  refine kj_enter (by decide +kernel) rfl rfl rfl rfl (Nat.le_of_ble_eq_true rfl) (fun h0 p e s m args below meth c hin => ?_)
  show kj_J l D cs _ _ p e s m args below meth c _ _ 0 0 [(h0, .inr (3, [.null]))] 0 [.ref h0] []
  refine kj_aload_n dX3_init_0 (i := 0) rfl rfl ?_
  refine kj_objInit dX3_init_1 (by decide +kernel) (by decide +kernel) (by decide +kernel) ⟨Nat.le_of_ble_eq_true rfl, Nat.le_of_ble_eq_true rfl⟩ ?_
  refine kj_aload_n dX3_init_4 (i := 0) rfl rfl ?_
  refine kj_bipush (v := (nI 8)) dX3_init_5 (by decide +kernel) ?_
  refine kj_newa (t0 := 0) (kk := 13) (N := 8) dX3_init_7 (by decide +kernel) rfl rfl (by decide +kernel) (by decide +kernel) (Nat.le_of_ble_eq_true rfl) (Nat.le_of_ble_eq_true rfl) (Nat.le_of_ble_eq_true rfl) (fun q0 => ?_)
  show kj_J l D cs _ _ p e s m args below meth c _ _ 1 8 [(h0, .inr (3, [.null])), (q0, .inl (cs 13, 8, .inl (fun _ => 0)))] 9 [.ref h0] [.ref q0, .ref h0]
  refine kj_putF (ci := 3) (k9 := 0) (ty := .array .int) hin dX3_init_9 rfl (by decide +kernel) (by decide +kernel) rfl rfl (by decide +kernel) rfl rfl (Nat.le_of_ble_eq_true rfl) rfl ?_
  show kj_J l D cs _ _ p e s m args below meth c _ _ 1 8 [(h0, .inr (3, [.ref q0])), (q0, .inl (cs 13, 8, .inl (fun _ => 0)))] 12 [.ref h0] []
  exact kj_ret (ad := kj_ad 44 [h0, q0]) (b := 44) (n := 2) (r := 44) dX3_init_12 rfl rfl rfl (fun _ h => h) (fun h => h) (Nat.le_of_ble_eq_true rfl) (Nat.le_of_ble_eq_true rfl)
set_option maxRecDepth 20000 in
set_option maxHeartbeats 1000000 in
theorem k_X0_init : kj_C l D cs me_X0_init 2 3 15 46 4 46 zInit := by
  refine kj_enter (by decide +kernel) rfl rfl rfl rfl (Nat.le_of_ble_eq_true rfl) (fun h0 p e s m args below meth c hin => ?_)
  show kj_J l D cs _ _ p e s m args below meth c _ _ 0 0 [(h0, .inr (0, [.null, .null, .null]))] 0 [.ref h0, .null] []
  refine kj_aload_n dX0_init_0 (i := 0) rfl rfl ?_
  refine kj_objInit dX0_init_1 (by decide +kernel) (by decide +kernel) (by decide +kernel) ⟨Nat.le_of_ble_eq_true rfl, Nat.le_of_ble_eq_true rfl⟩ ?_
  refine kj_aload_n dX0_init_4 (i := 0) rfl rfl ?_
  refine kj_iconst (v := (nI 5)) dX0_init_5 (by decide +kernel) ?_
  refine kj_newa (t0 := 0) (kk := 13) (N := 5) dX0_init_6 (by decide +kernel) rfl rfl (by decide +kernel) (by decide +kernel) (Nat.le_of_ble_eq_true rfl) (Nat.le_of_ble_eq_true rfl) (Nat.le_of_ble_eq_true rfl) (fun q0 => ?_)
  show kj_J l D cs _ _ p e s m args below meth c _ _ 1 5 [(h0, .inr (0, [.null, .null, .null])), (q0, .inl (cs 13, 5, .inl (fun _ => 0)))] 8 [.ref h0, .null] [.ref q0, .ref h0]
  refine kj_putF (ci := 0) (k9 := 0) (ty := .array .int) hin dX0_init_8 rfl (by decide +kernel) (by decide +kernel) rfl rfl (by decide +kernel) rfl rfl (Nat.le_of_ble_eq_true rfl) rfl ?_
  show kj_J l D cs _ _ p e s m args below meth c _ _ 1 5 [(h0, .inr (0, [.ref q0, .null, .null])), (q0, .inl (cs 13, 5, .inl (fun _ => 0)))] 11 [.ref h0, .null] []
  refine kj_aload_n dX0_init_11 (i := 0) rfl rfl ?_
  refine kj_iconst (v := (nI 5)) dX0_init_12 (by decide +kernel) ?_
  refine kj_newa (t0 := 0) (kk := 13) (N := 5) dX0_init_13 (by decide +kernel) rfl rfl (by decide +kernel) (by decide +kernel) (Nat.le_of_ble_eq_true rfl) (Nat.le_of_ble_eq_true rfl) (Nat.le_of_ble_eq_true rfl) (fun q1 => ?_)
  show kj_J l D cs _ _ p e s m args below meth c _ _ 2 10 [(h0, .inr (0, [.ref q0, .null, .null])), (q0, .inl (cs 13, 5, .inl (fun _ => 0))), (q1, .inl (cs 13, 5, .inl (fun _ => 0)))] 15 [.ref h0, .null] [.ref q1, .ref h0]
  refine kj_putF (ci := 0) (k9 := 1) (ty := .array .int) hin dX0_init_15 rfl (by decide +kernel) (by decide +kernel) rfl rfl (by decide +kernel) rfl rfl (Nat.le_of_ble_eq_true rfl) rfl ?_
  show kj_J l D cs _ _ p e s m args below meth c _ _ 2 10 [(h0, .inr (0, [.ref q0, .ref q1, .null])), (q0, .inl (cs 13, 5, .inl (fun _ => 0))), (q1, .inl (cs 13, 5, .inl (fun _ => 0)))] 18 [.ref h0, .null] []
  refine kj_aload_n dX0_init_18 (i := 0) rfl rfl ?_
  refine kj_iconst (v := (nI 5)) dX0_init_19 (by decide +kernel) ?_
  refine kj_newa (t0 := 0) (kk := 13) (N := 5) dX0_init_20 (by decide +kernel) rfl rfl (by decide +kernel) (by decide +kernel) (Nat.le_of_ble_eq_true rfl) (Nat.le_of_ble_eq_true rfl) (Nat.le_of_ble_eq_true rfl) (fun q2 => ?_)
  show kj_J l D cs _ _ p e s m args below meth c _ _ 3 15 [(h0, .inr (0, [.ref q0, .ref q1, .null])), (q0, .inl (cs 13, 5, .inl (fun _ => 0))), (q1, .inl (cs 13, 5, .inl (fun _ => 0))), (q2, .inl (cs 13, 5, .inl (fun _ => 0)))] 22 [.ref h0, .null] [.ref q2, .ref h0]
  refine kj_putF (ci := 0) (k9 := 2) (ty := .array .int) hin dX0_init_22 rfl (by decide +kernel) (by decide +kernel) rfl rfl (by decide +kernel) rfl rfl (Nat.le_of_ble_eq_true rfl) rfl ?_
  show kj_J l D cs _ _ p e s m args below meth c _ _ 3 15 [(h0, .inr (0, [.ref q0, .ref q1, .ref q2])), (q0, .inl (cs 13, 5, .inl (fun _ => 0))), (q1, .inl (cs 13, 5, .inl (fun _ => 0))), (q2, .inl (cs 13, 5, .inl (fun _ => 0)))] 25 [.ref h0, .null] []
  refine kj_iconst (v := (nI 0)) dX0_init_25 (by decide +kernel) ?_
  refine kj_istore_n dX0_init_26 (i := 1) rfl (by decide) ?_
  suffices lp27 : ∀ k i, i + k = 5 → kj_J l D cs _ _ p e s m args below meth c _ _ 3 15 [(h0, .inr (0, [.ref q0, .ref q1, .ref q2])), (q0, .inl (cs 13, 5, .inl (kj_fill 0 (nI 480) i (fun _ => 0)))), (q1, .inl (cs 13, 5, .inl (kj_fill 0 (nI 45) i (fun _ => 0)))), (q2, .inl (cs 13, 5, .inl (kj_fill 0 (nI 10) i (fun _ => 0))))] 27 [.ref h0, .int (nI i)] [] by
    have h := lp27 5 0 rfl
    rw [kj_fill0, kj_fill0, kj_fill0] at h
    exact h
  intro k
  induction k with
  | succ k ih =>
    intro i hi
    refine kj_iload_n dX0_init_27 (i := 1) rfl rfl ?_
    refine kj_iconst (v := (nI 5)) dX0_init_28 (by decide +kernel) ?_
    refine kj_icmp_ge (tgt := 63) dX0_init_29 (by decide) (fun q => absurd q (nI_ge (by omega) (by omega))) (fun _ => ?_)
    refine kj_aload_n dX0_init_32 (i := 0) rfl rfl ?_
    refine kj_get (ci := 0) (k9 := 0) (v := .ref q0) dX0_init_33 rfl (by decide +kernel) (by decide +kernel) rfl ?_
    refine kj_iload_n dX0_init_36 (i := 1) rfl rfl ?_
    refine kj_sipush (v := (nI 480)) dX0_init_37 (by decide +kernel) ?_
    refine kj_iast (q0 := 1) (j := i) dX0_init_40 rfl (show vp_in (nI (i)) 5 from z_in (by omega) (by decide)) (nI_clamp (by omega)) (ws' := [(h0, .inr (0, [.ref q0, .ref q1, .ref q2])), (q0, .inl (cs 13, 5, .inl (kj_fill 0 (nI 480) (i + 1) (fun _ => 0)))), (q1, .inl (cs 13, 5, .inl (kj_fill 0 (nI 45) i (fun _ => 0)))), (q2, .inl (cs 13, 5, .inl (kj_fill 0 (nI 10) i (fun _ => 0))))]) (by rw [kj_fillS (by omega)]; rfl) ?_
    refine kj_aload_n dX0_init_41 (i := 0) rfl rfl ?_
    refine kj_get (ci := 0) (k9 := 1) (v := .ref q1) dX0_init_42 rfl (by decide +kernel) (by decide +kernel) rfl ?_
    refine kj_iload_n dX0_init_45 (i := 1) rfl rfl ?_
    refine kj_bipush (v := (nI 45)) dX0_init_46 (by decide +kernel) ?_
    refine kj_iast (q0 := 2) (j := i) dX0_init_48 rfl (show vp_in (nI (i)) 5 from z_in (by omega) (by decide)) (nI_clamp (by omega)) (ws' := [(h0, .inr (0, [.ref q0, .ref q1, .ref q2])), (q0, .inl (cs 13, 5, .inl (kj_fill 0 (nI 480) (i + 1) (fun _ => 0)))), (q1, .inl (cs 13, 5, .inl (kj_fill 0 (nI 45) (i + 1) (fun _ => 0)))), (q2, .inl (cs 13, 5, .inl (kj_fill 0 (nI 10) i (fun _ => 0))))]) (by rw [kj_fillS (by omega)]; rfl) ?_
    refine kj_aload_n dX0_init_49 (i := 0) rfl rfl ?_
    refine kj_get (ci := 0) (k9 := 2) (v := .ref q2) dX0_init_50 rfl (by decide +kernel) (by decide +kernel) rfl ?_
    refine kj_iload_n dX0_init_53 (i := 1) rfl rfl ?_
    refine kj_bipush (v := (nI 10)) dX0_init_54 (by decide +kernel) ?_
    refine kj_iast (q0 := 3) (j := i) dX0_init_56 rfl (show vp_in (nI (i)) 5 from z_in (by omega) (by decide)) (nI_clamp (by omega)) (ws' := [(h0, .inr (0, [.ref q0, .ref q1, .ref q2])), (q0, .inl (cs 13, 5, .inl (kj_fill 0 (nI 480) (i + 1) (fun _ => 0)))), (q1, .inl (cs 13, 5, .inl (kj_fill 0 (nI 45) (i + 1) (fun _ => 0)))), (q2, .inl (cs 13, 5, .inl (kj_fill 0 (nI 10) (i + 1) (fun _ => 0))))]) (by rw [kj_fillS (by omega)]; rfl) ?_
    refine kj_iinc (i := 1) (v := nI (i + 1)) dX0_init_57 (by decide) rfl (nI_add i 1) ?_
    refine kj_goto (tgt := 27) dX0_init_60 (by decide) ?_
    exact ih (i + 1) (by omega)
  | zero =>
    intro i hi
    obtain rfl : i = 5 := by omega
    refine kj_iload_n dX0_init_27 (i := 1) rfl rfl ?_
    refine kj_iconst (v := (nI 5)) dX0_init_28 (by decide +kernel) ?_
    refine kj_icmp_ge (tgt := 63) dX0_init_29 (by decide) (fun _ => ?_) (fun q => absurd (nI_le (Nat.le_refl _) (by omega)) q)
    exact kj_ret (ad := kj_ad 46 [h0, q0, q1, q2]) (b := 46) (n := 4) (r := 46) dX0_init_63 rfl rfl rfl (fun _ h => h) (fun h => h) (Nat.le_of_ble_eq_true rfl) (Nat.le_of_ble_eq_true rfl)
set_option maxRecDepth 20000 in
set_option maxHeartbeats 1000000 in
theorem k_X10_init : kj_C l D cs me_X10_init 2 1 280 50 2 50 zInit := by
  refine kj_enter (by decide +kernel) rfl rfl rfl rfl (Nat.le_of_ble_eq_true rfl) (fun h0 p e s m args below meth c hin => ?_)
  show kj_J l D cs _ _ p e s m args below meth c _ _ 0 0 [(h0, .inr (10, [.null, .int 0, .int 0]))] 0 [.ref h0] []
  refine kj_aload_n dX10_init_0 (i := 0) rfl rfl ?_
  refine kj_objInit dX10_init_1 (by decide +kernel) (by decide +kernel) (by decide +kernel) ⟨Nat.le_of_ble_eq_true rfl, Nat.le_of_ble_eq_true rfl⟩ ?_
  refine kj_aload_n dX10_init_4 (i := 0) rfl rfl ?_
  refine kj_sipush (v := (nI 280)) dX10_init_5 (by decide +kernel) ?_
  refine kj_newa (t0 := 1) (kk := 14) (N := 280) dX10_init_8 (by decide +kernel) rfl rfl (by decide +kernel) (by decide +kernel) (Nat.le_of_ble_eq_true rfl) (Nat.le_of_ble_eq_true rfl) (Nat.le_of_ble_eq_true rfl) (fun q0 => ?_)
  show kj_J l D cs _ _ p e s m args below meth c _ _ 1 280 [(h0, .inr (10, [.null, .int 0, .int 0])), (q0, .inl (cs 14, 280, .inl (fun _ => 0)))] 10 [.ref h0] [.ref q0, .ref h0]
  refine kj_putF (ci := 10) (k9 := 0) (ty := .array .boolean) hin dX10_init_10 rfl (by decide +kernel) (by decide +kernel) rfl rfl (by decide +kernel) rfl rfl (Nat.le_of_ble_eq_true rfl) rfl ?_
  show kj_J l D cs _ _ p e s m args below meth c _ _ 1 280 [(h0, .inr (10, [.ref q0, .int 0, .int 0])), (q0, .inl (cs 14, 280, .inl (fun _ => 0)))] 13 [.ref h0] []
  refine kj_aload_n dX10_init_13 (i := 0) rfl rfl ?_
  refine kj_sipush (v := (nI 20703)) dX10_init_14 (by decide +kernel) ?_
  refine kj_put (ci := 10) (k9 := 1) (ty := .int) dX10_init_17 rfl (by decide +kernel) (by decide +kernel) rfl (by decide +kernel) rfl rfl (Nat.le_of_ble_eq_true rfl) rfl ?_
  show kj_J l D cs _ _ p e s m args below meth c _ _ 1 280 [(h0, .inr (10, [.ref q0, .int (nI 20703), .int 0])), (q0, .inl (cs 14, 280, .inl (fun _ => 0)))] 20 [.ref h0] []
  exact kj_ret (ad := kj_ad 50 [h0, q0]) (b := 50) (n := 2) (r := 50) dX10_init_20 rfl rfl rfl (fun _ h => h) (fun h => h) (Nat.le_of_ble_eq_true rfl) (Nat.le_of_ble_eq_true rfl)
set_option maxRecDepth 20000 in
set_option maxHeartbeats 1000000 in
theorem k_X9_init : kj_C l D cs me_X9_init 2 3 145 52 4 52 zInit := by
  refine kj_enter (by decide +kernel) rfl rfl rfl rfl (Nat.le_of_ble_eq_true rfl) (fun h0 p e s m args below meth c hin => ?_)
  show kj_J l D cs _ _ p e s m args below meth c _ _ 0 0 [(h0, .inr (9, [.null, .null, .int 0, .int 0, .int 0, .null, .int 0, .int 0]))] 0 [.ref h0] []
  refine kj_aload_n dX9_init_0 (i := 0) rfl rfl ?_
  refine kj_objInit dX9_init_1 (by decide +kernel) (by decide +kernel) (by decide +kernel) ⟨Nat.le_of_ble_eq_true rfl, Nat.le_of_ble_eq_true rfl⟩ ?_
  refine kj_aload_n dX9_init_4 (i := 0) rfl rfl ?_
  refine kj_bipush (v := (nI 9)) dX9_init_5 (by decide +kernel) ?_
  refine kj_newa (t0 := 0) (kk := 13) (N := 9) dX9_init_7 (by decide +kernel) rfl rfl (by decide +kernel) (by decide +kernel) (Nat.le_of_ble_eq_true rfl) (Nat.le_of_ble_eq_true rfl) (Nat.le_of_ble_eq_true rfl) (fun q0 => ?_)
  show kj_J l D cs _ _ p e s m args below meth c _ _ 1 9 [(h0, .inr (9, [.null, .null, .int 0, .int 0, .int 0, .null, .int 0, .int 0])), (q0, .inl (cs 13, 9, .inl (fun _ => 0)))] 9 [.ref h0] [.ref q0, .ref h0]
  refine kj_putF (ci := 9) (k9 := 0) (ty := .array .int) hin dX9_init_9 rfl (by decide +kernel) (by decide +kernel) rfl rfl (by decide +kernel) rfl rfl (Nat.le_of_ble_eq_true rfl) rfl ?_
  show kj_J l D cs _ _ p e s m args below meth c _ _ 1 9 [(h0, .inr (9, [.ref q0, .null, .int 0, .int 0, .int 0, .null, .int 0, .int 0])), (q0, .inl (cs 13, 9, .inl (fun _ => 0)))] 12 [.ref h0] []
  refine kj_aload_n dX9_init_12 (i := 0) rfl rfl ?_
  refine kj_bipush (v := (nI 36)) dX9_init_13 (by decide +kernel) ?_
  refine kj_newa (t0 := 2) (kk := 15) (N := 36) dX9_init_15 (by decide +kernel) rfl rfl (by decide +kernel) (by decide +kernel) (Nat.le_of_ble_eq_true rfl) (Nat.le_of_ble_eq_true rfl) (Nat.le_of_ble_eq_true rfl) (fun q1 => ?_)
  show kj_J l D cs _ _ p e s m args below meth c _ _ 2 45 [(h0, .inr (9, [.ref q0, .null, .int 0, .int 0, .int 0, .null, .int 0, .int 0])), (q0, .inl (cs 13, 9, .inl (fun _ => 0))), (q1, .inl (cs 15, 36, .inl (fun _ => 0)))] 17 [.ref h0] [.ref q1, .ref h0]
  refine kj_putF (ci := 9) (k9 := 1) (ty := .array .char) hin dX9_init_17 rfl (by decide +kernel) (by decide +kernel) rfl rfl (by decide +kernel) rfl rfl (Nat.le_of_ble_eq_true rfl) rfl ?_
  show kj_J l D cs _ _ p e s m args below meth c _ _ 2 45 [(h0, .inr (9, [.ref q0, .ref q1, .int 0, .int 0, .int 0, .null, .int 0, .int 0])), (q0, .inl (cs 13, 9, .inl (fun _ => 0))), (q1, .inl (cs 15, 36, .inl (fun _ => 0)))] 20 [.ref h0] []
  refine kj_aload_n dX9_init_20 (i := 0) rfl rfl ?_
  refine kj_iconst (v := (-1)) dX9_init_21 (by decide +kernel) ?_
  refine kj_put (ci := 9) (k9 := 3) (ty := .int) dX9_init_22 rfl (by decide +kernel) (by decide +kernel) rfl (by decide +kernel) rfl rfl (Nat.le_of_ble_eq_true rfl) rfl ?_
  show kj_J l D cs _ _ p e s m args below meth c _ _ 2 45 [(h0, .inr (9, [.ref q0, .ref q1, .int 0, .int (-1), .int 0, .null, .int 0, .int 0])), (q0, .inl (cs 13, 9, .inl (fun _ => 0))), (q1, .inl (cs 15, 36, .inl (fun _ => 0)))] 25 [.ref h0] []
  refine kj_aload_n dX9_init_25 (i := 0) rfl rfl ?_
  refine kj_bipush (v := (nI 100)) dX9_init_26 (by decide +kernel) ?_
  refine kj_newa (t0 := 0) (kk := 13) (N := 100) dX9_init_28 (by decide +kernel) rfl rfl (by decide +kernel) (by decide +kernel) (Nat.le_of_ble_eq_true rfl) (Nat.le_of_ble_eq_true rfl) (Nat.le_of_ble_eq_true rfl) (fun q2 => ?_)
  show kj_J l D cs _ _ p e s m args below meth c _ _ 3 145 [(h0, .inr (9, [.ref q0, .ref q1, .int 0, .int (-1), .int 0, .null, .int 0, .int 0])), (q0, .inl (cs 13, 9, .inl (fun _ => 0))), (q1, .inl (cs 15, 36, .inl (fun _ => 0))), (q2, .inl (cs 13, 100, .inl (fun _ => 0)))] 30 [.ref h0] [.ref q2, .ref h0]
  refine kj_putF (ci := 9) (k9 := 5) (ty := .array .int) hin dX9_init_30 rfl (by decide +kernel) (by decide +kernel) rfl rfl (by decide +kernel) rfl rfl (Nat.le_of_ble_eq_true rfl) rfl ?_
  show kj_J l D cs _ _ p e s m args below meth c _ _ 3 145 [(h0, .inr (9, [.ref q0, .ref q1, .int 0, .int (-1), .int 0, .ref q2, .int 0, .int 0])), (q0, .inl (cs 13, 9, .inl (fun _ => 0))), (q1, .inl (cs 15, 36, .inl (fun _ => 0))), (q2, .inl (cs 13, 100, .inl (fun _ => 0)))] 33 [.ref h0] []
  exact kj_ret (ad := kj_ad 52 [h0, q0, q1, q2]) (b := 52) (n := 4) (r := 52) dX9_init_33 rfl rfl rfl (fun _ h => h) (fun h => h) (Nat.le_of_ble_eq_true rfl) (Nat.le_of_ble_eq_true rfl)
set_option maxRecDepth 20000 in
set_option maxHeartbeats 1000000 in
theorem k_X8_init : kj_C l D cs me_X8_init 2 2 128 1 3 1 zInit := by
  refine kj_enter (by decide +kernel) rfl rfl rfl rfl (Nat.le_of_ble_eq_true rfl) (fun h0 p e s m args below meth c hin => ?_)
  show kj_J l D cs _ _ p e s m args below meth c _ _ 0 0 [(h0, .inr (8, [.null, .null]))] 0 [.ref h0, .null] []
  refine kj_aload_n dX8_init_0 (i := 0) rfl rfl ?_
  refine kj_objInit dX8_init_1 (by decide +kernel) (by decide +kernel) (by decide +kernel) ⟨Nat.le_of_ble_eq_true rfl, Nat.le_of_ble_eq_true rfl⟩ ?_
  refine kj_aload_n dX8_init_4 (i := 0) rfl rfl ?_
  refine kj_bipush (v := (nI 119)) dX8_init_5 (by decide +kernel) ?_
  refine kj_newa (t0 := 0) (kk := 13) (N := 119) dX8_init_7 (by decide +kernel) rfl rfl (by decide +kernel) (by decide +kernel) (Nat.le_of_ble_eq_true rfl) (Nat.le_of_ble_eq_true rfl) (Nat.le_of_ble_eq_true rfl) (fun q0 => ?_)
  show kj_J l D cs _ _ p e s m args below meth c _ _ 1 119 [(h0, .inr (8, [.null, .null])), (q0, .inl (cs 13, 119, .inl (fun _ => 0)))] 9 [.ref h0, .null] [.ref q0, .ref h0]
  refine kj_putF (ci := 8) (k9 := 0) (ty := .array .int) hin dX8_init_9 rfl (by decide +kernel) (by decide +kernel) rfl rfl (by decide +kernel) rfl rfl (Nat.le_of_ble_eq_true rfl) rfl ?_
  show kj_J l D cs _ _ p e s m args below meth c _ _ 1 119 [(h0, .inr (8, [.ref q0, .null])), (q0, .inl (cs 13, 119, .inl (fun _ => 0)))] 12 [.ref h0, .null] []
  refine kj_aload_n dX8_init_12 (i := 0) rfl rfl ?_
  refine kj_bipush (v := (nI 9)) dX8_init_13 (by decide +kernel) ?_
  refine kj_newa (t0 := 0) (kk := 13) (N := 9) dX8_init_15 (by decide +kernel) rfl rfl (by decide +kernel) (by decide +kernel) (Nat.le_of_ble_eq_true rfl) (Nat.le_of_ble_eq_true rfl) (Nat.le_of_ble_eq_true rfl) (fun q1 => ?_)
  show kj_J l D cs _ _ p e s m args below meth c _ _ 2 128 [(h0, .inr (8, [.ref q0, .null])), (q0, .inl (cs 13, 119, .inl (fun _ => 0))), (q1, .inl (cs 13, 9, .inl (fun _ => 0)))] 17 [.ref h0, .null] [.ref q1, .ref h0]
  refine kj_putF (ci := 8) (k9 := 1) (ty := .array .int) hin dX8_init_17 rfl (by decide +kernel) (by decide +kernel) rfl rfl (by decide +kernel) rfl rfl (Nat.le_of_ble_eq_true rfl) rfl ?_
  show kj_J l D cs _ _ p e s m args below meth c _ _ 2 128 [(h0, .inr (8, [.ref q0, .ref q1])), (q0, .inl (cs 13, 119, .inl (fun _ => 0))), (q1, .inl (cs 13, 9, .inl (fun _ => 0)))] 20 [.ref h0, .null] []
  refine kj_iconst (v := (nI 0)) dX8_init_20 (by decide +kernel) ?_
  refine kj_istore_n dX8_init_21 (i := 1) rfl (by decide) ?_
  suffices lp22 : ∀ k i, i + k = 6 → kj_J l D cs _ _ p e s m args below meth c _ _ 2 128 [(h0, .inr (8, [.ref q0, .ref q1])), (q0, .inl (cs 13, 119, .inl (kj_fill 96 (nI 63) i (fun _ => 0)))), (q1, .inl (cs 13, 9, .inl (fun _ => 0)))] 22 [.ref h0, .int (nI i)] [] by
    have h := lp22 6 0 rfl
    rw [kj_fill0] at h
    exact h
  intro k
  induction k with
  | succ k ih =>
    intro i hi
    refine kj_iload_n dX8_init_22 (i := 1) rfl rfl ?_
    refine kj_bipush (v := (nI 6)) dX8_init_23 (by decide +kernel) ?_
    refine kj_icmp_ge (tgt := 45) dX8_init_25 (by decide) (fun q => absurd q (nI_ge (by omega) (by omega))) (fun _ => ?_)
    refine kj_aload_n dX8_init_28 (i := 0) rfl rfl ?_
    refine kj_get (ci := 8) (k9 := 0) (v := .ref q0) dX8_init_29 rfl (by decide +kernel) (by decide +kernel) rfl ?_
    refine kj_bipush (v := (nI 96)) dX8_init_32 (by decide +kernel) ?_
    refine kj_iload_n dX8_init_34 (i := 1) rfl rfl ?_
    refine kj_iadd dX8_init_35 ?_
    rw [nI_add]
    refine kj_bipush (v := (nI 63)) dX8_init_36 (by decide +kernel) ?_
    refine kj_iast (q0 := 1) (j := 96 + i) dX8_init_38 rfl (show vp_in (nI (96 + i)) 119 from z_in (by omega) (by decide)) (nI_clamp (by omega)) (ws' := [(h0, .inr (8, [.ref q0, .ref q1])), (q0, .inl (cs 13, 119, .inl (kj_fill 96 (nI 63) (i + 1) (fun _ => 0)))), (q1, .inl (cs 13, 9, .inl (fun _ => 0)))]) (by rw [kj_fillS (by omega)]; rfl) ?_
    refine kj_iinc (i := 1) (v := nI (i + 1)) dX8_init_39 (by decide) rfl (nI_add i 1) ?_
    refine kj_goto (tgt := 22) dX8_init_42 (by decide) ?_
    exact ih (i + 1) (by omega)
  | zero =>
    intro i hi
    obtain rfl : i = 6 := by omega
    refine kj_iload_n dX8_init_22 (i := 1) rfl rfl ?_
    refine kj_bipush (v := (nI 6)) dX8_init_23 (by decide +kernel) ?_
    refine kj_icmp_ge (tgt := 45) dX8_init_25 (by decide) (fun _ => ?_) (fun q => absurd (nI_le (Nat.le_refl _) (by omega)) q)
    refine kj_iconst (v := (nI 0)) dX8_init_45 (by decide +kernel) ?_
    refine kj_istore_n dX8_init_46 (i := 1) rfl (by decide) ?_
    suffices lp47 : ∀ k i, i + k = 3 → kj_J l D cs _ _ p e s m args below meth c _ _ 2 128 [(h0, .inr (8, [.ref q0, .ref q1])), (q0, .inl (cs 13, 119, .inl (kj_fill 102 (nI 3) i (kj_fill 96 (nI 63) 6 (fun _ => 0))))), (q1, .inl (cs 13, 9, .inl (fun _ => 0)))] 47 [.ref h0, .int (nI i)] [] by
      have h := lp47 3 0 rfl
      rw [kj_fill0] at h
      exact h
    intro k
    induction k with
    | succ k ih =>
      intro i hi
      refine kj_iload_n dX8_init_47 (i := 1) rfl rfl ?_
      refine kj_iconst (v := (nI 3)) dX8_init_48 (by decide +kernel) ?_
      refine kj_icmp_ge (tgt := 68) dX8_init_49 (by decide) (fun q => absurd q (nI_ge (by omega) (by omega))) (fun _ => ?_)
      refine kj_aload_n dX8_init_52 (i := 0) rfl rfl ?_
      refine kj_get (ci := 8) (k9 := 0) (v := .ref q0) dX8_init_53 rfl (by decide +kernel) (by decide +kernel) rfl ?_
      refine kj_bipush (v := (nI 102)) dX8_init_56 (by decide +kernel) ?_
      refine kj_iload_n dX8_init_58 (i := 1) rfl rfl ?_
      refine kj_iadd dX8_init_59 ?_
      rw [nI_add]
      refine kj_iconst (v := (nI 3)) dX8_init_60 (by decide +kernel) ?_
      refine kj_iast (q0 := 1) (j := 102 + i) dX8_init_61 rfl (show vp_in (nI (102 + i)) 119 from z_in (by omega) (by decide)) (nI_clamp (by omega)) (ws' := [(h0, .inr (8, [.ref q0, .ref q1])), (q0, .inl (cs 13, 119, .inl (kj_fill 102 (nI 3) (i + 1) (kj_fill 96 (nI 63) 6 (fun _ => 0))))), (q1, .inl (cs 13, 9, .inl (fun _ => 0)))]) (by rw [kj_fillS (by omega)]; rfl) ?_
      refine kj_iinc (i := 1) (v := nI (i + 1)) dX8_init_62 (by decide) rfl (nI_add i 1) ?_
      refine kj_goto (tgt := 47) dX8_init_65 (by decide) ?_
      exact ih (i + 1) (by omega)
    | zero =>
      intro i hi
      obtain rfl : i = 3 := by omega
      refine kj_iload_n dX8_init_47 (i := 1) rfl rfl ?_
      refine kj_iconst (v := (nI 3)) dX8_init_48 (by decide +kernel) ?_
      refine kj_icmp_ge (tgt := 68) dX8_init_49 (by decide) (fun _ => ?_) (fun q => absurd (nI_le (Nat.le_refl _) (by omega)) q)
      exact kj_ret (ad := kj_ad 1 [h0, q0, q1]) (b := 1) (n := 3) (r := 1) dX8_init_68 rfl rfl rfl (fun _ h => h) (fun h => h) (Nat.le_of_ble_eq_true rfl) (Nat.le_of_ble_eq_true rfl)
set_option maxRecDepth 20000 in
set_option maxHeartbeats 1000000 in
theorem k_X7_init_f : kj_C l D cs me_X7_init 2 11 99 18 12 18 zInit := by
  refine kj_enter (by decide +kernel) rfl rfl rfl rfl (Nat.le_of_ble_eq_true rfl) (fun h0 p e s m args below meth c hin => ?_)
  show kj_J l D cs _ _ p e s m args below meth c _ _ 0 0 [(h0, .inr (7, [.int 0, .null, .null, .null, .null, .null, .null, .null, .null, .null, .null, .null]))] 0 [.ref h0] []
  refine kj_aload_n dX7_init_0 (i := 0) rfl rfl ?_
  refine kj_objInit dX7_init_1 (by decide +kernel) (by decide +kernel) (by decide +kernel) ⟨Nat.le_of_ble_eq_true rfl, Nat.le_of_ble_eq_true rfl⟩ ?_
  refine kj_aload_n dX7_init_4 (i := 0) rfl rfl ?_
  refine kj_bipush (v := (nI 9)) dX7_init_5 (by decide +kernel) ?_
  refine kj_newa (t0 := 0) (kk := 13) (N := 9) dX7_init_7 (by decide +kernel) rfl rfl (by decide +kernel) (by decide +kernel) (Nat.le_of_ble_eq_true rfl) (Nat.le_of_ble_eq_true rfl) (Nat.le_of_ble_eq_true rfl) (fun q0 => ?_)
  show kj_J l D cs _ _ p e s m args below meth c _ _ 1 9 [(h0, .inr (7, [.int 0, .null, .null, .null, .null, .null, .null, .null, .null, .null, .null, .null])), (q0, .inl (cs 13, 9, .inl (fun _ => 0)))] 9 [.ref h0] [.ref q0, .ref h0]
  refine kj_putF (ci := 7) (k9 := 1) (ty := .array .int) hin dX7_init_9 rfl (by decide +kernel) (by decide +kernel) rfl rfl (by decide +kernel) rfl rfl (Nat.le_of_ble_eq_true rfl) rfl ?_
  show kj_J l D cs _ _ p e s m args below meth c _ _ 1 9 [(h0, .inr (7, [.int 0, .ref q0, .null, .null, .null, .null, .null, .null, .null, .null, .null, .null])), (q0, .inl (cs 13, 9, .inl (fun _ => 0)))] 12 [.ref h0] []
  refine kj_aload_n dX7_init_12 (i := 0) rfl rfl ?_
  refine kj_bipush (v := (nI 9)) dX7_init_13 (by decide +kernel) ?_
  refine kj_newa (t0 := 0) (kk := 13) (N := 9) dX7_init_15 (by decide +kernel) rfl rfl (by decide +kernel) (by decide +kernel) (Nat.le_of_ble_eq_true rfl) (Nat.le_of_ble_eq_true rfl) (Nat.le_of_ble_eq_true rfl) (fun q1 => ?_)
  show kj_J l D cs _ _ p e s m args below meth c _ _ 2 18 [(h0, .inr (7, [.int 0, .ref q0, .null, .null, .null, .null, .null, .null, .null, .null, .null, .null])), (q0, .inl (cs 13, 9, .inl (fun _ => 0))), (q1, .inl (cs 13, 9, .inl (fun _ => 0)))] 17 [.ref h0] [.ref q1, .ref h0]
  refine kj_putF (ci := 7) (k9 := 2) (ty := .array .int) hin dX7_init_17 rfl (by decide +kernel) (by decide +kernel) rfl rfl (by decide +kernel) rfl rfl (Nat.le_of_ble_eq_true rfl) rfl ?_
  show kj_J l D cs _ _ p e s m args below meth c _ _ 2 18 [(h0, .inr (7, [.int 0, .ref q0, .ref q1, .null, .null, .null, .null, .null, .null, .null, .null, .null])), (q0, .inl (cs 13, 9, .inl (fun _ => 0))), (q1, .inl (cs 13, 9, .inl (fun _ => 0)))] 20 [.ref h0] []
  refine kj_aload_n dX7_init_20 (i := 0) rfl rfl ?_
  refine kj_bipush (v := (nI 9)) dX7_init_21 (by decide +kernel) ?_
  refine kj_newa (t0 := 0) (kk := 13) (N := 9) dX7_init_23 (by decide +kernel) rfl rfl (by decide +kernel) (by decide +kernel) (Nat.le_of_ble_eq_true rfl) (Nat.le_of_ble_eq_true rfl) (Nat.le_of_ble_eq_true rfl) (fun q2 => ?_)
  show kj_J l D cs _ _ p e s m args below meth c _ _ 3 27 [(h0, .inr (7, [.int 0, .ref q0, .ref q1, .null, .null, .null, .null, .null, .null, .null, .null, .null])), (q0, .inl (cs 13, 9, .inl (fun _ => 0))), (q1, .inl (cs 13, 9, .inl (fun _ => 0))), (q2, .inl (cs 13, 9, .inl (fun _ => 0)))] 25 [.ref h0] [.ref q2, .ref h0]
  refine kj_putF (ci := 7) (k9 := 3) (ty := .array .int) hin dX7_init_25 rfl (by decide +kernel) (by decide +kernel) rfl rfl (by decide +kernel) rfl rfl (Nat.le_of_ble_eq_true rfl) rfl ?_
  show kj_J l D cs _ _ p e s m args below meth c _ _ 3 27 [(h0, .inr (7, [.int 0, .ref q0, .ref q1, .ref q2, .null, .null, .null, .null, .null, .null, .null, .null])), (q0, .inl (cs 13, 9, .inl (fun _ => 0))), (q1, .inl (cs 13, 9, .inl (fun _ => 0))), (q2, .inl (cs 13, 9, .inl (fun _ => 0)))] 28 [.ref h0] []
  refine kj_aload_n dX7_init_28 (i := 0) rfl rfl ?_
  refine kj_bipush (v := (nI 9)) dX7_init_29 (by decide +kernel) ?_
  refine kj_newa (t0 := 0) (kk := 13) (N := 9) dX7_init_31 (by decide +kernel) rfl rfl (by decide +kernel) (by decide +kernel) (Nat.le_of_ble_eq_true rfl) (Nat.le_of_ble_eq_true rfl) (Nat.le_of_ble_eq_true rfl) (fun q3 => ?_)
  show kj_J l D cs _ _ p e s m args below meth c _ _ 4 36 [(h0, .inr (7, [.int 0, .ref q0, .ref q1, .ref q2, .null, .null, .null, .null, .null, .null, .null, .null])), (q0, .inl (cs 13, 9, .inl (fun _ => 0))), (q1, .inl (cs 13, 9, .inl (fun _ => 0))), (q2, .inl (cs 13, 9, .inl (fun _ => 0))), (q3, .inl (cs 13, 9, .inl (fun _ => 0)))] 33 [.ref h0] [.ref q3, .ref h0]
  refine kj_putF (ci := 7) (k9 := 4) (ty := .array .int) hin dX7_init_33 rfl (by decide +kernel) (by decide +kernel) rfl rfl (by decide +kernel) rfl rfl (Nat.le_of_ble_eq_true rfl) rfl ?_
  show kj_J l D cs _ _ p e s m args below meth c _ _ 4 36 [(h0, .inr (7, [.int 0, .ref q0, .ref q1, .ref q2, .ref q3, .null, .null, .null, .null, .null, .null, .null])), (q0, .inl (cs 13, 9, .inl (fun _ => 0))), (q1, .inl (cs 13, 9, .inl (fun _ => 0))), (q2, .inl (cs 13, 9, .inl (fun _ => 0))), (q3, .inl (cs 13, 9, .inl (fun _ => 0)))] 36 [.ref h0] []
  refine kj_aload_n dX7_init_36 (i := 0) rfl rfl ?_
  refine kj_bipush (v := (nI 9)) dX7_init_37 (by decide +kernel) ?_
  refine kj_newa (t0 := 0) (kk := 13) (N := 9) dX7_init_39 (by decide +kernel) rfl rfl (by decide +kernel) (by decide +kernel) (Nat.le_of_ble_eq_true rfl) (Nat.le_of_ble_eq_true rfl) (Nat.le_of_ble_eq_true rfl) (fun q4 => ?_)
  show kj_J l D cs _ _ p e s m args below meth c _ _ 5 45 [(h0, .inr (7, [.int 0, .ref q0, .ref q1, .ref q2, .ref q3, .null, .null, .null, .null, .null, .null, .null])), (q0, .inl (cs 13, 9, .inl (fun _ => 0))), (q1, .inl (cs 13, 9, .inl (fun _ => 0))), (q2, .inl (cs 13, 9, .inl (fun _ => 0))), (q3, .inl (cs 13, 9, .inl (fun _ => 0))), (q4, .inl (cs 13, 9, .inl (fun _ => 0)))] 41 [.ref h0] [.ref q4, .ref h0]
  refine kj_putF (ci := 7) (k9 := 5) (ty := .array .int) hin dX7_init_41 rfl (by decide +kernel) (by decide +kernel) rfl rfl (by decide +kernel) rfl rfl (Nat.le_of_ble_eq_true rfl) rfl ?_
  show kj_J l D cs _ _ p e s m args below meth c _ _ 5 45 [(h0, .inr (7, [.int 0, .ref q0, .ref q1, .ref q2, .ref q3, .ref q4, .null, .null, .null, .null, .null, .null])), (q0, .inl (cs 13, 9, .inl (fun _ => 0))), (q1, .inl (cs 13, 9, .inl (fun _ => 0))), (q2, .inl (cs 13, 9, .inl (fun _ => 0))), (q3, .inl (cs 13, 9, .inl (fun _ => 0))), (q4, .inl (cs 13, 9, .inl (fun _ => 0)))] 44 [.ref h0] []
  refine kj_aload_n dX7_init_44 (i := 0) rfl rfl ?_
  refine kj_bipush (v := (nI 9)) dX7_init_45 (by decide +kernel) ?_
  refine kj_newa (t0 := 0) (kk := 13) (N := 9) dX7_init_47 (by decide +kernel) rfl rfl (by decide +kernel) (by decide +kernel) (Nat.le_of_ble_eq_true rfl) (Nat.le_of_ble_eq_true rfl) (Nat.le_of_ble_eq_true rfl) (fun q5 => ?_)
  show kj_J l D cs _ _ p e s m args below meth c _ _ 6 54 [(h0, .inr (7, [.int 0, .ref q0, .ref q1, .ref q2, .ref q3, .ref q4, .null, .null, .null, .null, .null, .null])), (q0, .inl (cs 13, 9, .inl (fun _ => 0))), (q1, .inl (cs 13, 9, .inl (fun _ => 0))), (q2, .inl (cs 13, 9, .inl (fun _ => 0))), (q3, .inl (cs 13, 9, .inl (fun _ => 0))), (q4, .inl (cs 13, 9, .inl (fun _ => 0))), (q5, .inl (cs 13, 9, .inl (fun _ => 0)))] 49 [.ref h0] [.ref q5, .ref h0]
  refine kj_putF (ci := 7) (k9 := 6) (ty := .array .int) hin dX7_init_49 rfl (by decide +kernel) (by decide +kernel) rfl rfl (by decide +kernel) rfl rfl (Nat.le_of_ble_eq_true rfl) rfl ?_
  show kj_J l D cs _ _ p e s m args below meth c _ _ 6 54 [(h0, .inr (7, [.int 0, .ref q0, .ref q1, .ref q2, .ref q3, .ref q4, .ref q5, .null, .null, .null, .null, .null])), (q0, .inl (cs 13, 9, .inl (fun _ => 0))), (q1, .inl (cs 13, 9, .inl (fun _ => 0))), (q2, .inl (cs 13, 9, .inl (fun _ => 0))), (q3, .inl (cs 13, 9, .inl (fun _ => 0))), (q4, .inl (cs 13, 9, .inl (fun _ => 0))), (q5, .inl (cs 13, 9, .inl (fun _ => 0)))] 52 [.ref h0] []
  refine kj_aload_n dX7_init_52 (i := 0) rfl rfl ?_
  refine kj_bipush (v := (nI 9)) dX7_init_53 (by decide +kernel) ?_
  refine kj_newa (t0 := 0) (kk := 13) (N := 9) dX7_init_55 (by decide +kernel) rfl rfl (by decide +kernel) (by decide +kernel) (Nat.le_of_ble_eq_true rfl) (Nat.le_of_ble_eq_true rfl) (Nat.le_of_ble_eq_true rfl) (fun q6 => ?_)
  show kj_J l D cs _ _ p e s m args below meth c _ _ 7 63 [(h0, .inr (7, [.int 0, .ref q0, .ref q1, .ref q2, .ref q3, .ref q4, .ref q5, .null, .null, .null, .null, .null])), (q0, .inl (cs 13, 9, .inl (fun _ => 0))), (q1, .inl (cs 13, 9, .inl (fun _ => 0))), (q2, .inl (cs 13, 9, .inl (fun _ => 0))), (q3, .inl (cs 13, 9, .inl (fun _ => 0))), (q4, .inl (cs 13, 9, .inl (fun _ => 0))), (q5, .inl (cs 13, 9, .inl (fun _ => 0))), (q6, .inl (cs 13, 9, .inl (fun _ => 0)))] 57 [.ref h0] [.ref q6, .ref h0]
  refine kj_putF (ci := 7) (k9 := 7) (ty := .array .int) hin dX7_init_57 rfl (by decide +kernel) (by decide +kernel) rfl rfl (by decide +kernel) rfl rfl (Nat.le_of_ble_eq_true rfl) rfl ?_
  show kj_J l D cs _ _ p e s m args below meth c _ _ 7 63 [(h0, .inr (7, [.int 0, .ref q0, .ref q1, .ref q2, .ref q3, .ref q4, .ref q5, .ref q6, .null, .null, .null, .null])), (q0, .inl (cs 13, 9, .inl (fun _ => 0))), (q1, .inl (cs 13, 9, .inl (fun _ => 0))), (q2, .inl (cs 13, 9, .inl (fun _ => 0))), (q3, .inl (cs 13, 9, .inl (fun _ => 0))), (q4, .inl (cs 13, 9, .inl (fun _ => 0))), (q5, .inl (cs 13, 9, .inl (fun _ => 0))), (q6, .inl (cs 13, 9, .inl (fun _ => 0)))] 60 [.ref h0] []
  refine kj_aload_n dX7_init_60 (i := 0) rfl rfl ?_
  refine kj_bipush (v := (nI 9)) dX7_init_61 (by decide +kernel) ?_
  refine kj_newa (t0 := 0) (kk := 13) (N := 9) dX7_init_63 (by decide +kernel) rfl rfl (by decide +kernel) (by decide +kernel) (Nat.le_of_ble_eq_true rfl) (Nat.le_of_ble_eq_true rfl) (Nat.le_of_ble_eq_true rfl) (fun q7 => ?_)
  show kj_J l D cs _ _ p e s m args below meth c _ _ 8 72 [(h0, .inr (7, [.int 0, .ref q0, .ref q1, .ref q2, .ref q3, .ref q4, .ref q5, .ref q6, .null, .null, .null, .null])), (q0, .inl (cs 13, 9, .inl (fun _ => 0))), (q1, .inl (cs 13, 9, .inl (fun _ => 0))), (q2, .inl (cs 13, 9, .inl (fun _ => 0))), (q3, .inl (cs 13, 9, .inl (fun _ => 0))), (q4, .inl (cs 13, 9, .inl (fun _ => 0))), (q5, .inl (cs 13, 9, .inl (fun _ => 0))), (q6, .inl (cs 13, 9, .inl (fun _ => 0))), (q7, .inl (cs 13, 9, .inl (fun _ => 0)))] 65 [.ref h0] [.ref q7, .ref h0]
  refine kj_putF (ci := 7) (k9 := 8) (ty := .array .int) hin dX7_init_65 rfl (by decide +kernel) (by decide +kernel) rfl rfl (by decide +kernel) rfl rfl (Nat.le_of_ble_eq_true rfl) rfl ?_
  show kj_J l D cs _ _ p e s m args below meth c _ _ 8 72 [(h0, .inr (7, [.int 0, .ref q0, .ref q1, .ref q2, .ref q3, .ref q4, .ref q5, .ref q6, .ref q7, .null, .null, .null])), (q0, .inl (cs 13, 9, .inl (fun _ => 0))), (q1, .inl (cs 13, 9, .inl (fun _ => 0))), (q2, .inl (cs 13, 9, .inl (fun _ => 0))), (q3, .inl (cs 13, 9, .inl (fun _ => 0))), (q4, .inl (cs 13, 9, .inl (fun _ => 0))), (q5, .inl (cs 13, 9, .inl (fun _ => 0))), (q6, .inl (cs 13, 9, .inl (fun _ => 0))), (q7, .inl (cs 13, 9, .inl (fun _ => 0)))] 68 [.ref h0] []
  refine kj_aload_n dX7_init_68 (i := 0) rfl rfl ?_
  refine kj_bipush (v := (nI 9)) dX7_init_69 (by decide +kernel) ?_
  refine kj_newa (t0 := 0) (kk := 13) (N := 9) dX7_init_71 (by decide +kernel) rfl rfl (by decide +kernel) (by decide +kernel) (Nat.le_of_ble_eq_true rfl) (Nat.le_of_ble_eq_true rfl) (Nat.le_of_ble_eq_true rfl) (fun q8 => ?_)
  show kj_J l D cs _ _ p e s m args below meth c _ _ 9 81 [(h0, .inr (7, [.int 0, .ref q0, .ref q1, .ref q2, .ref q3, .ref q4, .ref q5, .ref q6, .ref q7, .null, .null, .null])), (q0, .inl (cs 13, 9, .inl (fun _ => 0))), (q1, .inl (cs 13, 9, .inl (fun _ => 0))), (q2, .inl (cs 13, 9, .inl (fun _ => 0))), (q3, .inl (cs 13, 9, .inl (fun _ => 0))), (q4, .inl (cs 13, 9, .inl (fun _ => 0))), (q5, .inl (cs 13, 9, .inl (fun _ => 0))), (q6, .inl (cs 13, 9, .inl (fun _ => 0))), (q7, .inl (cs 13, 9, .inl (fun _ => 0))), (q8, .inl (cs 13, 9, .inl (fun _ => 0)))] 73 [.ref h0] [.ref q8, .ref h0]
  refine kj_putF (ci := 7) (k9 := 9) (ty := .array .int) hin dX7_init_73 rfl (by decide +kernel) (by decide +kernel) rfl rfl (by decide +kernel) rfl rfl (Nat.le_of_ble_eq_true rfl) rfl ?_
  show kj_J l D cs _ _ p e s m args below meth c _ _ 9 81 [(h0, .inr (7, [.int 0, .ref q0, .ref q1, .ref q2, .ref q3, .ref q4, .ref q5, .ref q6, .ref q7, .ref q8, .null, .null])), (q0, .inl (cs 13, 9, .inl (fun _ => 0))), (q1, .inl (cs 13, 9, .inl (fun _ => 0))), (q2, .inl (cs 13, 9, .inl (fun _ => 0))), (q3, .inl (cs 13, 9, .inl (fun _ => 0))), (q4, .inl (cs 13, 9, .inl (fun _ => 0))), (q5, .inl (cs 13, 9, .inl (fun _ => 0))), (q6, .inl (cs 13, 9, .inl (fun _ => 0))), (q7, .inl (cs 13, 9, .inl (fun _ => 0))), (q8, .inl (cs 13, 9, .inl (fun _ => 0)))] 76 [.ref h0] []
  refine kj_aload_n dX7_init_76 (i := 0) rfl rfl ?_
  refine kj_bipush (v := (nI 9)) dX7_init_77 (by decide +kernel) ?_
  refine kj_newa (t0 := 0) (kk := 13) (N := 9) dX7_init_79 (by decide +kernel) rfl rfl (by decide +kernel) (by decide +kernel) (Nat.le_of_ble_eq_true rfl) (Nat.le_of_ble_eq_true rfl) (Nat.le_of_ble_eq_true rfl) (fun q9 => ?_)
  show kj_J l D cs _ _ p e s m args below meth c _ _ 10 90 [(h0, .inr (7, [.int 0, .ref q0, .ref q1, .ref q2, .ref q3, .ref q4, .ref q5, .ref q6, .ref q7, .ref q8, .null, .null])), (q0, .inl (cs 13, 9, .inl (fun _ => 0))), (q1, .inl (cs 13, 9, .inl (fun _ => 0))), (q2, .inl (cs 13, 9, .inl (fun _ => 0))), (q3, .inl (cs 13, 9, .inl (fun _ => 0))), (q4, .inl (cs 13, 9, .inl (fun _ => 0))), (q5, .inl (cs 13, 9, .inl (fun _ => 0))), (q6, .inl (cs 13, 9, .inl (fun _ => 0))), (q7, .inl (cs 13, 9, .inl (fun _ => 0))), (q8, .inl (cs 13, 9, .inl (fun _ => 0))), (q9, .inl (cs 13, 9, .inl (fun _ => 0)))] 81 [.ref h0] [.ref q9, .ref h0]
  refine kj_putF (ci := 7) (k9 := 10) (ty := .array .int) hin dX7_init_81 rfl (by decide +kernel) (by decide +kernel) rfl rfl (by decide +kernel) rfl rfl (Nat.le_of_ble_eq_true rfl) rfl ?_
  show kj_J l D cs _ _ p e s m args below meth c _ _ 10 90 [(h0, .inr (7, [.int 0, .ref q0, .ref q1, .ref q2, .ref q3, .ref q4, .ref q5, .ref q6, .ref q7, .ref q8, .ref q9, .null])), (q0, .inl (cs 13, 9, .inl (fun _ => 0))), (q1, .inl (cs 13, 9, .inl (fun _ => 0))), (q2, .inl (cs 13, 9, .inl (fun _ => 0))), (q3, .inl (cs 13, 9, .inl (fun _ => 0))), (q4, .inl (cs 13, 9, .inl (fun _ => 0))), (q5, .inl (cs 13, 9, .inl (fun _ => 0))), (q6, .inl (cs 13, 9, .inl (fun _ => 0))), (q7, .inl (cs 13, 9, .inl (fun _ => 0))), (q8, .inl (cs 13, 9, .inl (fun _ => 0))), (q9, .inl (cs 13, 9, .inl (fun _ => 0)))] 84 [.ref h0] []
  refine kj_aload_n dX7_init_84 (i := 0) rfl rfl ?_
  refine kj_bipush (v := (nI 9)) dX7_init_85 (by decide +kernel) ?_
  refine kj_newa (t0 := 0) (kk := 13) (N := 9) dX7_init_87 (by decide +kernel) rfl rfl (by decide +kernel) (by decide +kernel) (Nat.le_of_ble_eq_true rfl) (Nat.le_of_ble_eq_true rfl) (Nat.le_of_ble_eq_true rfl) (fun q10 => ?_)
  show kj_J l D cs _ _ p e s m args below meth c _ _ 11 99 [(h0, .inr (7, [.int 0, .ref q0, .ref q1, .ref q2, .ref q3, .ref q4, .ref q5, .ref q6, .ref q7, .ref q8, .ref q9, .null])), (q0, .inl (cs 13, 9, .inl (fun _ => 0))), (q1, .inl (cs 13, 9, .inl (fun _ => 0))), (q2, .inl (cs 13, 9, .inl (fun _ => 0))), (q3, .inl (cs 13, 9, .inl (fun _ => 0))), (q4, .inl (cs 13, 9, .inl (fun _ => 0))), (q5, .inl (cs 13, 9, .inl (fun _ => 0))), (q6, .inl (cs 13, 9, .inl (fun _ => 0))), (q7, .inl (cs 13, 9, .inl (fun _ => 0))), (q8, .inl (cs 13, 9, .inl (fun _ => 0))), (q9, .inl (cs 13, 9, .inl (fun _ => 0))), (q10, .inl (cs 13, 9, .inl (fun _ => 0)))] 89 [.ref h0] [.ref q10, .ref h0]
  refine kj_putF (ci := 7) (k9 := 11) (ty := .array .int) hin dX7_init_89 rfl (by decide +kernel) (by decide +kernel) rfl rfl (by decide +kernel) rfl rfl (Nat.le_of_ble_eq_true rfl) rfl ?_
  show kj_J l D cs _ _ p e s m args below meth c _ _ 11 99 [(h0, .inr (7, [.int 0, .ref q0, .ref q1, .ref q2, .ref q3, .ref q4, .ref q5, .ref q6, .ref q7, .ref q8, .ref q9, .ref q10])), (q0, .inl (cs 13, 9, .inl (fun _ => 0))), (q1, .inl (cs 13, 9, .inl (fun _ => 0))), (q2, .inl (cs 13, 9, .inl (fun _ => 0))), (q3, .inl (cs 13, 9, .inl (fun _ => 0))), (q4, .inl (cs 13, 9, .inl (fun _ => 0))), (q5, .inl (cs 13, 9, .inl (fun _ => 0))), (q6, .inl (cs 13, 9, .inl (fun _ => 0))), (q7, .inl (cs 13, 9, .inl (fun _ => 0))), (q8, .inl (cs 13, 9, .inl (fun _ => 0))), (q9, .inl (cs 13, 9, .inl (fun _ => 0))), (q10, .inl (cs 13, 9, .inl (fun _ => 0)))] 92 [.ref h0] []
  exact kj_ret (ad := kj_ad 18 [h0, q0, q1, q2, q3, q4, q5, q6, q7, q8, q9, q10]) (b := 18) (n := 12) (r := 18) dX7_init_92 rfl rfl rfl (fun _ h => h) (fun h => h) (Nat.le_of_ble_eq_true rfl) (Nat.le_of_ble_eq_true rfl)
end KJC
