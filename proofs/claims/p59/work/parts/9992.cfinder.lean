section KJC
variable {l : Launch} {D : va_G} {cs : Nat → ClassId}
set_option maxRecDepth 20000 in
set_option maxHeartbeats 1000000 in
theorem k_X4_init : kj_C l D cs me_X4_init 3 17 2706 18 18 30 zInit := by
  refine kj_enter (by decide +kernel) rfl rfl rfl rfl (Nat.le_of_ble_eq_true rfl) (fun h0 p e s m args below meth c hin => ?_)
  show kj_J l D cs _ _ p e s m args below meth c _ _ 0 0 [(h0, .inr (4, [.null, .null, .null, .int 0, .null, .null, .null, .int 0]))] 0 [.ref h0] []
  refine kj_aload_n dX4_init_0 (i := 0) rfl rfl ?_
  refine kj_objInit dX4_init_1 (by decide +kernel) (by decide +kernel) (by decide +kernel) ⟨Nat.le_of_ble_eq_true rfl, Nat.le_of_ble_eq_true rfl⟩ ?_
  refine kj_aload_n dX4_init_4 (i := 0) rfl rfl ?_
  refine kj_new (ci := 7) (fs := kj_df 18) dX4_init_5 rfl (by decide +kernel) (by decide +kernel) (by decide +kernel) (by decide +kernel) (Nat.le_of_ble_eq_true rfl) (Nat.le_of_ble_eq_true rfl) (fun x0 => ?_)
  refine kj_dup dX4_init_8 rfl ?_
  refine kj_initN (M' := me_X7_init) (d' := 2) (mc := 11) (ms := 99) (b := 18) (n := 12) (r := 18) (σ0 := zInit) dX4_init_9 gX4_init_X7_init_n11 rfl (by decide +kernel) (by decide +kernel) (by decide +kernel) rfl (by decide +kernel) ⟨Nat.le_of_ble_eq_true rfl, Nat.le_of_ble_eq_true rfl⟩ ⟨Nat.le_of_ble_eq_true rfl, Nat.le_of_ble_eq_true rfl⟩ (Nat.le_of_ble_eq_true rfl) k_X7_init_f (fun a0 e0 => ?_)
  show kj_J l D cs _ _ p e s m args below meth c _ _ 12 111 ([(h0, .inr (4, [.null, .null, .null, .int 0, .null, .null, .null, .int 0]))] ++ kj_sl a0 cs zInit 18 12) 12 [.ref h0] [.ref x0, .ref h0]
  refine kj_putF (ci := 4) (k9 := 0) (ty := .object "Schoolhours$Rules") hin dX4_init_12 rfl (by decide +kernel) (by decide +kernel) rfl rfl (by decide +kernel) rfl rfl (Nat.le_of_ble_eq_true rfl) rfl ?_
  show kj_J l D cs _ _ p e s m args below meth c _ _ 12 111 ([(h0, .inr (4, [.ref x0, .null, .null, .int 0, .null, .null, .null, .int 0]))] ++ kj_sl a0 cs zInit 18 12) 15 [.ref h0] []
  refine kj_aload_n dX4_init_15 (i := 0) rfl rfl ?_
  refine kj_bipush (v := (nI 9)) dX4_init_16 (by decide +kernel) ?_
  refine kj_newa (t0 := 0) (kk := 13) (N := 9) dX4_init_18 (by decide +kernel) rfl rfl (by decide +kernel) (by decide +kernel) (Nat.le_of_ble_eq_true rfl) (Nat.le_of_ble_eq_true rfl) (Nat.le_of_ble_eq_true rfl) (fun q1 => ?_)
  show kj_J l D cs _ _ p e s m args below meth c _ _ 13 120 (([(h0, .inr (4, [.ref x0, .null, .null, .int 0, .null, .null, .null, .int 0]))] ++ kj_sl a0 cs zInit 18 12) ++ [(q1, .inl (cs 13, 9, .inl (fun _ => 0)))]) 20 [.ref h0] [.ref q1, .ref h0]
  refine kj_putF (ci := 4) (k9 := 1) (ty := .array .int) hin dX4_init_20 rfl (by decide +kernel) (by decide +kernel) rfl rfl (by decide +kernel) rfl rfl (Nat.le_of_ble_eq_true rfl) rfl ?_
  show kj_J l D cs _ _ p e s m args below meth c _ _ 13 120 (([(h0, .inr (4, [.ref x0, .ref q1, .null, .int 0, .null, .null, .null, .int 0]))] ++ kj_sl a0 cs zInit 18 12) ++ [(q1, .inl (cs 13, 9, .inl (fun _ => 0)))]) 23 [.ref h0] []
  refine kj_aload_n dX4_init_23 (i := 0) rfl rfl ?_
  refine kj_bipush (v := (nI 12)) dX4_init_24 (by decide +kernel) ?_
  refine kj_newa (t0 := 0) (kk := 13) (N := 12) dX4_init_26 (by decide +kernel) rfl rfl (by decide +kernel) (by decide +kernel) (Nat.le_of_ble_eq_true rfl) (Nat.le_of_ble_eq_true rfl) (Nat.le_of_ble_eq_true rfl) (fun q2 => ?_)
  show kj_J l D cs _ _ p e s m args below meth c _ _ 14 132 (([(h0, .inr (4, [.ref x0, .ref q1, .null, .int 0, .null, .null, .null, .int 0]))] ++ kj_sl a0 cs zInit 18 12) ++ [(q1, .inl (cs 13, 9, .inl (fun _ => 0))), (q2, .inl (cs 13, 12, .inl (fun _ => 0)))]) 28 [.ref h0] [.ref q2, .ref h0]
  refine kj_putF (ci := 4) (k9 := 2) (ty := .array .int) hin dX4_init_28 rfl (by decide +kernel) (by decide +kernel) rfl rfl (by decide +kernel) rfl rfl (Nat.le_of_ble_eq_true rfl) rfl ?_
  show kj_J l D cs _ _ p e s m args below meth c _ _ 14 132 (([(h0, .inr (4, [.ref x0, .ref q1, .ref q2, .int 0, .null, .null, .null, .int 0]))] ++ kj_sl a0 cs zInit 18 12) ++ [(q1, .inl (cs 13, 9, .inl (fun _ => 0))), (q2, .inl (cs 13, 12, .inl (fun _ => 0)))]) 31 [.ref h0] []
  refine kj_aload_n dX4_init_31 (i := 0) rfl rfl ?_
  refine kj_iconst (v := (-1)) dX4_init_32 (by decide +kernel) ?_
  refine kj_put (ci := 4) (k9 := 3) (ty := .int) dX4_init_33 rfl (by decide +kernel) (by decide +kernel) rfl (by decide +kernel) rfl rfl (Nat.le_of_ble_eq_true rfl) rfl ?_
  show kj_J l D cs _ _ p e s m args below meth c _ _ 14 132 (([(h0, .inr (4, [.ref x0, .ref q1, .ref q2, .int (-1), .null, .null, .null, .int 0]))] ++ kj_sl a0 cs zInit 18 12) ++ [(q1, .inl (cs 13, 9, .inl (fun _ => 0))), (q2, .inl (cs 13, 12, .inl (fun _ => 0)))]) 36 [.ref h0] []
  refine kj_aload_n dX4_init_36 (i := 0) rfl rfl ?_
  refine kj_sipush (v := (nI 2560)) dX4_init_37 (by decide +kernel) ?_
  refine kj_newa (t0 := 0) (kk := 13) (N := 2560) dX4_init_40 (by decide +kernel) rfl rfl (by decide +kernel) (by decide +kernel) (Nat.le_of_ble_eq_true rfl) (Nat.le_of_ble_eq_true rfl) (Nat.le_of_ble_eq_true rfl) (fun q3 => ?_)
  show kj_J l D cs _ _ p e s m args below meth c _ _ 15 2692 (([(h0, .inr (4, [.ref x0, .ref q1, .ref q2, .int (-1), .null, .null, .null, .int 0]))] ++ kj_sl a0 cs zInit 18 12) ++ [(q1, .inl (cs 13, 9, .inl (fun _ => 0))), (q2, .inl (cs 13, 12, .inl (fun _ => 0))), (q3, .inl (cs 13, 2560, .inl (fun _ => 0)))]) 42 [.ref h0] [.ref q3, .ref h0]
  refine kj_putF (ci := 4) (k9 := 4) (ty := .array .int) hin dX4_init_42 rfl (by decide +kernel) (by decide +kernel) rfl rfl (by decide +kernel) rfl rfl (Nat.le_of_ble_eq_true rfl) rfl ?_
  show kj_J l D cs _ _ p e s m args below meth c _ _ 15 2692 (([(h0, .inr (4, [.ref x0, .ref q1, .ref q2, .int (-1), .ref q3, .null, .null, .int 0]))] ++ kj_sl a0 cs zInit 18 12) ++ [(q1, .inl (cs 13, 9, .inl (fun _ => 0))), (q2, .inl (cs 13, 12, .inl (fun _ => 0))), (q3, .inl (cs 13, 2560, .inl (fun _ => 0)))]) 45 [.ref h0] []
  refine kj_aload_n dX4_init_45 (i := 0) rfl rfl ?_
  refine kj_iconst (v := (nI 5)) dX4_init_46 (by decide +kernel) ?_
  refine kj_newa (t0 := 0) (kk := 13) (N := 5) dX4_init_47 (by decide +kernel) rfl rfl (by decide +kernel) (by decide +kernel) (Nat.le_of_ble_eq_true rfl) (Nat.le_of_ble_eq_true rfl) (Nat.le_of_ble_eq_true rfl) (fun q4 => ?_)
  show kj_J l D cs _ _ p e s m args below meth c _ _ 16 2697 (([(h0, .inr (4, [.ref x0, .ref q1, .ref q2, .int (-1), .ref q3, .null, .null, .int 0]))] ++ kj_sl a0 cs zInit 18 12) ++ [(q1, .inl (cs 13, 9, .inl (fun _ => 0))), (q2, .inl (cs 13, 12, .inl (fun _ => 0))), (q3, .inl (cs 13, 2560, .inl (fun _ => 0))), (q4, .inl (cs 13, 5, .inl (fun _ => 0)))]) 49 [.ref h0] [.ref q4, .ref h0]
  refine kj_putF (ci := 4) (k9 := 5) (ty := .array .int) hin dX4_init_49 rfl (by decide +kernel) (by decide +kernel) rfl rfl (by decide +kernel) rfl rfl (Nat.le_of_ble_eq_true rfl) rfl ?_
  show kj_J l D cs _ _ p e s m args below meth c _ _ 16 2697 (([(h0, .inr (4, [.ref x0, .ref q1, .ref q2, .int (-1), .ref q3, .ref q4, .null, .int 0]))] ++ kj_sl a0 cs zInit 18 12) ++ [(q1, .inl (cs 13, 9, .inl (fun _ => 0))), (q2, .inl (cs 13, 12, .inl (fun _ => 0))), (q3, .inl (cs 13, 2560, .inl (fun _ => 0))), (q4, .inl (cs 13, 5, .inl (fun _ => 0)))]) 52 [.ref h0] []
  refine kj_aload_n dX4_init_52 (i := 0) rfl rfl ?_
  refine kj_bipush (v := (nI 9)) dX4_init_53 (by decide +kernel) ?_
  refine kj_newa (t0 := 0) (kk := 13) (N := 9) dX4_init_55 (by decide +kernel) rfl rfl (by decide +kernel) (by decide +kernel) (Nat.le_of_ble_eq_true rfl) (Nat.le_of_ble_eq_true rfl) (Nat.le_of_ble_eq_true rfl) (fun q5 => ?_)
  show kj_J l D cs _ _ p e s m args below meth c _ _ 17 2706 (([(h0, .inr (4, [.ref x0, .ref q1, .ref q2, .int (-1), .ref q3, .ref q4, .null, .int 0]))] ++ kj_sl a0 cs zInit 18 12) ++ [(q1, .inl (cs 13, 9, .inl (fun _ => 0))), (q2, .inl (cs 13, 12, .inl (fun _ => 0))), (q3, .inl (cs 13, 2560, .inl (fun _ => 0))), (q4, .inl (cs 13, 5, .inl (fun _ => 0))), (q5, .inl (cs 13, 9, .inl (fun _ => 0)))]) 57 [.ref h0] [.ref q5, .ref h0]
  refine kj_putF (ci := 4) (k9 := 6) (ty := .array .int) hin dX4_init_57 rfl (by decide +kernel) (by decide +kernel) rfl rfl (by decide +kernel) rfl rfl (Nat.le_of_ble_eq_true rfl) rfl ?_
  show kj_J l D cs _ _ p e s m args below meth c _ _ 17 2706 (([(h0, .inr (4, [.ref x0, .ref q1, .ref q2, .int (-1), .ref q3, .ref q4, .ref q5, .int 0]))] ++ kj_sl a0 cs zInit 18 12) ++ [(q1, .inl (cs 13, 9, .inl (fun _ => 0))), (q2, .inl (cs 13, 12, .inl (fun _ => 0))), (q3, .inl (cs 13, 2560, .inl (fun _ => 0))), (q4, .inl (cs 13, 5, .inl (fun _ => 0))), (q5, .inl (cs 13, 9, .inl (fun _ => 0)))]) 60 [.ref h0] []
  subst e0
  exact kj_ret (ad := fun p => if p < 30 then a0 p else kj_ad 30 [h0, q1, q2, q3, q4, q5] p) (b := 18) (n := 18) (r := 30) dX4_init_60 rfl rfl rfl (fun _ h => h.sub (ws' := kj_sl (fun p => if p < 30 then a0 p else kj_ad 30 [h0, q1, q2, q3, q4, q5] p) cs zInit 18 18) [1, 2, 3, 4, 5, 6, 7, 8, 9, 10, 11, 12, 0, 13, 14, 15, 16, 17] rfl) (fun h => h.sub (ws' := kj_sl (fun p => if p < 30 then a0 p else kj_ad 30 [h0, q1, q2, q3, q4, q5] p) cs zInit 18 18) [1, 2, 3, 4, 5, 6, 7, 8, 9, 10, 11, 12, 0, 13, 14, 15, 16, 17] (by decide) rfl) (Nat.le_of_ble_eq_true rfl) (Nat.le_of_ble_eq_true rfl)
end KJC
