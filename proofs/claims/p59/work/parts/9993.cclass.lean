theorem kj_sl_ap {ad : Nat → Nat} {cs : Nat → ClassId} {σ : sj_S} {b n b2 m : Nat} (h : b2 = b + n) : kj_sl ad cs σ b n ++ kj_sl ad cs σ b2 m = kj_sl ad cs σ b (n + m) := by
  subst h
  unfold kj_sl
  rw [List.range_add, List.map_append, List.map_map]
  congr 1
  apply List.map_congr_left
  intro k _
  show _ = (ad (b + (n + k)), sj_ent ad cs σ (b + (n + k)))
  rw [Nat.add_assoc]
/-- references stay inside -/
def kj_clo (b n : Nat) : Bool := (List.range n).all fun i => (List.range (sj_ln (b + i))).all fun k => decide (sj_rf (b + i) k = 0) || (decide (b ≤ sj_rf (b + i) k) && decide (sj_rf (b + i) k < b + n))
theorem kj_sl_congr {ad ad' : Nat → Nat} {cs : Nat → ClassId} {σ : sj_S} {b n : Nat} (hc : kj_clo b n = true) (h : ∀ k, k < n → ad (b + k) = ad' (b + k)) : kj_sl ad cs σ b n = kj_sl ad' cs σ b n := by
  unfold kj_sl
  apply List.map_congr_left
  intro i hi
  have hi := List.mem_range.mp hi
  have hf : sj_fs ad σ (b + i) = sj_fs ad' σ (b + i) := by
    unfold sj_fs
    apply List.map_congr_left
    intro k hk
    have h1 := List.all_eq_true.mp (List.all_eq_true.mp hc i (List.mem_range.mpr hi)) k hk
    simp only [Bool.or_eq_true, Bool.and_eq_true, decide_eq_true_eq] at h1
    unfold sj_fv
    rcases h1 with h1 | ⟨h1, h2⟩
    · rw [if_pos h1, if_pos h1]
    · have := h (sj_rf (b + i) k - b) (by omega)
      rw [show b + (sj_rf (b + i) k - b) = sj_rf (b + i) k by omega] at this
      rw [this]
  rw [h i hi]
  unfold sj_ent
  rw [hf]
section KJC
variable {l : Launch} {D : va_G} {cs : Nat → ClassId}
set_option maxRecDepth 20000 in
set_option maxHeartbeats 1000000 in
theorem k_X11_init : kj_C l D cs me_X11_init 4 55 6035 0 56 0 zInit := by
  refine kj_enter (by decide +kernel) rfl rfl rfl rfl (Nat.le_of_ble_eq_true rfl) (fun h0 p e s m args below meth c hin => ?_)
  show kj_J l D cs _ _ p e s m args below meth c _ _ 0 0 [(h0, .inr (11, [.null, .null, .null, .null, .null, .null, .null, .null, .null, .null, .null]))] 0 [.ref h0] []
  refine kj_aload_n dX11_init_0 (i := 0) rfl rfl ?_
  refine kj_objInit dX11_init_1 (by decide +kernel) (by decide +kernel) (by decide +kernel) ⟨Nat.le_of_ble_eq_true rfl, Nat.le_of_ble_eq_true rfl⟩ ?_
  refine kj_aload_n dX11_init_4 (i := 0) rfl rfl ?_
  refine kj_new (ci := 8) (fs := kj_df 1) dX11_init_5 rfl (by decide +kernel) (by decide +kernel) (by decide +kernel) (by decide +kernel) (Nat.le_of_ble_eq_true rfl) (Nat.le_of_ble_eq_true rfl) (fun x0 => ?_)
  refine kj_dup dX11_init_8 rfl ?_
  refine kj_initI (M' := me_X8_init) (d' := 2) (mc := 2) (ms := 128) (b := 1) (n := 3) (r := 1) (σ0 := zInit) dX11_init_9 gX11_init_X8_init rfl (by decide +kernel) (by decide +kernel) (by decide +kernel) rfl (by decide +kernel) ⟨Nat.le_of_ble_eq_true rfl, Nat.le_of_ble_eq_true rfl⟩ ⟨Nat.le_of_ble_eq_true rfl, Nat.le_of_ble_eq_true rfl⟩ (Nat.le_of_ble_eq_true rfl) k_X8_init (fun a0 e0 => ?_)
  show kj_J l D cs _ _ p e s m args below meth c _ _ 3 130 ([(h0, .inr (11, [.null, .null, .null, .null, .null, .null, .null, .null, .null, .null, .null]))] ++ kj_sl a0 cs zInit 1 3) 12 [.ref h0] [.ref x0, .ref h0]
  refine kj_putF (ci := 11) (k9 := 0) (ty := .object "Schoolhours$School") hin dX11_init_12 rfl (by decide +kernel) (by decide +kernel) rfl rfl (by decide +kernel) rfl rfl (Nat.le_of_ble_eq_true rfl) rfl ?_
  show kj_J l D cs _ _ p e s m args below meth c _ _ 3 130 ([(h0, .inr (11, [.ref x0, .null, .null, .null, .null, .null, .null, .null, .null, .null, .null]))] ++ kj_sl a0 cs zInit 1 3) 15 [.ref h0] []
  refine kj_aload_n dX11_init_15 (i := 0) rfl rfl ?_
  refine kj_new (ci := 5) (fs := kj_df 4) dX11_init_16 rfl (by decide +kernel) (by decide +kernel) (by decide +kernel) (by decide +kernel) (Nat.le_of_ble_eq_true rfl) (Nat.le_of_ble_eq_true rfl) (fun x1 => ?_)
  refine kj_dup dX11_init_19 rfl ?_
  refine kj_initN (M' := me_X5_init) (d' := 2) (mc := 1) (ms := 2560) (b := 4) (n := 2) (r := 4) (σ0 := zInit) dX11_init_20 gX11_init_X5_init_n18 rfl (by decide +kernel) (by decide +kernel) (by decide +kernel) rfl (by decide +kernel) ⟨Nat.le_of_ble_eq_true rfl, Nat.le_of_ble_eq_true rfl⟩ ⟨Nat.le_of_ble_eq_true rfl, Nat.le_of_ble_eq_true rfl⟩ (Nat.le_of_ble_eq_true rfl) k_X5_init (fun a1 e1 => ?_)
  show kj_J l D cs _ _ p e s m args below meth c _ _ 5 2693 (([(h0, .inr (11, [.ref x0, .null, .null, .null, .null, .null, .null, .null, .null, .null, .null]))] ++ kj_sl a0 cs zInit 1 3) ++ kj_sl a1 cs zInit 4 2) 23 [.ref h0] [.ref x1, .ref h0]
  refine kj_putF (ci := 11) (k9 := 1) (ty := .object "Schoolhours$History") hin dX11_init_23 rfl (by decide +kernel) (by decide +kernel) rfl rfl (by decide +kernel) rfl rfl (Nat.le_of_ble_eq_true rfl) rfl ?_
  show kj_J l D cs _ _ p e s m args below meth c _ _ 5 2693 (([(h0, .inr (11, [.ref x0, .ref x1, .null, .null, .null, .null, .null, .null, .null, .null, .null]))] ++ kj_sl a0 cs zInit 1 3) ++ kj_sl a1 cs zInit 4 2) 26 [.ref h0] []
  refine kj_aload_n dX11_init_26 (i := 0) rfl rfl ?_
  refine kj_new (ci := 7) (fs := kj_df 6) dX11_init_27 rfl (by decide +kernel) (by decide +kernel) (by decide +kernel) (by decide +kernel) (Nat.le_of_ble_eq_true rfl) (Nat.le_of_ble_eq_true rfl) (fun x2 => ?_)
  refine kj_dup dX11_init_30 rfl ?_
  refine kj_initN (M' := me_X7_init) (d' := 2) (mc := 11) (ms := 99) (b := 6) (n := 12) (r := 6) (σ0 := zInit) dX11_init_31 gX11_init_X7_init_n25 rfl (by decide +kernel) (by decide +kernel) (by decide +kernel) rfl (by decide +kernel) ⟨Nat.le_of_ble_eq_true rfl, Nat.le_of_ble_eq_true rfl⟩ ⟨Nat.le_of_ble_eq_true rfl, Nat.le_of_ble_eq_true rfl⟩ (Nat.le_of_ble_eq_true rfl) k_X7_init (fun a2 e2 => ?_)
  show kj_J l D cs _ _ p e s m args below meth c _ _ 17 2804 ((([(h0, .inr (11, [.ref x0, .ref x1, .null, .null, .null, .null, .null, .null, .null, .null, .null]))] ++ kj_sl a0 cs zInit 1 3) ++ kj_sl a1 cs zInit 4 2) ++ kj_sl a2 cs zInit 6 12) 34 [.ref h0] [.ref x2, .ref h0]
  refine kj_putF (ci := 11) (k9 := 2) (ty := .object "Schoolhours$Rules") hin dX11_init_34 rfl (by decide +kernel) (by decide +kernel) rfl rfl (by decide +kernel) rfl rfl (Nat.le_of_ble_eq_true rfl) rfl ?_
  show kj_J l D cs _ _ p e s m args below meth c _ _ 17 2804 ((([(h0, .inr (11, [.ref x0, .ref x1, .ref x2, .null, .null, .null, .null, .null, .null, .null, .null]))] ++ kj_sl a0 cs zInit 1 3) ++ kj_sl a1 cs zInit 4 2) ++ kj_sl a2 cs zInit 6 12) 37 [.ref h0] []
  refine kj_aload_n dX11_init_37 (i := 0) rfl rfl ?_
  refine kj_new (ci := 4) (fs := kj_df 30) dX11_init_38 rfl (by decide +kernel) (by decide +kernel) (by decide +kernel) (by decide +kernel) (Nat.le_of_ble_eq_true rfl) (Nat.le_of_ble_eq_true rfl) (fun x3 => ?_)
  refine kj_dup dX11_init_41 rfl ?_
  refine kj_initN (M' := me_X4_init) (d' := 3) (mc := 17) (ms := 2706) (b := 18) (n := 18) (r := 30) (σ0 := zInit) dX11_init_42 gX11_init_X4_init_n32 rfl (by decide +kernel) (by decide +kernel) (by decide +kernel) rfl (by decide +kernel) ⟨Nat.le_of_ble_eq_true rfl, Nat.le_of_ble_eq_true rfl⟩ ⟨Nat.le_of_ble_eq_true rfl, Nat.le_of_ble_eq_true rfl⟩ (Nat.le_of_ble_eq_true rfl) k_X4_init (fun a3 e3 => ?_)
  show kj_J l D cs _ _ p e s m args below meth c _ _ 35 5518 (((([(h0, .inr (11, [.ref x0, .ref x1, .ref x2, .null, .null, .null, .null, .null, .null, .null, .null]))] ++ kj_sl a0 cs zInit 1 3) ++ kj_sl a1 cs zInit 4 2) ++ kj_sl a2 cs zInit 6 12) ++ kj_sl a3 cs zInit 18 18) 45 [.ref h0] [.ref x3, .ref h0]
  refine kj_putF (ci := 11) (k9 := 3) (ty := .object "Schoolhours$Finder") hin dX11_init_45 rfl (by decide +kernel) (by decide +kernel) rfl rfl (by decide +kernel) rfl rfl (Nat.le_of_ble_eq_true rfl) rfl ?_
  show kj_J l D cs _ _ p e s m args below meth c _ _ 35 5518 (((([(h0, .inr (11, [.ref x0, .ref x1, .ref x2, .ref x3, .null, .null, .null, .null, .null, .null, .null]))] ++ kj_sl a0 cs zInit 1 3) ++ kj_sl a1 cs zInit 4 2) ++ kj_sl a2 cs zInit 6 12) ++ kj_sl a3 cs zInit 18 18) 48 [.ref h0] []
  refine kj_aload_n dX11_init_48 (i := 0) rfl rfl ?_
  refine kj_new (ci := 6) (fs := kj_df 36) dX11_init_49 rfl (by decide +kernel) (by decide +kernel) (by decide +kernel) (by decide +kernel) (Nat.le_of_ble_eq_true rfl) (Nat.le_of_ble_eq_true rfl) (fun x4 => ?_)
  refine kj_dup dX11_init_52 rfl ?_
  refine kj_initN (M' := me_X6_init) (d' := 2) (mc := 2) (ms := 18) (b := 36) (n := 3) (r := 36) (σ0 := zInit) dX11_init_53 gX11_init_X6_init_n39 rfl (by decide +kernel) (by decide +kernel) (by decide +kernel) rfl (by decide +kernel) ⟨Nat.le_of_ble_eq_true rfl, Nat.le_of_ble_eq_true rfl⟩ ⟨Nat.le_of_ble_eq_true rfl, Nat.le_of_ble_eq_true rfl⟩ (Nat.le_of_ble_eq_true rfl) k_X6_init (fun a4 e4 => ?_)
  show kj_J l D cs _ _ p e s m args below meth c _ _ 38 5539 ((((([(h0, .inr (11, [.ref x0, .ref x1, .ref x2, .ref x3, .null, .null, .null, .null, .null, .null, .null]))] ++ kj_sl a0 cs zInit 1 3) ++ kj_sl a1 cs zInit 4 2) ++ kj_sl a2 cs zInit 6 12) ++ kj_sl a3 cs zInit 18 18) ++ kj_sl a4 cs zInit 36 3) 56 [.ref h0] [.ref x4, .ref h0]
  refine kj_putF (ci := 11) (k9 := 4) (ty := .object "Schoolhours$Mover") hin dX11_init_56 rfl (by decide +kernel) (by decide +kernel) rfl rfl (by decide +kernel) rfl rfl (Nat.le_of_ble_eq_true rfl) rfl ?_
  show kj_J l D cs _ _ p e s m args below meth c _ _ 38 5539 ((((([(h0, .inr (11, [.ref x0, .ref x1, .ref x2, .ref x3, .ref x4, .null, .null, .null, .null, .null, .null]))] ++ kj_sl a0 cs zInit 1 3) ++ kj_sl a1 cs zInit 4 2) ++ kj_sl a2 cs zInit 6 12) ++ kj_sl a3 cs zInit 18 18) ++ kj_sl a4 cs zInit 36 3) 59 [.ref h0] []
  refine kj_aload_n dX11_init_59 (i := 0) rfl rfl ?_
  refine kj_new (ci := 1) (fs := kj_df 39) dX11_init_60 rfl (by decide +kernel) (by decide +kernel) (by decide +kernel) (by decide +kernel) (Nat.le_of_ble_eq_true rfl) (Nat.le_of_ble_eq_true rfl) (fun x5 => ?_)
  refine kj_dup dX11_init_63 rfl ?_
  refine kj_initN (M' := me_X1_init) (d' := 2) (mc := 1) (ms := 9) (b := 39) (n := 2) (r := 39) (σ0 := zInit) dX11_init_64 gX11_init_X1_init_n46 rfl (by decide +kernel) (by decide +kernel) (by decide +kernel) rfl (by decide +kernel) ⟨Nat.le_of_ble_eq_true rfl, Nat.le_of_ble_eq_true rfl⟩ ⟨Nat.le_of_ble_eq_true rfl, Nat.le_of_ble_eq_true rfl⟩ (Nat.le_of_ble_eq_true rfl) k_X1_init (fun a5 e5 => ?_)
  show kj_J l D cs _ _ p e s m args below meth c _ _ 40 5549 (((((([(h0, .inr (11, [.ref x0, .ref x1, .ref x2, .ref x3, .ref x4, .null, .null, .null, .null, .null, .null]))] ++ kj_sl a0 cs zInit 1 3) ++ kj_sl a1 cs zInit 4 2) ++ kj_sl a2 cs zInit 6 12) ++ kj_sl a3 cs zInit 18 18) ++ kj_sl a4 cs zInit 36 3) ++ kj_sl a5 cs zInit 39 2) 67 [.ref h0] [.ref x5, .ref h0]
  refine kj_putF (ci := 11) (k9 := 5) (ty := .object "Schoolhours$Colours") hin dX11_init_67 rfl (by decide +kernel) (by decide +kernel) rfl rfl (by decide +kernel) rfl rfl (Nat.le_of_ble_eq_true rfl) rfl ?_
  show kj_J l D cs _ _ p e s m args below meth c _ _ 40 5549 (((((([(h0, .inr (11, [.ref x0, .ref x1, .ref x2, .ref x3, .ref x4, .ref x5, .null, .null, .null, .null, .null]))] ++ kj_sl a0 cs zInit 1 3) ++ kj_sl a1 cs zInit 4 2) ++ kj_sl a2 cs zInit 6 12) ++ kj_sl a3 cs zInit 18 18) ++ kj_sl a4 cs zInit 36 3) ++ kj_sl a5 cs zInit 39 2) 70 [.ref h0] []
  refine kj_aload_n dX11_init_70 (i := 0) rfl rfl ?_
  refine kj_new (ci := 2) (fs := kj_df 41) dX11_init_71 rfl (by decide +kernel) (by decide +kernel) (by decide +kernel) (by decide +kernel) (Nat.le_of_ble_eq_true rfl) (Nat.le_of_ble_eq_true rfl) (fun x6 => ?_)
  refine kj_dup dX11_init_74 rfl ?_
  refine kj_initN (M' := me_X2_init) (d' := 2) (mc := 2) (ms := 18) (b := 41) (n := 3) (r := 41) (σ0 := zInit) dX11_init_75 gX11_init_X2_init_n53 rfl (by decide +kernel) (by decide +kernel) (by decide +kernel) rfl (by decide +kernel) ⟨Nat.le_of_ble_eq_true rfl, Nat.le_of_ble_eq_true rfl⟩ ⟨Nat.le_of_ble_eq_true rfl, Nat.le_of_ble_eq_true rfl⟩ (Nat.le_of_ble_eq_true rfl) k_X2_init (fun a6 e6 => ?_)
  show kj_J l D cs _ _ p e s m args below meth c _ _ 43 5572 ((((((([(h0, .inr (11, [.ref x0, .ref x1, .ref x2, .ref x3, .ref x4, .ref x5, .null, .null, .null, .null, .null]))] ++ kj_sl a0 cs zInit 1 3) ++ kj_sl a1 cs zInit 4 2) ++ kj_sl a2 cs zInit 6 12) ++ kj_sl a3 cs zInit 18 18) ++ kj_sl a4 cs zInit 36 3) ++ kj_sl a5 cs zInit 39 2) ++ kj_sl a6 cs zInit 41 3) 78 [.ref h0] [.ref x6, .ref h0]
  refine kj_putF (ci := 11) (k9 := 6) (ty := .object "Schoolhours$Cover") hin dX11_init_78 rfl (by decide +kernel) (by decide +kernel) rfl rfl (by decide +kernel) rfl rfl (Nat.le_of_ble_eq_true rfl) rfl ?_
  show kj_J l D cs _ _ p e s m args below meth c _ _ 43 5572 ((((((([(h0, .inr (11, [.ref x0, .ref x1, .ref x2, .ref x3, .ref x4, .ref x5, .ref x6, .null, .null, .null, .null]))] ++ kj_sl a0 cs zInit 1 3) ++ kj_sl a1 cs zInit 4 2) ++ kj_sl a2 cs zInit 6 12) ++ kj_sl a3 cs zInit 18 18) ++ kj_sl a4 cs zInit 36 3) ++ kj_sl a5 cs zInit 39 2) ++ kj_sl a6 cs zInit 41 3) 81 [.ref h0] []
  refine kj_aload_n dX11_init_81 (i := 0) rfl rfl ?_
  refine kj_new (ci := 3) (fs := kj_df 44) dX11_init_82 rfl (by decide +kernel) (by decide +kernel) (by decide +kernel) (by decide +kernel) (Nat.le_of_ble_eq_true rfl) (Nat.le_of_ble_eq_true rfl) (fun x7 => ?_)
  refine kj_dup dX11_init_85 rfl ?_
  refine kj_initN (M' := me_X3_init) (d' := 2) (mc := 1) (ms := 8) (b := 44) (n := 2) (r := 44) (σ0 := zInit) dX11_init_86 gX11_init_X3_init_n60 rfl (by decide +kernel) (by decide +kernel) (by decide +kernel) rfl (by decide +kernel) ⟨Nat.le_of_ble_eq_true rfl, Nat.le_of_ble_eq_true rfl⟩ ⟨Nat.le_of_ble_eq_true rfl, Nat.le_of_ble_eq_true rfl⟩ (Nat.le_of_ble_eq_true rfl) k_X3_init (fun a7 e7 => ?_)
  show kj_J l D cs _ _ p e s m args below meth c _ _ 45 5581 (((((((([(h0, .inr (11, [.ref x0, .ref x1, .ref x2, .ref x3, .ref x4, .ref x5, .ref x6, .null, .null, .null, .null]))] ++ kj_sl a0 cs zInit 1 3) ++ kj_sl a1 cs zInit 4 2) ++ kj_sl a2 cs zInit 6 12) ++ kj_sl a3 cs zInit 18 18) ++ kj_sl a4 cs zInit 36 3) ++ kj_sl a5 cs zInit 39 2) ++ kj_sl a6 cs zInit 41 3) ++ kj_sl a7 cs zInit 44 2) 89 [.ref h0] [.ref x7, .ref h0]
  refine kj_putF (ci := 11) (k9 := 7) (ty := .object "Schoolhours$Exams") hin dX11_init_89 rfl (by decide +kernel) (by decide +kernel) rfl rfl (by decide +kernel) rfl rfl (Nat.le_of_ble_eq_true rfl) rfl ?_
  show kj_J l D cs _ _ p e s m args below meth c _ _ 45 5581 (((((((([(h0, .inr (11, [.ref x0, .ref x1, .ref x2, .ref x3, .ref x4, .ref x5, .ref x6, .ref x7, .null, .null, .null]))] ++ kj_sl a0 cs zInit 1 3) ++ kj_sl a1 cs zInit 4 2) ++ kj_sl a2 cs zInit 6 12) ++ kj_sl a3 cs zInit 18 18) ++ kj_sl a4 cs zInit 36 3) ++ kj_sl a5 cs zInit 39 2) ++ kj_sl a6 cs zInit 41 3) ++ kj_sl a7 cs zInit 44 2) 92 [.ref h0] []
  refine kj_aload_n dX11_init_92 (i := 0) rfl rfl ?_
  refine kj_new (ci := 0) (fs := kj_df 46) dX11_init_93 rfl (by decide +kernel) (by decide +kernel) (by decide +kernel) (by decide +kernel) (Nat.le_of_ble_eq_true rfl) (Nat.le_of_ble_eq_true rfl) (fun x8 => ?_)
  refine kj_dup dX11_init_96 rfl ?_
  refine kj_initI (M' := me_X0_init) (d' := 2) (mc := 3) (ms := 15) (b := 46) (n := 4) (r := 46) (σ0 := zInit) dX11_init_97 gX11_init_X0_init rfl (by decide +kernel) (by decide +kernel) (by decide +kernel) rfl (by decide +kernel) ⟨Nat.le_of_ble_eq_true rfl, Nat.le_of_ble_eq_true rfl⟩ ⟨Nat.le_of_ble_eq_true rfl, Nat.le_of_ble_eq_true rfl⟩ (Nat.le_of_ble_eq_true rfl) k_X0_init (fun a8 e8 => ?_)
  show kj_J l D cs _ _ p e s m args below meth c _ _ 49 5599 ((((((((([(h0, .inr (11, [.ref x0, .ref x1, .ref x2, .ref x3, .ref x4, .ref x5, .ref x6, .ref x7, .null, .null, .null]))] ++ kj_sl a0 cs zInit 1 3) ++ kj_sl a1 cs zInit 4 2) ++ kj_sl a2 cs zInit 6 12) ++ kj_sl a3 cs zInit 18 18) ++ kj_sl a4 cs zInit 36 3) ++ kj_sl a5 cs zInit 39 2) ++ kj_sl a6 cs zInit 41 3) ++ kj_sl a7 cs zInit 44 2) ++ kj_sl a8 cs zInit 46 4) 100 [.ref h0] [.ref x8, .ref h0]
  refine kj_putF (ci := 11) (k9 := 8) (ty := .object "Schoolhours$Bells") hin dX11_init_100 rfl (by decide +kernel) (by decide +kernel) rfl rfl (by decide +kernel) rfl rfl (Nat.le_of_ble_eq_true rfl) rfl ?_
  show kj_J l D cs _ _ p e s m args below meth c _ _ 49 5599 ((((((((([(h0, .inr (11, [.ref x0, .ref x1, .ref x2, .ref x3, .ref x4, .ref x5, .ref x6, .ref x7, .ref x8, .null, .null]))] ++ kj_sl a0 cs zInit 1 3) ++ kj_sl a1 cs zInit 4 2) ++ kj_sl a2 cs zInit 6 12) ++ kj_sl a3 cs zInit 18 18) ++ kj_sl a4 cs zInit 36 3) ++ kj_sl a5 cs zInit 39 2) ++ kj_sl a6 cs zInit 41 3) ++ kj_sl a7 cs zInit 44 2) ++ kj_sl a8 cs zInit 46 4) 103 [.ref h0] []
  refine kj_aload_n dX11_init_103 (i := 0) rfl rfl ?_
  refine kj_new (ci := 10) (fs := kj_df 50) dX11_init_104 rfl (by decide +kernel) (by decide +kernel) (by decide +kernel) (by decide +kernel) (Nat.le_of_ble_eq_true rfl) (Nat.le_of_ble_eq_true rfl) (fun x9 => ?_)
  refine kj_dup dX11_init_107 rfl ?_
  refine kj_initN (M' := me_X10_init) (d' := 2) (mc := 1) (ms := 280) (b := 50) (n := 2) (r := 50) (σ0 := zInit) dX11_init_108 gX11_init_X10_init_n74 rfl (by decide +kernel) (by decide +kernel) (by decide +kernel) rfl (by decide +kernel) ⟨Nat.le_of_ble_eq_true rfl, Nat.le_of_ble_eq_true rfl⟩ ⟨Nat.le_of_ble_eq_true rfl, Nat.le_of_ble_eq_true rfl⟩ (Nat.le_of_ble_eq_true rfl) k_X10_init (fun a9 e9 => ?_)
  show kj_J l D cs _ _ p e s m args below meth c _ _ 51 5882 (((((((((([(h0, .inr (11, [.ref x0, .ref x1, .ref x2, .ref x3, .ref x4, .ref x5, .ref x6, .ref x7, .ref x8, .null, .null]))] ++ kj_sl a0 cs zInit 1 3) ++ kj_sl a1 cs zInit 4 2) ++ kj_sl a2 cs zInit 6 12) ++ kj_sl a3 cs zInit 18 18) ++ kj_sl a4 cs zInit 36 3) ++ kj_sl a5 cs zInit 39 2) ++ kj_sl a6 cs zInit 41 3) ++ kj_sl a7 cs zInit 44 2) ++ kj_sl a8 cs zInit 46 4) ++ kj_sl a9 cs zInit 50 2) 111 [.ref h0] [.ref x9, .ref h0]
  refine kj_putF (ci := 11) (k9 := 9) (ty := .object "Schoolhours$Year") hin dX11_init_111 rfl (by decide +kernel) (by decide +kernel) rfl rfl (by decide +kernel) rfl rfl (Nat.le_of_ble_eq_true rfl) rfl ?_
  show kj_J l D cs _ _ p e s m args below meth c _ _ 51 5882 (((((((((([(h0, .inr (11, [.ref x0, .ref x1, .ref x2, .ref x3, .ref x4, .ref x5, .ref x6, .ref x7, .ref x8, .ref x9, .null]))] ++ kj_sl a0 cs zInit 1 3) ++ kj_sl a1 cs zInit 4 2) ++ kj_sl a2 cs zInit 6 12) ++ kj_sl a3 cs zInit 18 18) ++ kj_sl a4 cs zInit 36 3) ++ kj_sl a5 cs zInit 39 2) ++ kj_sl a6 cs zInit 41 3) ++ kj_sl a7 cs zInit 44 2) ++ kj_sl a8 cs zInit 46 4) ++ kj_sl a9 cs zInit 50 2) 114 [.ref h0] []
  refine kj_aload_n dX11_init_114 (i := 0) rfl rfl ?_
  refine kj_new (ci := 9) (fs := kj_df 52) dX11_init_115 rfl (by decide +kernel) (by decide +kernel) (by decide +kernel) (by decide +kernel) (Nat.le_of_ble_eq_true rfl) (Nat.le_of_ble_eq_true rfl) (fun x10 => ?_)
  refine kj_dup dX11_init_118 rfl ?_
  refine kj_initN (M' := me_X9_init) (d' := 2) (mc := 3) (ms := 145) (b := 52) (n := 4) (r := 52) (σ0 := zInit) dX11_init_119 gX11_init_X9_init_n81 rfl (by decide +kernel) (by decide +kernel) (by decide +kernel) rfl (by decide +kernel) ⟨Nat.le_of_ble_eq_true rfl, Nat.le_of_ble_eq_true rfl⟩ ⟨Nat.le_of_ble_eq_true rfl, Nat.le_of_ble_eq_true rfl⟩ (Nat.le_of_ble_eq_true rfl) k_X9_init (fun a10 e10 => ?_)
  show kj_J l D cs _ _ p e s m args below meth c _ _ 55 6035 ((((((((((([(h0, .inr (11, [.ref x0, .ref x1, .ref x2, .ref x3, .ref x4, .ref x5, .ref x6, .ref x7, .ref x8, .ref x9, .null]))] ++ kj_sl a0 cs zInit 1 3) ++ kj_sl a1 cs zInit 4 2) ++ kj_sl a2 cs zInit 6 12) ++ kj_sl a3 cs zInit 18 18) ++ kj_sl a4 cs zInit 36 3) ++ kj_sl a5 cs zInit 39 2) ++ kj_sl a6 cs zInit 41 3) ++ kj_sl a7 cs zInit 44 2) ++ kj_sl a8 cs zInit 46 4) ++ kj_sl a9 cs zInit 50 2) ++ kj_sl a10 cs zInit 52 4) 122 [.ref h0] [.ref x10, .ref h0]
  refine kj_putF (ci := 11) (k9 := 10) (ty := .object "Schoolhours$Tape") hin dX11_init_122 rfl (by decide +kernel) (by decide +kernel) rfl rfl (by decide +kernel) rfl rfl (Nat.le_of_ble_eq_true rfl) rfl ?_
  show kj_J l D cs _ _ p e s m args below meth c _ _ 55 6035 ((((((((((([(h0, .inr (11, [.ref x0, .ref x1, .ref x2, .ref x3, .ref x4, .ref x5, .ref x6, .ref x7, .ref x8, .ref x9, .ref x10]))] ++ kj_sl a0 cs zInit 1 3) ++ kj_sl a1 cs zInit 4 2) ++ kj_sl a2 cs zInit 6 12) ++ kj_sl a3 cs zInit 18 18) ++ kj_sl a4 cs zInit 36 3) ++ kj_sl a5 cs zInit 39 2) ++ kj_sl a6 cs zInit 41 3) ++ kj_sl a7 cs zInit 44 2) ++ kj_sl a8 cs zInit 46 4) ++ kj_sl a9 cs zInit 50 2) ++ kj_sl a10 cs zInit 52 4) 125 [.ref h0] []
  subst e0
  subst e1
  subst e2
  subst e3
  subst e4
  subst e5
  subst e6
  subst e7
  subst e8
  subst e9
  subst e10
  obtain ⟨ad, had⟩ : ∃ ad : Nat → Nat, ∀ p, ad p = (if p < 1 then h0 else if p < 4 then a0 p else if p < 6 then a1 p else if p < 18 then a2 p else if p < 36 then a3 p else if p < 39 then a4 p else if p < 41 then a5 p else if p < 44 then a6 p else if p < 46 then a7 p else if p < 50 then a8 p else if p < 52 then a9 p else a10 p) := ⟨fun p => _, fun p => rfl⟩
  have cg : ∀ (a : Nat → Nat) (b n : Nat), kj_clo b n = true → (∀ k, k < n → a (b + k) = ad (b + k)) → kj_sl a cs zInit b n = kj_sl ad cs zInit b n := fun a b n h1 h2 => kj_sl_congr h1 h2
  have g0 : kj_sl a0 cs zInit 1 3 = kj_sl ad cs zInit 1 3 := cg _ _ _ (by decide +kernel) (fun k hk => by rw [had, if_neg (by omega), if_pos (by omega)])
  have g1 : kj_sl a1 cs zInit 4 2 = kj_sl ad cs zInit 4 2 := cg _ _ _ (by decide +kernel) (fun k hk => by rw [had, if_neg (by omega), if_neg (by omega), if_pos (by omega)])
  have g2 : kj_sl a2 cs zInit 6 12 = kj_sl ad cs zInit 6 12 := cg _ _ _ (by decide +kernel) (fun k hk => by rw [had, if_neg (by omega), if_neg (by omega), if_neg (by omega), if_pos (by omega)])
  have g3 : kj_sl a3 cs zInit 18 18 = kj_sl ad cs zInit 18 18 := cg _ _ _ (by decide +kernel) (fun k hk => by rw [had, if_neg (by omega), if_neg (by omega), if_neg (by omega), if_neg (by omega), if_pos (by omega)])
  have g4 : kj_sl a4 cs zInit 36 3 = kj_sl ad cs zInit 36 3 := cg _ _ _ (by decide +kernel) (fun k hk => by rw [had, if_neg (by omega), if_neg (by omega), if_neg (by omega), if_neg (by omega), if_neg (by omega), if_pos (by omega)])
  have g5 : kj_sl a5 cs zInit 39 2 = kj_sl ad cs zInit 39 2 := cg _ _ _ (by decide +kernel) (fun k hk => by rw [had, if_neg (by omega), if_neg (by omega), if_neg (by omega), if_neg (by omega), if_neg (by omega), if_neg (by omega), if_pos (by omega)])
  have g6 : kj_sl a6 cs zInit 41 3 = kj_sl ad cs zInit 41 3 := cg _ _ _ (by decide +kernel) (fun k hk => by rw [had, if_neg (by omega), if_neg (by omega), if_neg (by omega), if_neg (by omega), if_neg (by omega), if_neg (by omega), if_neg (by omega), if_pos (by omega)])
  have g7 : kj_sl a7 cs zInit 44 2 = kj_sl ad cs zInit 44 2 := cg _ _ _ (by decide +kernel) (fun k hk => by rw [had, if_neg (by omega), if_neg (by omega), if_neg (by omega), if_neg (by omega), if_neg (by omega), if_neg (by omega), if_neg (by omega), if_neg (by omega), if_pos (by omega)])
  have g8 : kj_sl a8 cs zInit 46 4 = kj_sl ad cs zInit 46 4 := cg _ _ _ (by decide +kernel) (fun k hk => by rw [had, if_neg (by omega), if_neg (by omega), if_neg (by omega), if_neg (by omega), if_neg (by omega), if_neg (by omega), if_neg (by omega), if_neg (by omega), if_neg (by omega), if_pos (by omega)])
  have g9 : kj_sl a9 cs zInit 50 2 = kj_sl ad cs zInit 50 2 := cg _ _ _ (by decide +kernel) (fun k hk => by rw [had, if_neg (by omega), if_neg (by omega), if_neg (by omega), if_neg (by omega), if_neg (by omega), if_neg (by omega), if_neg (by omega), if_neg (by omega), if_neg (by omega), if_neg (by omega), if_pos (by omega)])
  have g10 : kj_sl a10 cs zInit 52 4 = kj_sl ad cs zInit 52 4 := cg _ _ _ (by decide +kernel) (fun k hk => by rw [had, if_neg (by omega), if_neg (by omega), if_neg (by omega), if_neg (by omega), if_neg (by omega), if_neg (by omega), if_neg (by omega), if_neg (by omega), if_neg (by omega), if_neg (by omega), if_neg (by omega)])
  rw [g0, g1, g2, g3, g4, g5, g6, g7, g8, g9, g10]
  have r0 : a0 1 = ad 1 := by rw [had]; rfl
  have r1 : a1 4 = ad 4 := by rw [had]; rfl
  have r2 : a2 6 = ad 6 := by rw [had]; rfl
  have r3 : a3 30 = ad 30 := by rw [had]; rfl
  have r4 : a4 36 = ad 36 := by rw [had]; rfl
  have r5 : a5 39 = ad 39 := by rw [had]; rfl
  have r6 : a6 41 = ad 41 := by rw [had]; rfl
  have r7 : a7 44 = ad 44 := by rw [had]; rfl
  have r8 : a8 46 = ad 46 := by rw [had]; rfl
  have r9 : a9 50 = ad 50 := by rw [had]; rfl
  have r10 : a10 52 = ad 52 := by rw [had]; rfl
  rw [r0, r1, r2, r3, r4, r5, r6, r7, r8, r9, r10]
  have r11 : h0 = ad 0 := by rw [had]; rfl
  have ew : ∀ W : va_W, W = kj_sl ad cs zInit 0 1 → (((((((((((W ++ kj_sl ad cs zInit 1 3) ++ kj_sl ad cs zInit 4 2) ++ kj_sl ad cs zInit 6 12) ++ kj_sl ad cs zInit 18 18) ++ kj_sl ad cs zInit 36 3) ++ kj_sl ad cs zInit 39 2) ++ kj_sl ad cs zInit 41 3) ++ kj_sl ad cs zInit 44 2) ++ kj_sl ad cs zInit 46 4) ++ kj_sl ad cs zInit 50 2) ++ kj_sl ad cs zInit 52 4) = kj_sl ad cs zInit 0 56 := by
    intro W hW
    rw [hW, kj_sl_ap (by decide), kj_sl_ap (by decide), kj_sl_ap (by decide), kj_sl_ap (by decide), kj_sl_ap (by decide), kj_sl_ap (by decide), kj_sl_ap (by decide), kj_sl_ap (by decide), kj_sl_ap (by decide), kj_sl_ap (by decide), kj_sl_ap (by decide)]
  have e1 := ew [(h0, .inr (11, [.ref (ad 1), .ref (ad 4), .ref (ad 6), .ref (ad 30), .ref (ad 36), .ref (ad 39), .ref (ad 41), .ref (ad 44), .ref (ad 46), .ref (ad 50), .ref (ad 52)]))] (by rw [r11]; rfl)
  rw [e1]
  exact kj_ret (ad := ad) (b := 0) (n := 56) (r := 0) dX11_init_125 rfl rfl r11.symm (fun _ h => h) (fun h => h) (Nat.le_of_ble_eq_true rfl) (Nat.le_of_ble_eq_true rfl)
end KJC
