def wp_X8_lessonTotal_0 (G : sj_G) (R : sj_R) (σ : sj_S) : Prop := R = (.ok (σ 2 0), σ)
set_option maxRecDepth 20000 in
theorem t_X8_lessonTotal_0 {G : sj_G} {R : sj_R} {σ : sj_S} (h : wp_X8_lessonTotal_0 G R σ) : sj_J G 2 me_X8_lessonTotal R 0 [.ref (sj_ad G 1)] σ [] := by
  unfold wp_X8_lessonTotal_0 at h
  refine sj_aload_n dX8_lessonTotal_0 (i := 0) rfl rfl ?_
  refine sj_get (a := 1) (k9 := 0) (v := .ref (sj_ad G 2)) dX8_lessonTotal_1 (by decide +kernel) rfl ?_
  refine sj_iconst (v := (nI 0)) dX8_lessonTotal_4 (by decide +kernel) ?_
  refine sj_iald (a := 2) (j := 0) (x := (σ 2 0)) dX8_lessonTotal_5 rfl (by decide +kernel) (vp_in_nI (by decide) (by decide)) (nI_clamp (by decide)) rfl ?_
  subst h
  exact sj_ret dX8_lessonTotal_6 rfl rfl
theorem c_X8_lessonTotal {G : sj_G} (ok : sj_ok G) {R : sj_R} {σ : sj_S} (h : wp_X8_lessonTotal_0 G R σ) : sj_C G 2 me_X8_lessonTotal [.ref (sj_ad G 1)] σ R :=
  sj_enter ok (by decide +kernel) rfl rfl (Nat.le_of_ble_eq_true rfl) (by simp [Value.category]) (t_X8_lessonTotal_0 h)
def wp_X8_wishTotal_0 (G : sj_G) (R : sj_R) (σ : sj_S) : Prop := R = (.ok (σ 2 1), σ)
set_option maxRecDepth 20000 in
theorem t_X8_wishTotal_0 {G : sj_G} {R : sj_R} {σ : sj_S} (h : wp_X8_wishTotal_0 G R σ) : sj_J G 2 me_X8_wishTotal R 0 [.ref (sj_ad G 1)] σ [] := by
  unfold wp_X8_wishTotal_0 at h
  refine sj_aload_n dX8_wishTotal_0 (i := 0) rfl rfl ?_
  refine sj_get (a := 1) (k9 := 0) (v := .ref (sj_ad G 2)) dX8_wishTotal_1 (by decide +kernel) rfl ?_
  refine sj_iconst (v := (nI 1)) dX8_wishTotal_4 (by decide +kernel) ?_
  refine sj_iald (a := 2) (j := 1) (x := (σ 2 1)) dX8_wishTotal_5 rfl (by decide +kernel) (vp_in_nI (by decide) (by decide)) (nI_clamp (by decide)) rfl ?_
  subst h
  exact sj_ret dX8_wishTotal_6 rfl rfl
theorem c_X8_wishTotal {G : sj_G} (ok : sj_ok G) {R : sj_R} {σ : sj_S} (h : wp_X8_wishTotal_0 G R σ) : sj_C G 2 me_X8_wishTotal [.ref (sj_ad G 1)] σ R :=
  sj_enter ok (by decide +kernel) rfl rfl (Nat.le_of_ble_eq_true rfl) (by simp [Value.category]) (t_X8_wishTotal_0 h)
def wp_X8_hasTable_14 (G : sj_G) (R : sj_R) (s0 : Int32) (σ : sj_S) : Prop := R = (.ok s0, σ) ∧ (s0 = nI 0 ∨ s0 = nI 1)
set_option maxRecDepth 20000 in
theorem t_X8_hasTable_14 {G : sj_G} {R : sj_R} {s0 : Int32} {σ : sj_S} (h : wp_X8_hasTable_14 G R s0 σ) : sj_J G 2 me_X8_hasTable R 14 [.null] σ [.int s0] := by
  unfold wp_X8_hasTable_14 at h
  obtain ⟨h, hz⟩ := h
  subst h
  exact sj_ret dX8_hasTable_14 rfl (sj_nb hz)
def wp_X8_hasTable_0 (G : sj_G) (R : sj_R) (σ : sj_S) : Prop := (wp_X8_hasTable_14 G R (if (σ 2 2) = 0 then (nI 0) else (nI 1)) σ)
set_option maxRecDepth 20000 in
theorem t_X8_hasTable_0 {G : sj_G} {R : sj_R} {σ : sj_S} (h : wp_X8_hasTable_0 G R σ) : sj_J G 2 me_X8_hasTable R 0 [.ref (sj_ad G 1)] σ [] := by
  unfold wp_X8_hasTable_0 at h
  refine sj_aload_n dX8_hasTable_0 (i := 0) rfl rfl ?_
  refine sj_get (a := 1) (k9 := 0) (v := .ref (sj_ad G 2)) dX8_hasTable_1 (by decide +kernel) rfl ?_
  refine sj_iconst (v := (nI 2)) dX8_hasTable_4 (by decide +kernel) ?_
  refine sj_iald (a := 2) (j := 2) (x := (σ 2 2)) dX8_hasTable_5 rfl (by decide +kernel) (vp_in_nI (by decide) (by decide)) (nI_clamp (by decide)) rfl ?_
  refine sj_if_eq (tgt := 13) dX8_hasTable_6 (by decide) (fun c1 => ?_) (fun c1 => ?_)
  · refine sj_iconst (v := (nI 0)) dX8_hasTable_13 (by decide +kernel) ?_
    try simp only [if_pos c1] at h
    refine sj_fg [0] ?_
    exact t_X8_hasTable_14 h
  · refine sj_iconst (v := (nI 1)) dX8_hasTable_9 (by decide +kernel) ?_
    refine sj_goto (tgt := 14) dX8_hasTable_10 (by decide) ?_
    try simp only [if_neg c1] at h
    refine sj_fg [0] ?_
    exact t_X8_hasTable_14 h
theorem c_X8_hasTable {G : sj_G} (ok : sj_ok G) {R : sj_R} {σ : sj_S} (h : wp_X8_hasTable_0 G R σ) : sj_C G 2 me_X8_hasTable [.ref (sj_ad G 1)] σ R :=
  sj_enter ok (by decide +kernel) rfl rfl (Nat.le_of_ble_eq_true rfl) (by simp [Value.category]) (t_X8_hasTable_0 h)
def wp_X8_loseTable_0 (G : sj_G) (R : sj_R) (σ : sj_S) : Prop := R = (.ok 0, (sj_st σ 2 2 (nI 0)))
set_option maxRecDepth 20000 in
theorem t_X8_loseTable_0 {G : sj_G} {R : sj_R} {σ : sj_S} (h : wp_X8_loseTable_0 G R σ) : sj_J G 2 me_X8_loseTable R 0 [.ref (sj_ad G 1)] σ [] := by
  unfold wp_X8_loseTable_0 at h
  refine sj_aload_n dX8_loseTable_0 (i := 0) rfl rfl ?_
  refine sj_get (a := 1) (k9 := 0) (v := .ref (sj_ad G 2)) dX8_loseTable_1 (by decide +kernel) rfl ?_
  refine sj_iconst (v := (nI 2)) dX8_loseTable_4 (by decide +kernel) ?_
  refine sj_iconst (v := (nI 0)) dX8_loseTable_5 (by decide +kernel) ?_
  refine sj_iast (a := 2) (j := 2) dX8_loseTable_6 rfl (by decide +kernel) (vp_in_nI (by decide) (by decide)) (nI_clamp (by decide)) ?_
  subst h
  exact sj_vret dX8_loseTable_7 rfl
theorem c_X8_loseTable {G : sj_G} (ok : sj_ok G) {R : sj_R} {σ : sj_S} (h : wp_X8_loseTable_0 G R σ) : sj_C G 2 me_X8_loseTable [.ref (sj_ad G 1)] σ R :=
  sj_enter ok (by decide +kernel) rfl rfl (Nat.le_of_ble_eq_true rfl) (by simp [Value.category]) (t_X8_loseTable_0 h)
def wp_X8_putTable_0 (G : sj_G) (R : sj_R) (sl : Nat) (σ : sj_S) : Prop := R = (.ok 0, (sj_up (sj_st σ 2 2 (nI 1)) 3 (va_cpy ((sj_st σ 2 2 (nI 1)) sl) (σ 3) 0 0 9)))
set_option maxRecDepth 20000 in
theorem t_X8_putTable_0 {G : sj_G} {R : sj_R} {sl : Nat} {σ : sj_S} (hsl : sj_lk sl = 13 ∧ sl < sj_NA ∧ sj_ln sl = 9) (h : wp_X8_putTable_0 G R sl σ) : sj_J G 2 me_X8_putTable R 0 [.ref (sj_ad G 1), .ref (sj_ad G sl)] σ [] := by
  unfold wp_X8_putTable_0 at h
  refine sj_aload_n dX8_putTable_0 (i := 0) rfl rfl ?_
  refine sj_get (a := 1) (k9 := 0) (v := .ref (sj_ad G 2)) dX8_putTable_1 (by decide +kernel) rfl ?_
  refine sj_iconst (v := (nI 2)) dX8_putTable_4 (by decide +kernel) ?_
  refine sj_iconst (v := (nI 1)) dX8_putTable_5 (by decide +kernel) ?_
  refine sj_iast (a := 2) (j := 2) dX8_putTable_6 rfl (by decide +kernel) (vp_in_nI (by decide) (by decide)) (nI_clamp (by decide)) ?_
  refine sj_aload_n dX8_putTable_7 (i := 1) rfl rfl ?_
  refine sj_iconst (v := (nI 0)) dX8_putTable_8 (by decide +kernel) ?_
  refine sj_aload_n dX8_putTable_9 (i := 0) rfl rfl ?_
  refine sj_get (a := 1) (k9 := 1) (v := .ref (sj_ad G 3)) dX8_putTable_10 (by decide +kernel) rfl ?_
  refine sj_iconst (v := (nI 0)) dX8_putTable_13 (by decide +kernel) ?_
  refine sj_bipush (v := (nI 9)) dX8_putTable_14 (by decide +kernel) ?_
  refine sj_copy (a0 := sl) (a := 3) dX8_putTable_16 (by decide +kernel) (by omega) (Nat.le_of_ble_eq_true rfl) hsl.1 hsl.2.1 rfl (by decide +kernel) (nI_pos (by decide)) (nI_pos (by decide)) (nI_pos (by decide)) (by rw [hsl.2.2]; decide) (by decide) (nI_clamp (by decide)) (nI_clamp (by decide)) (nI_clamp (by decide)) ?_
  subst h
  exact sj_vret dX8_putTable_19 rfl
theorem c_X8_putTable {G : sj_G} (ok : sj_ok G) {R : sj_R} {sl : Nat} {σ : sj_S} (hsl : sj_lk sl = 13 ∧ sl < sj_NA ∧ sj_ln sl = 9) (h : wp_X8_putTable_0 G R sl σ) : sj_C G 2 me_X8_putTable [.ref (sj_ad G 1), .ref (sj_ad G sl)] σ R :=
  sj_enter ok (by decide +kernel) rfl rfl (Nat.le_of_ble_eq_true rfl) (by simp [Value.category]) (t_X8_putTable_0 hsl h)
def wp_X8_ofLesson_0 (G : sj_G) (R : sj_R) (x1 : Int32) (x2 : Int32) (σ : sj_S) : Prop := vp_in (((nI 3) + (x1 * (nI 5))) + x2) 119 ∧ R = (.ok (σ 2 (((nI 3) + (x1 * (nI 5))) + x2).toNatClampNeg), σ)
set_option maxRecDepth 20000 in
theorem t_X8_ofLesson_0 {G : sj_G} {R : sj_R} {x1 : Int32} {x2 : Int32} {σ : sj_S} (h : wp_X8_ofLesson_0 G R x1 x2 σ) : sj_J G 2 me_X8_ofLesson R 0 [.ref (sj_ad G 1), .int x1, .int x2] σ [] := by
  unfold wp_X8_ofLesson_0 at h
  refine sj_aload_n dX8_ofLesson_0 (i := 0) rfl rfl ?_
  refine sj_get (a := 1) (k9 := 0) (v := .ref (sj_ad G 2)) dX8_ofLesson_1 (by decide +kernel) rfl ?_
  refine sj_iconst (v := (nI 3)) dX8_ofLesson_4 (by decide +kernel) ?_
  refine sj_iload_n dX8_ofLesson_5 (i := 1) rfl rfl ?_
  refine sj_iconst (v := (nI 5)) dX8_ofLesson_6 (by decide +kernel) ?_
  refine sj_imul dX8_ofLesson_7 ?_
  refine sj_iadd dX8_ofLesson_8 ?_
  refine sj_iload_n dX8_ofLesson_9 (i := 2) rfl rfl ?_
  refine sj_iadd dX8_ofLesson_10 ?_
  obtain ⟨b1, h⟩ := h
  refine sj_iald (a := 2) (j := (((nI 3) + (x1 * (nI 5))) + x2).toNatClampNeg) (x := (σ 2 (((nI 3) + (x1 * (nI 5))) + x2).toNatClampNeg)) dX8_ofLesson_11 rfl (by decide +kernel) b1 rfl rfl ?_
  subst h
  exact sj_ret dX8_ofLesson_12 rfl rfl
theorem c_X8_ofLesson {G : sj_G} (ok : sj_ok G) {R : sj_R} {x1 : Int32} {x2 : Int32} {σ : sj_S} (h : wp_X8_ofLesson_0 G R x1 x2 σ) : sj_C G 2 me_X8_ofLesson [.ref (sj_ad G 1), .int x1, .int x2] σ R :=
  sj_enter ok (by decide +kernel) rfl rfl (Nat.le_of_ble_eq_true rfl) (by simp [Value.category]) (t_X8_ofLesson_0 h)
def wp_X8_ofWish_0 (G : sj_G) (R : sj_R) (x1 : Int32) (x2 : Int32) (σ : sj_S) : Prop := vp_in (((nI 48) + (x1 * (nI 4))) + x2) 119 ∧ R = (.ok (σ 2 (((nI 48) + (x1 * (nI 4))) + x2).toNatClampNeg), σ)
set_option maxRecDepth 20000 in
theorem t_X8_ofWish_0 {G : sj_G} {R : sj_R} {x1 : Int32} {x2 : Int32} {σ : sj_S} (h : wp_X8_ofWish_0 G R x1 x2 σ) : sj_J G 2 me_X8_ofWish R 0 [.ref (sj_ad G 1), .int x1, .int x2] σ [] := by
  unfold wp_X8_ofWish_0 at h
  refine sj_aload_n dX8_ofWish_0 (i := 0) rfl rfl ?_
  refine sj_get (a := 1) (k9 := 0) (v := .ref (sj_ad G 2)) dX8_ofWish_1 (by decide +kernel) rfl ?_
  refine sj_bipush (v := (nI 48)) dX8_ofWish_4 (by decide +kernel) ?_
  refine sj_iload_n dX8_ofWish_6 (i := 1) rfl rfl ?_
  refine sj_iconst (v := (nI 4)) dX8_ofWish_7 (by decide +kernel) ?_
  refine sj_imul dX8_ofWish_8 ?_
  refine sj_iadd dX8_ofWish_9 ?_
  refine sj_iload_n dX8_ofWish_10 (i := 2) rfl rfl ?_
  refine sj_iadd dX8_ofWish_11 ?_
  obtain ⟨b1, h⟩ := h
  refine sj_iald (a := 2) (j := (((nI 48) + (x1 * (nI 4))) + x2).toNatClampNeg) (x := (σ 2 (((nI 48) + (x1 * (nI 4))) + x2).toNatClampNeg)) dX8_ofWish_12 rfl (by decide +kernel) b1 rfl rfl ?_
  subst h
  exact sj_ret dX8_ofWish_13 rfl rfl
theorem c_X8_ofWish {G : sj_G} (ok : sj_ok G) {R : sj_R} {x1 : Int32} {x2 : Int32} {σ : sj_S} (h : wp_X8_ofWish_0 G R x1 x2 σ) : sj_C G 2 me_X8_ofWish [.ref (sj_ad G 1), .int x1, .int x2] σ R :=
  sj_enter ok (by decide +kernel) rfl rfl (Nat.le_of_ble_eq_true rfl) (by simp [Value.category]) (t_X8_ofWish_0 h)
def wp_X8_subjectsOf_0 (G : sj_G) (R : sj_R) (x1 : Int32) (σ : sj_S) : Prop := vp_in ((nI 96) + x1) 119 ∧ R = (.ok (σ 2 ((nI 96) + x1).toNatClampNeg), σ)
set_option maxRecDepth 20000 in
theorem t_X8_subjectsOf_0 {G : sj_G} {R : sj_R} {x1 : Int32} {σ : sj_S} (h : wp_X8_subjectsOf_0 G R x1 σ) : sj_J G 2 me_X8_subjectsOf R 0 [.ref (sj_ad G 1), .int x1] σ [] := by
  unfold wp_X8_subjectsOf_0 at h
  refine sj_aload_n dX8_subjectsOf_0 (i := 0) rfl rfl ?_
  refine sj_get (a := 1) (k9 := 0) (v := .ref (sj_ad G 2)) dX8_subjectsOf_1 (by decide +kernel) rfl ?_
  refine sj_bipush (v := (nI 96)) dX8_subjectsOf_4 (by decide +kernel) ?_
  refine sj_iload_n dX8_subjectsOf_6 (i := 1) rfl rfl ?_
  refine sj_iadd dX8_subjectsOf_7 ?_
  obtain ⟨b1, h⟩ := h
  refine sj_iald (a := 2) (j := ((nI 96) + x1).toNatClampNeg) (x := (σ 2 ((nI 96) + x1).toNatClampNeg)) dX8_subjectsOf_8 rfl (by decide +kernel) b1 rfl rfl ?_
  subst h
  exact sj_ret dX8_subjectsOf_9 rfl rfl
theorem c_X8_subjectsOf {G : sj_G} (ok : sj_ok G) {R : sj_R} {x1 : Int32} {σ : sj_S} (h : wp_X8_subjectsOf_0 G R x1 σ) : sj_C G 2 me_X8_subjectsOf [.ref (sj_ad G 1), .int x1] σ R :=
  sj_enter ok (by decide +kernel) rfl rfl (Nat.le_of_ble_eq_true rfl) (by simp [Value.category]) (t_X8_subjectsOf_0 h)
def wp_X8_roomsOf_0 (G : sj_G) (R : sj_R) (x1 : Int32) (σ : sj_S) : Prop := vp_in ((nI 102) + x1) 119 ∧ R = (.ok (σ 2 ((nI 102) + x1).toNatClampNeg), σ)
set_option maxRecDepth 20000 in
theorem t_X8_roomsOf_0 {G : sj_G} {R : sj_R} {x1 : Int32} {σ : sj_S} (h : wp_X8_roomsOf_0 G R x1 σ) : sj_J G 2 me_X8_roomsOf R 0 [.ref (sj_ad G 1), .int x1] σ [] := by
  unfold wp_X8_roomsOf_0 at h
  refine sj_aload_n dX8_roomsOf_0 (i := 0) rfl rfl ?_
  refine sj_get (a := 1) (k9 := 0) (v := .ref (sj_ad G 2)) dX8_roomsOf_1 (by decide +kernel) rfl ?_
  refine sj_bipush (v := (nI 102)) dX8_roomsOf_4 (by decide +kernel) ?_
  refine sj_iload_n dX8_roomsOf_6 (i := 1) rfl rfl ?_
  refine sj_iadd dX8_roomsOf_7 ?_
  obtain ⟨b1, h⟩ := h
  refine sj_iald (a := 2) (j := ((nI 102) + x1).toNatClampNeg) (x := (σ 2 ((nI 102) + x1).toNatClampNeg)) dX8_roomsOf_8 rfl (by decide +kernel) b1 rfl rfl ?_
  subst h
  exact sj_ret dX8_roomsOf_9 rfl rfl
theorem c_X8_roomsOf {G : sj_G} (ok : sj_ok G) {R : sj_R} {x1 : Int32} {σ : sj_S} (h : wp_X8_roomsOf_0 G R x1 σ) : sj_C G 2 me_X8_roomsOf [.ref (sj_ad G 1), .int x1] σ R :=
  sj_enter ok (by decide +kernel) rfl rfl (Nat.le_of_ble_eq_true rfl) (by simp [Value.category]) (t_X8_roomsOf_0 h)
def wp_X8_isIll_21 (G : sj_G) (R : sj_R) (s0 : Int32) (σ : sj_S) : Prop := R = (.ok s0, σ) ∧ (s0 = nI 0 ∨ s0 = nI 1)
set_option maxRecDepth 20000 in
theorem t_X8_isIll_21 {G : sj_G} {R : sj_R} {s0 : Int32} {σ : sj_S} (h : wp_X8_isIll_21 G R s0 σ) : sj_J G 2 me_X8_isIll R 21 [.null, .null, .null] σ [.int s0] := by
  unfold wp_X8_isIll_21 at h
  obtain ⟨h, hz⟩ := h
  subst h
  exact sj_ret dX8_isIll_21 rfl (sj_nb hz)
def wp_X8_isIll_0 (G : sj_G) (R : sj_R) (x1 : Int32) (x2 : Int32) (σ : sj_S) : Prop := vp_in ((nI 105) + x1) 119 ∧ (wp_X8_isIll_21 G R (if (((σ 2 ((nI 105) + x1).toNatClampNeg) >>> (x2 &&& 31)) &&& (nI 1)) = 0 then (nI 0) else (nI 1)) σ)
set_option maxRecDepth 20000 in
theorem t_X8_isIll_0 {G : sj_G} {R : sj_R} {x1 : Int32} {x2 : Int32} {σ : sj_S} (h : wp_X8_isIll_0 G R x1 x2 σ) : sj_J G 2 me_X8_isIll R 0 [.ref (sj_ad G 1), .int x1, .int x2] σ [] := by
  unfold wp_X8_isIll_0 at h
  refine sj_aload_n dX8_isIll_0 (i := 0) rfl rfl ?_
  refine sj_get (a := 1) (k9 := 0) (v := .ref (sj_ad G 2)) dX8_isIll_1 (by decide +kernel) rfl ?_
  refine sj_bipush (v := (nI 105)) dX8_isIll_4 (by decide +kernel) ?_
  refine sj_iload_n dX8_isIll_6 (i := 1) rfl rfl ?_
  refine sj_iadd dX8_isIll_7 ?_
  obtain ⟨b1, h⟩ := h
  refine sj_iald (a := 2) (j := ((nI 105) + x1).toNatClampNeg) (x := (σ 2 ((nI 105) + x1).toNatClampNeg)) dX8_isIll_8 rfl (by decide +kernel) b1 rfl rfl ?_
  refine sj_iload_n dX8_isIll_9 (i := 2) rfl rfl ?_
  refine sj_ishr dX8_isIll_10 ?_
  refine sj_iconst (v := (nI 1)) dX8_isIll_11 (by decide +kernel) ?_
  refine sj_iand dX8_isIll_12 ?_
  refine sj_if_eq (tgt := 20) dX8_isIll_13 (by decide) (fun c2 => ?_) (fun c2 => ?_)
  · refine sj_iconst (v := (nI 0)) dX8_isIll_20 (by decide +kernel) ?_
    try simp only [if_pos c2] at h
    refine sj_fg [0, 1, 2] ?_
    exact t_X8_isIll_21 h
  · refine sj_iconst (v := (nI 1)) dX8_isIll_16 (by decide +kernel) ?_
    refine sj_goto (tgt := 21) dX8_isIll_17 (by decide) ?_
    try simp only [if_neg c2] at h
    refine sj_fg [0, 1, 2] ?_
    exact t_X8_isIll_21 h
theorem c_X8_isIll {G : sj_G} (ok : sj_ok G) {R : sj_R} {x1 : Int32} {x2 : Int32} {σ : sj_S} (h : wp_X8_isIll_0 G R x1 x2 σ) : sj_C G 2 me_X8_isIll [.ref (sj_ad G 1), .int x1, .int x2] σ R :=
  sj_enter ok (by decide +kernel) rfl rfl (Nat.le_of_ble_eq_true rfl) (by simp [Value.category]) (t_X8_isIll_0 h)
def wp_X8_apartFrom_0 (G : sj_G) (R : sj_R) (x1 : Int32) (σ : sj_S) : Prop := vp_in ((nI 111) + x1) 119 ∧ R = (.ok (σ 2 ((nI 111) + x1).toNatClampNeg), σ)
set_option maxRecDepth 20000 in
theorem t_X8_apartFrom_0 {G : sj_G} {R : sj_R} {x1 : Int32} {σ : sj_S} (h : wp_X8_apartFrom_0 G R x1 σ) : sj_J G 2 me_X8_apartFrom R 0 [.ref (sj_ad G 1), .int x1] σ [] := by
  unfold wp_X8_apartFrom_0 at h
  refine sj_aload_n dX8_apartFrom_0 (i := 0) rfl rfl ?_
  refine sj_get (a := 1) (k9 := 0) (v := .ref (sj_ad G 2)) dX8_apartFrom_1 (by decide +kernel) rfl ?_
  refine sj_bipush (v := (nI 111)) dX8_apartFrom_4 (by decide +kernel) ?_
  refine sj_iload_n dX8_apartFrom_6 (i := 1) rfl rfl ?_
  refine sj_iadd dX8_apartFrom_7 ?_
  obtain ⟨b1, h⟩ := h
  refine sj_iald (a := 2) (j := ((nI 111) + x1).toNatClampNeg) (x := (σ 2 ((nI 111) + x1).toNatClampNeg)) dX8_apartFrom_8 rfl (by decide +kernel) b1 rfl rfl ?_
  subst h
  exact sj_ret dX8_apartFrom_9 rfl rfl
theorem c_X8_apartFrom {G : sj_G} (ok : sj_ok G) {R : sj_R} {x1 : Int32} {σ : sj_S} (h : wp_X8_apartFrom_0 G R x1 σ) : sj_C G 2 me_X8_apartFrom [.ref (sj_ad G 1), .int x1] σ R :=
  sj_enter ok (by decide +kernel) rfl rfl (Nat.le_of_ble_eq_true rfl) (by simp [Value.category]) (t_X8_apartFrom_0 h)
def wp_X8_addLesson_0 (G : sj_G) (R : sj_R) (x1 : Int32) (x2 : Int32) (x3 : Int32) (x4 : Int32) (x5 : Int32) (σ : sj_S) : Prop := vp_in (((nI 3) + ((σ 2 0) * (nI 5))) + (nI 0)) 119 ∧ vp_in (((nI 3) + ((σ 2 0) * (nI 5))) + (nI 1)) 119 ∧ vp_in (((nI 3) + ((σ 2 0) * (nI 5))) + (nI 2)) 119 ∧ vp_in (((nI 3) + ((σ 2 0) * (nI 5))) + (nI 3)) 119 ∧ vp_in (((nI 3) + ((σ 2 0) * (nI 5))) + (nI 4)) 119 ∧ R = (.ok (σ 2 0), (sj_st (sj_st (sj_st (sj_st (sj_st (sj_st σ 2 (((nI 3) + ((σ 2 0) * (nI 5))) + (nI 0)).toNatClampNeg x1) 2 (((nI 3) + ((σ 2 0) * (nI 5))) + (nI 1)).toNatClampNeg x2) 2 (((nI 3) + ((σ 2 0) * (nI 5))) + (nI 2)).toNatClampNeg x3) 2 (((nI 3) + ((σ 2 0) * (nI 5))) + (nI 3)).toNatClampNeg x4) 2 (((nI 3) + ((σ 2 0) * (nI 5))) + (nI 4)).toNatClampNeg x5) 2 0 ((σ 2 0) + (nI 1))))
set_option maxRecDepth 20000 in
theorem t_X8_addLesson_0 {G : sj_G} {R : sj_R} {x1 : Int32} {x2 : Int32} {x3 : Int32} {x4 : Int32} {x5 : Int32} {σ : sj_S} (h : wp_X8_addLesson_0 G R x1 x2 x3 x4 x5 σ) : sj_J G 2 me_X8_addLesson R 0 [.ref (sj_ad G 1), .int x1, .int x2, .int x3, .int x4, .int x5, .null, .null] σ [] := by
  unfold wp_X8_addLesson_0 at h
  refine sj_aload_n dX8_addLesson_0 (i := 0) rfl rfl ?_
  refine sj_get (a := 1) (k9 := 0) (v := .ref (sj_ad G 2)) dX8_addLesson_1 (by decide +kernel) rfl ?_
  refine sj_iconst (v := (nI 0)) dX8_addLesson_4 (by decide +kernel) ?_
  refine sj_iald (a := 2) (j := 0) (x := (σ 2 0)) dX8_addLesson_5 rfl (by decide +kernel) (vp_in_nI (by decide) (by decide)) (nI_clamp (by decide)) rfl ?_
  refine sj_istore dX8_addLesson_6 (by decide) ?_
  refine sj_iconst (v := (nI 3)) dX8_addLesson_8 (by decide +kernel) ?_
  refine sj_iload dX8_addLesson_9 rfl ?_
  refine sj_iconst (v := (nI 5)) dX8_addLesson_11 (by decide +kernel) ?_
  refine sj_imul dX8_addLesson_12 ?_
  refine sj_iadd dX8_addLesson_13 ?_
  refine sj_istore dX8_addLesson_14 (by decide) ?_
  refine sj_aload_n dX8_addLesson_16 (i := 0) rfl rfl ?_
  refine sj_get (a := 1) (k9 := 0) (v := .ref (sj_ad G 2)) dX8_addLesson_17 (by decide +kernel) rfl ?_
  refine sj_iload dX8_addLesson_20 rfl ?_
  refine sj_iconst (v := (nI 0)) dX8_addLesson_22 (by decide +kernel) ?_
  refine sj_iadd dX8_addLesson_23 ?_
  refine sj_iload_n dX8_addLesson_24 (i := 1) rfl rfl ?_
  obtain ⟨b1, h⟩ := h
  refine sj_iast (a := 2) (j := (((nI 3) + ((σ 2 0) * (nI 5))) + (nI 0)).toNatClampNeg) dX8_addLesson_25 rfl (by decide +kernel) b1 rfl ?_
  refine sj_aload_n dX8_addLesson_26 (i := 0) rfl rfl ?_
  refine sj_get (a := 1) (k9 := 0) (v := .ref (sj_ad G 2)) dX8_addLesson_27 (by decide +kernel) rfl ?_
  refine sj_iload dX8_addLesson_30 rfl ?_
  refine sj_iconst (v := (nI 1)) dX8_addLesson_32 (by decide +kernel) ?_
  refine sj_iadd dX8_addLesson_33 ?_
  refine sj_iload_n dX8_addLesson_34 (i := 2) rfl rfl ?_
  obtain ⟨b2, h⟩ := h
  refine sj_iast (a := 2) (j := (((nI 3) + ((σ 2 0) * (nI 5))) + (nI 1)).toNatClampNeg) dX8_addLesson_35 rfl (by decide +kernel) b2 rfl ?_
  refine sj_aload_n dX8_addLesson_36 (i := 0) rfl rfl ?_
  refine sj_get (a := 1) (k9 := 0) (v := .ref (sj_ad G 2)) dX8_addLesson_37 (by decide +kernel) rfl ?_
  refine sj_iload dX8_addLesson_40 rfl ?_
  refine sj_iconst (v := (nI 2)) dX8_addLesson_42 (by decide +kernel) ?_
  refine sj_iadd dX8_addLesson_43 ?_
  refine sj_iload_n dX8_addLesson_44 (i := 3) rfl rfl ?_
  obtain ⟨b3, h⟩ := h
  refine sj_iast (a := 2) (j := (((nI 3) + ((σ 2 0) * (nI 5))) + (nI 2)).toNatClampNeg) dX8_addLesson_45 rfl (by decide +kernel) b3 rfl ?_
  refine sj_aload_n dX8_addLesson_46 (i := 0) rfl rfl ?_
  refine sj_get (a := 1) (k9 := 0) (v := .ref (sj_ad G 2)) dX8_addLesson_47 (by decide +kernel) rfl ?_
  refine sj_iload dX8_addLesson_50 rfl ?_
  refine sj_iconst (v := (nI 3)) dX8_addLesson_52 (by decide +kernel) ?_
  refine sj_iadd dX8_addLesson_53 ?_
  refine sj_iload dX8_addLesson_54 rfl ?_
  obtain ⟨b4, h⟩ := h
  refine sj_iast (a := 2) (j := (((nI 3) + ((σ 2 0) * (nI 5))) + (nI 3)).toNatClampNeg) dX8_addLesson_56 rfl (by decide +kernel) b4 rfl ?_
  refine sj_aload_n dX8_addLesson_57 (i := 0) rfl rfl ?_
  refine sj_get (a := 1) (k9 := 0) (v := .ref (sj_ad G 2)) dX8_addLesson_58 (by decide +kernel) rfl ?_
  refine sj_iload dX8_addLesson_61 rfl ?_
  refine sj_iconst (v := (nI 4)) dX8_addLesson_63 (by decide +kernel) ?_
  refine sj_iadd dX8_addLesson_64 ?_
  refine sj_iload dX8_addLesson_65 rfl ?_
  obtain ⟨b5, h⟩ := h
  refine sj_iast (a := 2) (j := (((nI 3) + ((σ 2 0) * (nI 5))) + (nI 4)).toNatClampNeg) dX8_addLesson_67 rfl (by decide +kernel) b5 rfl ?_
  refine sj_aload_n dX8_addLesson_68 (i := 0) rfl rfl ?_
  refine sj_get (a := 1) (k9 := 0) (v := .ref (sj_ad G 2)) dX8_addLesson_69 (by decide +kernel) rfl ?_
  refine sj_iconst (v := (nI 0)) dX8_addLesson_72 (by decide +kernel) ?_
  refine sj_iload dX8_addLesson_73 rfl ?_
  refine sj_iconst (v := (nI 1)) dX8_addLesson_75 (by decide +kernel) ?_
  refine sj_iadd dX8_addLesson_76 ?_
  refine sj_iast (a := 2) (j := 0) dX8_addLesson_77 rfl (by decide +kernel) (vp_in_nI (by decide) (by decide)) (nI_clamp (by decide)) ?_
  refine sj_iload dX8_addLesson_78 rfl ?_
  subst h
  exact sj_ret dX8_addLesson_80 rfl rfl
theorem c_X8_addLesson {G : sj_G} (ok : sj_ok G) {R : sj_R} {x1 : Int32} {x2 : Int32} {x3 : Int32} {x4 : Int32} {x5 : Int32} {σ : sj_S} (h : wp_X8_addLesson_0 G R x1 x2 x3 x4 x5 σ) : sj_C G 2 me_X8_addLesson [.ref (sj_ad G 1), .int x1, .int x2, .int x3, .int x4, .int x5] σ R :=
  sj_enter ok (by decide +kernel) rfl rfl (Nat.le_of_ble_eq_true rfl) (by simp [Value.category]) (t_X8_addLesson_0 h)
def wp_X8_addWish_0 (G : sj_G) (R : sj_R) (x1 : Int32) (x2 : Int32) (x3 : Int32) (x4 : Int32) (σ : sj_S) : Prop := vp_in (((nI 48) + ((σ 2 1) * (nI 4))) + (nI 0)) 119 ∧ vp_in (((nI 48) + ((σ 2 1) * (nI 4))) + (nI 1)) 119 ∧ vp_in (((nI 48) + ((σ 2 1) * (nI 4))) + (nI 2)) 119 ∧ vp_in (((nI 48) + ((σ 2 1) * (nI 4))) + (nI 3)) 119 ∧ R = (.ok (σ 2 1), (sj_st (sj_st (sj_st (sj_st (sj_st σ 2 (((nI 48) + ((σ 2 1) * (nI 4))) + (nI 0)).toNatClampNeg x1) 2 (((nI 48) + ((σ 2 1) * (nI 4))) + (nI 1)).toNatClampNeg x2) 2 (((nI 48) + ((σ 2 1) * (nI 4))) + (nI 2)).toNatClampNeg x3) 2 (((nI 48) + ((σ 2 1) * (nI 4))) + (nI 3)).toNatClampNeg x4) 2 1 ((σ 2 1) + (nI 1))))
set_option maxRecDepth 20000 in
theorem t_X8_addWish_0 {G : sj_G} {R : sj_R} {x1 : Int32} {x2 : Int32} {x3 : Int32} {x4 : Int32} {σ : sj_S} (h : wp_X8_addWish_0 G R x1 x2 x3 x4 σ) : sj_J G 2 me_X8_addWish R 0 [.ref (sj_ad G 1), .int x1, .int x2, .int x3, .int x4, .null, .null] σ [] := by
  unfold wp_X8_addWish_0 at h
  refine sj_aload_n dX8_addWish_0 (i := 0) rfl rfl ?_
  refine sj_get (a := 1) (k9 := 0) (v := .ref (sj_ad G 2)) dX8_addWish_1 (by decide +kernel) rfl ?_
  refine sj_iconst (v := (nI 1)) dX8_addWish_4 (by decide +kernel) ?_
  refine sj_iald (a := 2) (j := 1) (x := (σ 2 1)) dX8_addWish_5 rfl (by decide +kernel) (vp_in_nI (by decide) (by decide)) (nI_clamp (by decide)) rfl ?_
  refine sj_istore dX8_addWish_6 (by decide) ?_
  refine sj_bipush (v := (nI 48)) dX8_addWish_8 (by decide +kernel) ?_
  refine sj_iload dX8_addWish_10 rfl ?_
  refine sj_iconst (v := (nI 4)) dX8_addWish_12 (by decide +kernel) ?_
  refine sj_imul dX8_addWish_13 ?_
  refine sj_iadd dX8_addWish_14 ?_
  refine sj_istore dX8_addWish_15 (by decide) ?_
  refine sj_aload_n dX8_addWish_17 (i := 0) rfl rfl ?_
  refine sj_get (a := 1) (k9 := 0) (v := .ref (sj_ad G 2)) dX8_addWish_18 (by decide +kernel) rfl ?_
  refine sj_iload dX8_addWish_21 rfl ?_
  refine sj_iconst (v := (nI 0)) dX8_addWish_23 (by decide +kernel) ?_
  refine sj_iadd dX8_addWish_24 ?_
  refine sj_iload_n dX8_addWish_25 (i := 1) rfl rfl ?_
  obtain ⟨b1, h⟩ := h
  refine sj_iast (a := 2) (j := (((nI 48) + ((σ 2 1) * (nI 4))) + (nI 0)).toNatClampNeg) dX8_addWish_26 rfl (by decide +kernel) b1 rfl ?_
  refine sj_aload_n dX8_addWish_27 (i := 0) rfl rfl ?_
  refine sj_get (a := 1) (k9 := 0) (v := .ref (sj_ad G 2)) dX8_addWish_28 (by decide +kernel) rfl ?_
  refine sj_iload dX8_addWish_31 rfl ?_
  refine sj_iconst (v := (nI 1)) dX8_addWish_33 (by decide +kernel) ?_
  refine sj_iadd dX8_addWish_34 ?_
  refine sj_iload_n dX8_addWish_35 (i := 2) rfl rfl ?_
  obtain ⟨b2, h⟩ := h
  refine sj_iast (a := 2) (j := (((nI 48) + ((σ 2 1) * (nI 4))) + (nI 1)).toNatClampNeg) dX8_addWish_36 rfl (by decide +kernel) b2 rfl ?_
  refine sj_aload_n dX8_addWish_37 (i := 0) rfl rfl ?_
  refine sj_get (a := 1) (k9 := 0) (v := .ref (sj_ad G 2)) dX8_addWish_38 (by decide +kernel) rfl ?_
  refine sj_iload dX8_addWish_41 rfl ?_
  refine sj_iconst (v := (nI 2)) dX8_addWish_43 (by decide +kernel) ?_
  refine sj_iadd dX8_addWish_44 ?_
  refine sj_iload_n dX8_addWish_45 (i := 3) rfl rfl ?_
  obtain ⟨b3, h⟩ := h
  refine sj_iast (a := 2) (j := (((nI 48) + ((σ 2 1) * (nI 4))) + (nI 2)).toNatClampNeg) dX8_addWish_46 rfl (by decide +kernel) b3 rfl ?_
  refine sj_aload_n dX8_addWish_47 (i := 0) rfl rfl ?_
  refine sj_get (a := 1) (k9 := 0) (v := .ref (sj_ad G 2)) dX8_addWish_48 (by decide +kernel) rfl ?_
  refine sj_iload dX8_addWish_51 rfl ?_
  refine sj_iconst (v := (nI 3)) dX8_addWish_53 (by decide +kernel) ?_
  refine sj_iadd dX8_addWish_54 ?_
  refine sj_iload dX8_addWish_55 rfl ?_
  obtain ⟨b4, h⟩ := h
  refine sj_iast (a := 2) (j := (((nI 48) + ((σ 2 1) * (nI 4))) + (nI 3)).toNatClampNeg) dX8_addWish_57 rfl (by decide +kernel) b4 rfl ?_
  refine sj_aload_n dX8_addWish_58 (i := 0) rfl rfl ?_
  refine sj_get (a := 1) (k9 := 0) (v := .ref (sj_ad G 2)) dX8_addWish_59 (by decide +kernel) rfl ?_
  refine sj_iconst (v := (nI 1)) dX8_addWish_62 (by decide +kernel) ?_
  refine sj_iload dX8_addWish_63 rfl ?_
  refine sj_iconst (v := (nI 1)) dX8_addWish_65 (by decide +kernel) ?_
  refine sj_iadd dX8_addWish_66 ?_
  refine sj_iast (a := 2) (j := 1) dX8_addWish_67 rfl (by decide +kernel) (vp_in_nI (by decide) (by decide)) (nI_clamp (by decide)) ?_
  refine sj_iload dX8_addWish_68 rfl ?_
  subst h
  exact sj_ret dX8_addWish_70 rfl rfl
theorem c_X8_addWish {G : sj_G} (ok : sj_ok G) {R : sj_R} {x1 : Int32} {x2 : Int32} {x3 : Int32} {x4 : Int32} {σ : sj_S} (h : wp_X8_addWish_0 G R x1 x2 x3 x4 σ) : sj_C G 2 me_X8_addWish [.ref (sj_ad G 1), .int x1, .int x2, .int x3, .int x4] σ R :=
  sj_enter ok (by decide +kernel) rfl rfl (Nat.le_of_ble_eq_true rfl) (by simp [Value.category]) (t_X8_addWish_0 h)
def wp_X8_putRooms_0 (G : sj_G) (R : sj_R) (x1 : Int32) (x2 : Int32) (σ : sj_S) : Prop := vp_in ((nI 102) + x1) 119 ∧ vp_in ((nI 102) + x1) 119 ∧ R = (.ok (σ 2 ((nI 102) + x1).toNatClampNeg), (sj_st σ 2 ((nI 102) + x1).toNatClampNeg x2))
set_option maxRecDepth 20000 in
theorem t_X8_putRooms_0 {G : sj_G} {R : sj_R} {x1 : Int32} {x2 : Int32} {σ : sj_S} (h : wp_X8_putRooms_0 G R x1 x2 σ) : sj_J G 2 me_X8_putRooms R 0 [.ref (sj_ad G 1), .int x1, .int x2, .null] σ [] := by
  unfold wp_X8_putRooms_0 at h
  refine sj_aload_n dX8_putRooms_0 (i := 0) rfl rfl ?_
  refine sj_get (a := 1) (k9 := 0) (v := .ref (sj_ad G 2)) dX8_putRooms_1 (by decide +kernel) rfl ?_
  refine sj_bipush (v := (nI 102)) dX8_putRooms_4 (by decide +kernel) ?_
  refine sj_iload_n dX8_putRooms_6 (i := 1) rfl rfl ?_
  refine sj_iadd dX8_putRooms_7 ?_
  obtain ⟨b1, h⟩ := h
  refine sj_iald (a := 2) (j := ((nI 102) + x1).toNatClampNeg) (x := (σ 2 ((nI 102) + x1).toNatClampNeg)) dX8_putRooms_8 rfl (by decide +kernel) b1 rfl rfl ?_
  refine sj_istore_n dX8_putRooms_9 (i := 3) rfl (by decide) ?_
  refine sj_aload_n dX8_putRooms_10 (i := 0) rfl rfl ?_
  refine sj_get (a := 1) (k9 := 0) (v := .ref (sj_ad G 2)) dX8_putRooms_11 (by decide +kernel) rfl ?_
  refine sj_bipush (v := (nI 102)) dX8_putRooms_14 (by decide +kernel) ?_
  refine sj_iload_n dX8_putRooms_16 (i := 1) rfl rfl ?_
  refine sj_iadd dX8_putRooms_17 ?_
  refine sj_iload_n dX8_putRooms_18 (i := 2) rfl rfl ?_
  obtain ⟨b2, h⟩ := h
  refine sj_iast (a := 2) (j := ((nI 102) + x1).toNatClampNeg) dX8_putRooms_19 rfl (by decide +kernel) b2 rfl ?_
  refine sj_iload_n dX8_putRooms_20 (i := 3) rfl rfl ?_
  subst h
  exact sj_ret dX8_putRooms_21 rfl rfl
theorem c_X8_putRooms {G : sj_G} (ok : sj_ok G) {R : sj_R} {x1 : Int32} {x2 : Int32} {σ : sj_S} (h : wp_X8_putRooms_0 G R x1 x2 σ) : sj_C G 2 me_X8_putRooms [.ref (sj_ad G 1), .int x1, .int x2] σ R :=
  sj_enter ok (by decide +kernel) rfl rfl (Nat.le_of_ble_eq_true rfl) (by simp [Value.category]) (t_X8_putRooms_0 h)
def wp_X8_putIll_0 (G : sj_G) (R : sj_R) (x1 : Int32) (x2 : Int32) (x3 : Int32) (σ : sj_S) : Prop := ∃ v1 σ1, sj_C G 2 me_X8_putBit [.ref (sj_ad G 1), .int ((nI 105) + x1), .int x2, .int x3] σ (.ok v1, σ1) ∧ R = (.ok v1, σ1) ∧ (v1 = nI 0 ∨ v1 = nI 1)
set_option maxRecDepth 20000 in
theorem t_X8_putIll_0 {G : sj_G} {R : sj_R} {x1 : Int32} {x2 : Int32} {x3 : Int32} {σ : sj_S} (h : wp_X8_putIll_0 G R x1 x2 x3 σ) : sj_J G 3 me_X8_putIll R 0 [.ref (sj_ad G 1), .int x1, .int x2, .int x3] σ [] := by
  unfold wp_X8_putIll_0 at h
  refine sj_aload_n dX8_putIll_0 (i := 0) rfl rfl ?_
  refine sj_bipush (v := (nI 105)) dX8_putIll_1 (by decide +kernel) ?_
  refine sj_iload_n dX8_putIll_3 (i := 1) rfl rfl ?_
  refine sj_iadd dX8_putIll_4 ?_
  refine sj_iload_n dX8_putIll_5 (i := 2) rfl rfl ?_
  refine sj_iload_n dX8_putIll_6 (i := 3) rfl rfl ?_
  obtain ⟨v1, σ1, hc1, h⟩ := h
  refine sj_callVi (M' := me_X8_putBit) (b := 1) (As := [.int ((nI 105) + x1), .int x2, .int x3]) (rest := []) dX8_putIll_7 gX8_putIll_X8_putBit rfl hd_X8_putBit (by decide +kernel) (by decide +kernel) rfl (Nat.le_of_ble_eq_true rfl) (by omega) rfl hc1 ?_
  obtain ⟨h, hz⟩ := h
  subst h
  exact sj_ret dX8_putIll_10 rfl (sj_nb hz)
theorem c_X8_putIll {G : sj_G} (ok : sj_ok G) {R : sj_R} {x1 : Int32} {x2 : Int32} {x3 : Int32} {σ : sj_S} (h : wp_X8_putIll_0 G R x1 x2 x3 σ) : sj_C G 3 me_X8_putIll [.ref (sj_ad G 1), .int x1, .int x2, .int x3] σ R :=
  sj_enter ok (by decide +kernel) rfl rfl (Nat.le_of_ble_eq_true rfl) (by simp [Value.category]) (t_X8_putIll_0 h)
def wp_X8_putApart_0 (G : sj_G) (R : sj_R) (x1 : Int32) (x2 : Int32) (x3 : Int32) (σ : sj_S) : Prop := ∃ v1 σ1, sj_C G 2 me_X8_putBit [.ref (sj_ad G 1), .int ((nI 111) + x2), .int x1, .int x3] σ (.ok v1, σ1) ∧ ∃ v2 σ2, sj_C G 2 me_X8_putBit [.ref (sj_ad G 1), .int ((nI 111) + x1), .int x2, .int x3] σ1 (.ok v2, σ2) ∧ R = (.ok v2, σ2) ∧ (v2 = nI 0 ∨ v2 = nI 1)
set_option maxRecDepth 20000 in
theorem t_X8_putApart_0 {G : sj_G} {R : sj_R} {x1 : Int32} {x2 : Int32} {x3 : Int32} {σ : sj_S} (h : wp_X8_putApart_0 G R x1 x2 x3 σ) : sj_J G 3 me_X8_putApart R 0 [.ref (sj_ad G 1), .int x1, .int x2, .int x3] σ [] := by
  unfold wp_X8_putApart_0 at h
  refine sj_aload_n dX8_putApart_0 (i := 0) rfl rfl ?_
  refine sj_bipush (v := (nI 111)) dX8_putApart_1 (by decide +kernel) ?_
  refine sj_iload_n dX8_putApart_3 (i := 2) rfl rfl ?_
  refine sj_iadd dX8_putApart_4 ?_
  refine sj_iload_n dX8_putApart_5 (i := 1) rfl rfl ?_
  refine sj_iload_n dX8_putApart_6 (i := 3) rfl rfl ?_
  obtain ⟨v1, σ1, hc1, h⟩ := h
  refine sj_callVi (M' := me_X8_putBit) (b := 1) (As := [.int ((nI 111) + x2), .int x1, .int x3]) (rest := []) dX8_putApart_7 gX8_putApart_X8_putBit rfl hd_X8_putBit (by decide +kernel) (by decide +kernel) rfl (Nat.le_of_ble_eq_true rfl) (by omega) rfl hc1 ?_
  refine sj_pop dX8_putApart_10 rfl ?_
  refine sj_aload_n dX8_putApart_11 (i := 0) rfl rfl ?_
  refine sj_bipush (v := (nI 111)) dX8_putApart_12 (by decide +kernel) ?_
  refine sj_iload_n dX8_putApart_14 (i := 1) rfl rfl ?_
  refine sj_iadd dX8_putApart_15 ?_
  refine sj_iload_n dX8_putApart_16 (i := 2) rfl rfl ?_
  refine sj_iload_n dX8_putApart_17 (i := 3) rfl rfl ?_
  obtain ⟨v2, σ2, hc2, h⟩ := h
  refine sj_callVi (M' := me_X8_putBit) (b := 1) (As := [.int ((nI 111) + x1), .int x2, .int x3]) (rest := []) dX8_putApart_18 gX8_putApart_X8_putBit rfl hd_X8_putBit (by decide +kernel) (by decide +kernel) rfl (Nat.le_of_ble_eq_true rfl) (by omega) rfl hc2 ?_
  obtain ⟨h, hz⟩ := h
  subst h
  exact sj_ret dX8_putApart_21 rfl (sj_nb hz)
theorem c_X8_putApart {G : sj_G} (ok : sj_ok G) {R : sj_R} {x1 : Int32} {x2 : Int32} {x3 : Int32} {σ : sj_S} (h : wp_X8_putApart_0 G R x1 x2 x3 σ) : sj_C G 3 me_X8_putApart [.ref (sj_ad G 1), .int x1, .int x2, .int x3] σ R :=
  sj_enter ok (by decide +kernel) rfl rfl (Nat.le_of_ble_eq_true rfl) (by simp [Value.category]) (t_X8_putApart_0 h)
def wp_X8_putBit_54 (G : sj_G) (R : sj_R) (x4 : Int32) (s0 : Int32) (s1 : Int32) (σ : sj_S) : Prop := vp_in s1 119 ∧ R = (.ok x4, (sj_st σ 2 s1.toNatClampNeg s0)) ∧ (x4 = nI 0 ∨ x4 = nI 1)
set_option maxRecDepth 20000 in
theorem t_X8_putBit_54 {G : sj_G} {R : sj_R} {x4 : Int32} {s0 : Int32} {s1 : Int32} {σ : sj_S} (h : wp_X8_putBit_54 G R x4 s0 s1 σ) : sj_J G 2 me_X8_putBit R 54 [.null, .null, .null, .null, .int x4] σ [.int s0, .int s1, .ref (sj_ad G 2)] := by
  unfold wp_X8_putBit_54 at h
  obtain ⟨b1, h⟩ := h
  refine sj_iast (a := 2) (j := s1.toNatClampNeg) dX8_putBit_54 rfl (by decide +kernel) b1 rfl ?_
  refine sj_iload dX8_putBit_55 rfl ?_
  obtain ⟨h, hz⟩ := h
  subst h
  exact sj_ret dX8_putBit_57 rfl (sj_nb hz)
def wp_X8_putBit_18 (G : sj_G) (R : sj_R) (x1 : Int32) (x2 : Int32) (x3 : Int32) (s0 : Int32) (σ : sj_S) : Prop := ((x3 = 0) → vp_in x1 119) ∧ ((¬ (x3 = 0)) → vp_in x1 119) ∧ (wp_X8_putBit_54 G R s0 (if x3 = 0 then ((σ 2 x1.toNatClampNeg) &&& (((nI 1) <<< (x2 &&& 31)) ^^^ (-1))) else ((σ 2 x1.toNatClampNeg) ||| ((nI 1) <<< (x2 &&& 31)))) x1 σ)
set_option maxRecDepth 20000 in
theorem t_X8_putBit_18 {G : sj_G} {R : sj_R} {x1 : Int32} {x2 : Int32} {x3 : Int32} {s0 : Int32} {σ : sj_S} (h : wp_X8_putBit_18 G R x1 x2 x3 s0 σ) : sj_J G 2 me_X8_putBit R 18 [.ref (sj_ad G 1), .int x1, .int x2, .int x3, .null] σ [.int s0] := by
  unfold wp_X8_putBit_18 at h
  refine sj_istore dX8_putBit_18 (by decide) ?_
  refine sj_aload_n dX8_putBit_20 (i := 0) rfl rfl ?_
  refine sj_get (a := 1) (k9 := 0) (v := .ref (sj_ad G 2)) dX8_putBit_21 (by decide +kernel) rfl ?_
  refine sj_iload_n dX8_putBit_24 (i := 1) rfl rfl ?_
  refine sj_iload_n dX8_putBit_25 (i := 3) rfl rfl ?_
  obtain ⟨f4, f5, h⟩ := h
  refine sj_if_eq (tgt := 42) dX8_putBit_26 (by decide) (fun c1 => ?_) (fun c1 => ?_)
  · have b2 := f4 c1
    refine sj_aload_n dX8_putBit_42 (i := 0) rfl rfl ?_
    refine sj_get (a := 1) (k9 := 0) (v := .ref (sj_ad G 2)) dX8_putBit_43 (by decide +kernel) rfl ?_
    refine sj_iload_n dX8_putBit_46 (i := 1) rfl rfl ?_
    refine sj_iald (a := 2) (j := x1.toNatClampNeg) (x := (σ 2 x1.toNatClampNeg)) dX8_putBit_47 rfl (by decide +kernel) b2 rfl rfl ?_
    refine sj_iconst (v := (nI 1)) dX8_putBit_48 (by decide +kernel) ?_
    refine sj_iload_n dX8_putBit_49 (i := 2) rfl rfl ?_
    refine sj_ishl dX8_putBit_50 ?_
    refine sj_iconst (v := (-1)) dX8_putBit_51 (by decide +kernel) ?_
    refine sj_ixor dX8_putBit_52 ?_
    refine sj_iand dX8_putBit_53 ?_
    try simp only [if_pos c1] at h
    refine sj_fg [0, 1, 2, 3] ?_
    exact t_X8_putBit_54 h
  · have b3 := f5 c1
    refine sj_aload_n dX8_putBit_29 (i := 0) rfl rfl ?_
    refine sj_get (a := 1) (k9 := 0) (v := .ref (sj_ad G 2)) dX8_putBit_30 (by decide +kernel) rfl ?_
    refine sj_iload_n dX8_putBit_33 (i := 1) rfl rfl ?_
    refine sj_iald (a := 2) (j := x1.toNatClampNeg) (x := (σ 2 x1.toNatClampNeg)) dX8_putBit_34 rfl (by decide +kernel) b3 rfl rfl ?_
    refine sj_iconst (v := (nI 1)) dX8_putBit_35 (by decide +kernel) ?_
    refine sj_iload_n dX8_putBit_36 (i := 2) rfl rfl ?_
    refine sj_ishl dX8_putBit_37 ?_
    refine sj_ior dX8_putBit_38 ?_
    refine sj_goto (tgt := 54) dX8_putBit_39 (by decide) ?_
    try simp only [if_neg c1] at h
    refine sj_fg [0, 1, 2, 3] ?_
    exact t_X8_putBit_54 h
def wp_X8_putBit_0 (G : sj_G) (R : sj_R) (x1 : Int32) (x2 : Int32) (x3 : Int32) (σ : sj_S) : Prop := vp_in x1 119 ∧ (wp_X8_putBit_18 G R x1 x2 x3 (if (((σ 2 x1.toNatClampNeg) >>> (x2 &&& 31)) &&& (nI 1)) = 0 then (nI 0) else (nI 1)) σ)
set_option maxRecDepth 20000 in
theorem t_X8_putBit_0 {G : sj_G} {R : sj_R} {x1 : Int32} {x2 : Int32} {x3 : Int32} {σ : sj_S} (h : wp_X8_putBit_0 G R x1 x2 x3 σ) : sj_J G 2 me_X8_putBit R 0 [.ref (sj_ad G 1), .int x1, .int x2, .int x3, .null] σ [] := by
  unfold wp_X8_putBit_0 at h
  refine sj_aload_n dX8_putBit_0 (i := 0) rfl rfl ?_
  refine sj_get (a := 1) (k9 := 0) (v := .ref (sj_ad G 2)) dX8_putBit_1 (by decide +kernel) rfl ?_
  refine sj_iload_n dX8_putBit_4 (i := 1) rfl rfl ?_
  obtain ⟨b1, h⟩ := h
  refine sj_iald (a := 2) (j := x1.toNatClampNeg) (x := (σ 2 x1.toNatClampNeg)) dX8_putBit_5 rfl (by decide +kernel) b1 rfl rfl ?_
  refine sj_iload_n dX8_putBit_6 (i := 2) rfl rfl ?_
  refine sj_ishr dX8_putBit_7 ?_
  refine sj_iconst (v := (nI 1)) dX8_putBit_8 (by decide +kernel) ?_
  refine sj_iand dX8_putBit_9 ?_
  refine sj_if_eq (tgt := 17) dX8_putBit_10 (by decide) (fun c2 => ?_) (fun c2 => ?_)
  · refine sj_iconst (v := (nI 0)) dX8_putBit_17 (by decide +kernel) ?_
    try simp only [if_pos c2] at h
    exact t_X8_putBit_18 h
  · refine sj_iconst (v := (nI 1)) dX8_putBit_13 (by decide +kernel) ?_
    refine sj_goto (tgt := 18) dX8_putBit_14 (by decide) ?_
    try simp only [if_neg c2] at h
    exact t_X8_putBit_18 h
theorem c_X8_putBit {G : sj_G} (ok : sj_ok G) {R : sj_R} {x1 : Int32} {x2 : Int32} {x3 : Int32} {σ : sj_S} (h : wp_X8_putBit_0 G R x1 x2 x3 σ) : sj_C G 2 me_X8_putBit [.ref (sj_ad G 1), .int x1, .int x2, .int x3] σ R :=
  sj_enter ok (by decide +kernel) rfl rfl (Nat.le_of_ble_eq_true rfl) (by simp [Value.category]) (t_X8_putBit_0 h)
def wp_X8_hardWishes_27 (G : sj_G) (R : sj_R) (x1 : Int32) (x2 : Int32) (σ : sj_S) : Prop := sj_J G 3 me_X8_hardWishes R 4 [.ref (sj_ad G 1), .int x1, .int (x2 + (nI 1))] σ []
set_option maxRecDepth 20000 in
theorem t_X8_hardWishes_27 {G : sj_G} {R : sj_R} {x1 : Int32} {x2 : Int32} {σ : sj_S} (h : wp_X8_hardWishes_27 G R x1 x2 σ) : sj_J G 3 me_X8_hardWishes R 27 [.ref (sj_ad G 1), .int x1, .int x2] σ [] := by
  unfold wp_X8_hardWishes_27 at h
  refine sj_iinc (v := (x2 + (nI 1))) dX8_hardWishes_27 (by decide) rfl rfl ?_
  refine sj_goto (tgt := 4) dX8_hardWishes_30 (by decide) ?_
  exact h
def wp_X8_hardWishes_4 (G : sj_G) (R : sj_R) (x1 : Int32) (x2 : Int32) (σ : sj_S) : Prop := ∃ v1 σ1, sj_C G 2 me_X8_wishTotal [.ref (sj_ad G 1)] σ (.ok v1, σ1) ∧ (v1 ≤ x2 → R = (.ok x1, σ1)) ∧ (¬ (v1 ≤ x2) → ∃ v3 σ3, sj_C G 2 me_X8_ofWish [.ref (sj_ad G 1), .int x2, .int (nI 3)] σ1 (.ok v3, σ3) ∧ (wp_X8_hardWishes_27 G R (if v3 = 0 then (x1 ||| ((nI 1) <<< (x2 &&& 31))) else x1) x2 σ3))
set_option maxRecDepth 20000 in
theorem t_X8_hardWishes_4 {G : sj_G} {R : sj_R} {x1 : Int32} {x2 : Int32} {σ : sj_S} (h : wp_X8_hardWishes_4 G R x1 x2 σ) : sj_J G 3 me_X8_hardWishes R 4 [.ref (sj_ad G 1), .int x1, .int x2] σ [] := by
  unfold wp_X8_hardWishes_4 at h
  refine sj_iload_n dX8_hardWishes_4 (i := 2) rfl rfl ?_
  refine sj_aload_n dX8_hardWishes_5 (i := 0) rfl rfl ?_
  obtain ⟨v1, σ1, hc1, h⟩ := h
  refine sj_callVi (M' := me_X8_wishTotal) (b := 1) (As := []) (rest := [.int x2]) dX8_hardWishes_6 gX8_hardWishes_X8_wishTotal rfl hd_X8_wishTotal (by decide +kernel) (by decide +kernel) rfl (Nat.le_of_ble_eq_true rfl) (by omega) rfl hc1 ?_
  refine sj_icmp_ge (tgt := 33) dX8_hardWishes_9 (by decide) (fun c2 => ?_) (fun c2 => ?_)
  · replace h := h.1 c2
    refine sj_iload_n dX8_hardWishes_33 (i := 1) rfl rfl ?_
    subst h
    exact sj_ret dX8_hardWishes_34 rfl rfl
  · replace h := h.2 c2
    refine sj_aload_n dX8_hardWishes_12 (i := 0) rfl rfl ?_
    refine sj_iload_n dX8_hardWishes_13 (i := 2) rfl rfl ?_
    refine sj_iconst (v := (nI 3)) dX8_hardWishes_14 (by decide +kernel) ?_
    obtain ⟨v3, σ3, hc3, h⟩ := h
    refine sj_callVi (M' := me_X8_ofWish) (b := 1) (As := [.int x2, .int (nI 3)]) (rest := []) dX8_hardWishes_15 gX8_hardWishes_X8_ofWish rfl hd_X8_ofWish (by decide +kernel) (by decide +kernel) rfl (Nat.le_of_ble_eq_true rfl) (by omega) rfl hc3 ?_
    refine sj_if_ne (tgt := 27) dX8_hardWishes_18 (by decide) (fun c4 => ?_) (fun c4 => ?_)
    · try simp only [if_neg c4] at h
      exact t_X8_hardWishes_27 h
    · refine sj_iload_n dX8_hardWishes_21 (i := 1) rfl rfl ?_
      refine sj_iconst (v := (nI 1)) dX8_hardWishes_22 (by decide +kernel) ?_
      refine sj_iload_n dX8_hardWishes_23 (i := 2) rfl rfl ?_
      refine sj_ishl dX8_hardWishes_24 ?_
      refine sj_ior dX8_hardWishes_25 ?_
      refine sj_istore_n dX8_hardWishes_26 (i := 1) rfl (by decide) ?_
      try simp only [if_pos c4] at h
      exact t_X8_hardWishes_27 h
def wp_X8_hardWishes_0 (G : sj_G) (R : sj_R) (σ : sj_S) : Prop := sj_J G 3 me_X8_hardWishes R 4 [.ref (sj_ad G 1), .int (nI 0), .int (nI 0)] σ []
set_option maxRecDepth 20000 in
theorem t_X8_hardWishes_0 {G : sj_G} {R : sj_R} {σ : sj_S} (h : wp_X8_hardWishes_0 G R σ) : sj_J G 3 me_X8_hardWishes R 0 [.ref (sj_ad G 1), .null, .null] σ [] := by
  unfold wp_X8_hardWishes_0 at h
  refine sj_iconst (v := (nI 0)) dX8_hardWishes_0 (by decide +kernel) ?_
  refine sj_istore_n dX8_hardWishes_1 (i := 1) rfl (by decide) ?_
  refine sj_iconst (v := (nI 0)) dX8_hardWishes_2 (by decide +kernel) ?_
  refine sj_istore_n dX8_hardWishes_3 (i := 2) rfl (by decide) ?_
  exact h
theorem c_X8_hardWishes {G : sj_G} (ok : sj_ok G) {R : sj_R} {σ : sj_S} (h : wp_X8_hardWishes_0 G R σ) : sj_C G 3 me_X8_hardWishes [.ref (sj_ad G 1)] σ R :=
  sj_enter ok (by decide +kernel) rfl rfl (Nat.le_of_ble_eq_true rfl) (by simp [Value.category]) (t_X8_hardWishes_0 h)
def wp_X8_isOf_29 (G : sj_G) (R : sj_R) (s0 : Int32) (σ : sj_S) : Prop := R = (.ok s0, σ) ∧ (s0 = nI 0 ∨ s0 = nI 1)
set_option maxRecDepth 20000 in
theorem t_X8_isOf_29 {G : sj_G} {R : sj_R} {s0 : Int32} {σ : sj_S} (h : wp_X8_isOf_29 G R s0 σ) : sj_J G 2 me_X8_isOf R 29 [.null, .null, .null, .null] σ [.int s0] := by
  unfold wp_X8_isOf_29 at h
  obtain ⟨h, hz⟩ := h
  subst h
  exact sj_ret dX8_isOf_29 rfl (sj_nb hz)
def wp_X8_isOf_18 (G : sj_G) (R : sj_R) (x3 : Int32) (s0 : Int32) (s1 : Int32) (σ : sj_S) : Prop := vp_in (s1 + s0) 119 ∧ (wp_X8_isOf_29 G R (if (σ 2 (s1 + s0).toNatClampNeg) = x3 then (nI 1) else (nI 0)) σ)
set_option maxRecDepth 20000 in
theorem t_X8_isOf_18 {G : sj_G} {R : sj_R} {x3 : Int32} {s0 : Int32} {s1 : Int32} {σ : sj_S} (h : wp_X8_isOf_18 G R x3 s0 s1 σ) : sj_J G 2 me_X8_isOf R 18 [.null, .null, .null, .int x3] σ [.int s0, .int s1, .ref (sj_ad G 2)] := by
  unfold wp_X8_isOf_18 at h
  refine sj_iadd dX8_isOf_18 ?_
  obtain ⟨b1, h⟩ := h
  refine sj_iald (a := 2) (j := (s1 + s0).toNatClampNeg) (x := (σ 2 (s1 + s0).toNatClampNeg)) dX8_isOf_19 rfl (by decide +kernel) b1 rfl rfl ?_
  refine sj_iload_n dX8_isOf_20 (i := 3) rfl rfl ?_
  refine sj_icmp_ne (tgt := 28) dX8_isOf_21 (by decide) (fun c2 => ?_) (fun c2 => ?_)
  · refine sj_iconst (v := (nI 0)) dX8_isOf_28 (by decide +kernel) ?_
    try simp only [if_neg c2] at h
    refine sj_fg [3] ?_
    exact t_X8_isOf_29 h
  · refine sj_iconst (v := (nI 1)) dX8_isOf_24 (by decide +kernel) ?_
    refine sj_goto (tgt := 29) dX8_isOf_25 (by decide) ?_
    try simp only [if_pos c2] at h
    refine sj_fg [3] ?_
    exact t_X8_isOf_29 h
def wp_X8_isOf_0 (G : sj_G) (R : sj_R) (x1 : Int32) (x2 : Int32) (x3 : Int32) (σ : sj_S) : Prop := (wp_X8_isOf_18 G R x3 (if x2 = 0 then (nI 0) else (nI 1)) ((nI 3) + (x1 * (nI 5))) σ)
set_option maxRecDepth 20000 in
theorem t_X8_isOf_0 {G : sj_G} {R : sj_R} {x1 : Int32} {x2 : Int32} {x3 : Int32} {σ : sj_S} (h : wp_X8_isOf_0 G R x1 x2 x3 σ) : sj_J G 2 me_X8_isOf R 0 [.ref (sj_ad G 1), .int x1, .int x2, .int x3] σ [] := by
  unfold wp_X8_isOf_0 at h
  refine sj_aload_n dX8_isOf_0 (i := 0) rfl rfl ?_
  refine sj_get (a := 1) (k9 := 0) (v := .ref (sj_ad G 2)) dX8_isOf_1 (by decide +kernel) rfl ?_
  refine sj_iconst (v := (nI 3)) dX8_isOf_4 (by decide +kernel) ?_
  refine sj_iload_n dX8_isOf_5 (i := 1) rfl rfl ?_
  refine sj_iconst (v := (nI 5)) dX8_isOf_6 (by decide +kernel) ?_
  refine sj_imul dX8_isOf_7 ?_
  refine sj_iadd dX8_isOf_8 ?_
  refine sj_iload_n dX8_isOf_9 (i := 2) rfl rfl ?_
  refine sj_if_eq (tgt := 17) dX8_isOf_10 (by decide) (fun c1 => ?_) (fun c1 => ?_)
  · refine sj_iconst (v := (nI 0)) dX8_isOf_17 (by decide +kernel) ?_
    try simp only [if_pos c1] at h
    refine sj_fg [0, 1, 2] ?_
    exact t_X8_isOf_18 h
  · refine sj_iconst (v := (nI 1)) dX8_isOf_13 (by decide +kernel) ?_
    refine sj_goto (tgt := 18) dX8_isOf_14 (by decide) ?_
    try simp only [if_neg c1] at h
    refine sj_fg [0, 1, 2] ?_
    exact t_X8_isOf_18 h
theorem c_X8_isOf {G : sj_G} (ok : sj_ok G) {R : sj_R} {x1 : Int32} {x2 : Int32} {x3 : Int32} {σ : sj_S} (h : wp_X8_isOf_0 G R x1 x2 x3 σ) : sj_C G 2 me_X8_isOf [.ref (sj_ad G 1), .int x1, .int x2, .int x3] σ R :=
  sj_enter ok (by decide +kernel) rfl rfl (Nat.le_of_ble_eq_true rfl) (by simp [Value.category]) (t_X8_isOf_0 h)
def wp_X8_slotsTaken_21 (G : sj_G) (R : sj_R) (sl : Nat) (x1 : Int32) (s0 : Int32) (σ : sj_S) : Prop := vp_in x1 9 ∧ R = (.ok (s0 <<< ((σ sl x1.toNatClampNeg) &&& 31)), σ)
set_option maxRecDepth 20000 in
theorem t_X8_slotsTaken_21 {G : sj_G} {R : sj_R} {sl : Nat} {x1 : Int32} {s0 : Int32} {σ : sj_S} (hsl : sj_lk sl = 13 ∧ sl < sj_NA ∧ sj_ln sl = 9) (h : wp_X8_slotsTaken_21 G R sl x1 s0 σ) : sj_J G 2 me_X8_slotsTaken R 21 [.null, .int x1, .ref (sj_ad G sl)] σ [.int s0] := by
  unfold wp_X8_slotsTaken_21 at h
  refine sj_aload_n dX8_slotsTaken_21 (i := 2) rfl rfl ?_
  refine sj_iload_n dX8_slotsTaken_22 (i := 1) rfl rfl ?_
  obtain ⟨b1, h⟩ := h
  refine sj_iald (a := sl) (j := x1.toNatClampNeg) (x := (σ sl x1.toNatClampNeg)) dX8_slotsTaken_23 hsl.1 hsl.2.1 (by rw [hsl.2.2]; exact b1) rfl rfl ?_
  refine sj_ishl dX8_slotsTaken_24 ?_
  subst h
  exact sj_ret dX8_slotsTaken_25 rfl rfl
def wp_X8_slotsTaken_0 (G : sj_G) (R : sj_R) (sl : Nat) (x1 : Int32) (σ : sj_S) : Prop := vp_in (((nI 3) + (x1 * (nI 5))) + (nI 4)) 119 ∧ (wp_X8_slotsTaken_21 G R sl x1 (if (σ 2 (((nI 3) + (x1 * (nI 5))) + (nI 4)).toNatClampNeg) = (nI 1) then (nI 3) else (nI 1)) σ)
set_option maxRecDepth 20000 in
theorem t_X8_slotsTaken_0 {G : sj_G} {R : sj_R} {sl : Nat} {x1 : Int32} {σ : sj_S} (hsl : sj_lk sl = 13 ∧ sl < sj_NA ∧ sj_ln sl = 9) (h : wp_X8_slotsTaken_0 G R sl x1 σ) : sj_J G 2 me_X8_slotsTaken R 0 [.ref (sj_ad G 1), .int x1, .ref (sj_ad G sl)] σ [] := by
  unfold wp_X8_slotsTaken_0 at h
  refine sj_aload_n dX8_slotsTaken_0 (i := 0) rfl rfl ?_
  refine sj_get (a := 1) (k9 := 0) (v := .ref (sj_ad G 2)) dX8_slotsTaken_1 (by decide +kernel) rfl ?_
  refine sj_iconst (v := (nI 3)) dX8_slotsTaken_4 (by decide +kernel) ?_
  refine sj_iload_n dX8_slotsTaken_5 (i := 1) rfl rfl ?_
  refine sj_iconst (v := (nI 5)) dX8_slotsTaken_6 (by decide +kernel) ?_
  refine sj_imul dX8_slotsTaken_7 ?_
  refine sj_iadd dX8_slotsTaken_8 ?_
  refine sj_iconst (v := (nI 4)) dX8_slotsTaken_9 (by decide +kernel) ?_
  refine sj_iadd dX8_slotsTaken_10 ?_
  obtain ⟨b1, h⟩ := h
  refine sj_iald (a := 2) (j := (((nI 3) + (x1 * (nI 5))) + (nI 4)).toNatClampNeg) (x := (σ 2 (((nI 3) + (x1 * (nI 5))) + (nI 4)).toNatClampNeg)) dX8_slotsTaken_11 rfl (by decide +kernel) b1 rfl rfl ?_
  refine sj_iconst (v := (nI 1)) dX8_slotsTaken_12 (by decide +kernel) ?_
  refine sj_icmp_ne (tgt := 20) dX8_slotsTaken_13 (by decide) (fun c2 => ?_) (fun c2 => ?_)
  · refine sj_iconst (v := (nI 1)) dX8_slotsTaken_20 (by decide +kernel) ?_
    try simp only [if_neg c2] at h
    refine sj_fg [0] ?_
    exact t_X8_slotsTaken_21 hsl h
  · refine sj_iconst (v := (nI 3)) dX8_slotsTaken_16 (by decide +kernel) ?_
    refine sj_goto (tgt := 21) dX8_slotsTaken_17 (by decide) ?_
    try simp only [if_pos c2] at h
    refine sj_fg [0] ?_
    exact t_X8_slotsTaken_21 hsl h
theorem c_X8_slotsTaken {G : sj_G} (ok : sj_ok G) {R : sj_R} {sl : Nat} {x1 : Int32} {σ : sj_S} (hsl : sj_lk sl = 13 ∧ sl < sj_NA ∧ sj_ln sl = 9) (h : wp_X8_slotsTaken_0 G R sl x1 σ) : sj_C G 2 me_X8_slotsTaken [.ref (sj_ad G 1), .int x1, .ref (sj_ad G sl)] σ R :=
  sj_enter ok (by decide +kernel) rfl rfl (Nat.le_of_ble_eq_true rfl) (by simp [Value.category]) (t_X8_slotsTaken_0 hsl h)
def wp_X8_slotsOfPerson_38 (G : sj_G) (R : sj_R) (sl : Nat) (x1 : Int32) (x2 : Int32) (x4 : Int32) (x5 : Int32) (σ : sj_S) : Prop := sj_J G 3 me_X8_slotsOfPerson R 6 [.ref (sj_ad G 1), .int x1, .int x2, .ref (sj_ad G sl), .int x4, .int (x5 + (nI 1))] σ []
set_option maxRecDepth 20000 in
theorem t_X8_slotsOfPerson_38 {G : sj_G} {R : sj_R} {sl : Nat} {x1 : Int32} {x2 : Int32} {x4 : Int32} {x5 : Int32} {σ : sj_S} (hsl : sj_lk sl = 13 ∧ sl < sj_NA ∧ sj_ln sl = 9) (h : wp_X8_slotsOfPerson_38 G R sl x1 x2 x4 x5 σ) : sj_J G 3 me_X8_slotsOfPerson R 38 [.ref (sj_ad G 1), .int x1, .int x2, .ref (sj_ad G sl), .int x4, .int x5] σ [] := by
  unfold wp_X8_slotsOfPerson_38 at h
  refine sj_iinc (v := (x5 + (nI 1))) dX8_slotsOfPerson_38 (by decide) rfl rfl ?_
  refine sj_goto (tgt := 6) dX8_slotsOfPerson_41 (by decide) ?_
  exact h
def wp_X8_slotsOfPerson_6 (G : sj_G) (R : sj_R) (sl : Nat) (x1 : Int32) (x2 : Int32) (x4 : Int32) (x5 : Int32) (σ : sj_S) : Prop := ∃ v1 σ1, sj_C G 2 me_X8_lessonTotal [.ref (sj_ad G 1)] σ (.ok v1, σ1) ∧ (v1 ≤ x5 → R = (.ok x4, σ1)) ∧ (¬ (v1 ≤ x5) → ∃ v3 σ3, sj_C G 2 me_X8_isOf [.ref (sj_ad G 1), .int x5, .int x1, .int x2] σ1 (.ok v3, σ3) ∧ (v3 = 0 → (wp_X8_slotsOfPerson_38 G R sl x1 x2 x4 x5 σ3)) ∧ (¬ (v3 = 0) → ∃ v6 σ6, sj_C G 2 me_X8_slotsTaken [.ref (sj_ad G 1), .int x5, .ref (sj_ad G sl)] σ3 (.ok v6, σ6) ∧ (wp_X8_slotsOfPerson_38 G R sl x1 x2 (x4 ||| v6) x5 σ6)))
set_option maxRecDepth 20000 in
theorem t_X8_slotsOfPerson_6 {G : sj_G} {R : sj_R} {sl : Nat} {x1 : Int32} {x2 : Int32} {x4 : Int32} {x5 : Int32} {σ : sj_S} (hsl : sj_lk sl = 13 ∧ sl < sj_NA ∧ sj_ln sl = 9) (h : wp_X8_slotsOfPerson_6 G R sl x1 x2 x4 x5 σ) : sj_J G 3 me_X8_slotsOfPerson R 6 [.ref (sj_ad G 1), .int x1, .int x2, .ref (sj_ad G sl), .int x4, .int x5] σ [] := by
  unfold wp_X8_slotsOfPerson_6 at h
  refine sj_iload dX8_slotsOfPerson_6 rfl ?_
  refine sj_aload_n dX8_slotsOfPerson_8 (i := 0) rfl rfl ?_
  obtain ⟨v1, σ1, hc1, h⟩ := h
  refine sj_callVi (M' := me_X8_lessonTotal) (b := 1) (As := []) (rest := [.int x5]) dX8_slotsOfPerson_9 gX8_slotsOfPerson_X8_lessonTotal rfl hd_X8_lessonTotal (by decide +kernel) (by decide +kernel) rfl (Nat.le_of_ble_eq_true rfl) (by omega) rfl hc1 ?_
  refine sj_icmp_ge (tgt := 44) dX8_slotsOfPerson_12 (by decide) (fun c2 => ?_) (fun c2 => ?_)
  · replace h := h.1 c2
    refine sj_iload dX8_slotsOfPerson_44 rfl ?_
    subst h
    exact sj_ret dX8_slotsOfPerson_46 rfl rfl
  · replace h := h.2 c2
    refine sj_aload_n dX8_slotsOfPerson_15 (i := 0) rfl rfl ?_
    refine sj_iload dX8_slotsOfPerson_16 rfl ?_
    refine sj_iload_n dX8_slotsOfPerson_18 (i := 1) rfl rfl ?_
    refine sj_iload_n dX8_slotsOfPerson_19 (i := 2) rfl rfl ?_
    obtain ⟨v3, σ3, hc3, h⟩ := h
    refine sj_callVi (M' := me_X8_isOf) (b := 1) (As := [.int x5, .int x1, .int x2]) (rest := []) dX8_slotsOfPerson_20 gX8_slotsOfPerson_X8_isOf rfl hd_X8_isOf (by decide +kernel) (by decide +kernel) rfl (Nat.le_of_ble_eq_true rfl) (by omega) rfl hc3 ?_
    refine sj_if_eq (tgt := 38) dX8_slotsOfPerson_23 (by decide) (fun c5 => ?_) (fun c5 => ?_)
    · replace h := h.1 c5
      exact t_X8_slotsOfPerson_38 hsl h
    · replace h := h.2 c5
      refine sj_iload dX8_slotsOfPerson_26 rfl ?_
      refine sj_aload_n dX8_slotsOfPerson_28 (i := 0) rfl rfl ?_
      refine sj_iload dX8_slotsOfPerson_29 rfl ?_
      refine sj_aload_n dX8_slotsOfPerson_31 (i := 3) rfl rfl ?_
      obtain ⟨v6, σ6, hc6, h⟩ := h
      refine sj_callVi (M' := me_X8_slotsTaken) (b := 1) (As := [.int x5, .ref (sj_ad G sl)]) (rest := [.int x4]) dX8_slotsOfPerson_32 gX8_slotsOfPerson_X8_slotsTaken rfl hd_X8_slotsTaken (by decide +kernel) (by decide +kernel) rfl (Nat.le_of_ble_eq_true rfl) (by omega) rfl hc6 ?_
      refine sj_ior dX8_slotsOfPerson_35 ?_
      refine sj_istore dX8_slotsOfPerson_36 (by decide) ?_
      exact t_X8_slotsOfPerson_38 hsl h
def wp_X8_slotsOfPerson_0 (G : sj_G) (R : sj_R) (sl : Nat) (x1 : Int32) (x2 : Int32) (σ : sj_S) : Prop := sj_J G 3 me_X8_slotsOfPerson R 6 [.ref (sj_ad G 1), .int x1, .int x2, .ref (sj_ad G sl), .int (nI 0), .int (nI 0)] σ []
set_option maxRecDepth 20000 in
theorem t_X8_slotsOfPerson_0 {G : sj_G} {R : sj_R} {sl : Nat} {x1 : Int32} {x2 : Int32} {σ : sj_S} (hsl : sj_lk sl = 13 ∧ sl < sj_NA ∧ sj_ln sl = 9) (h : wp_X8_slotsOfPerson_0 G R sl x1 x2 σ) : sj_J G 3 me_X8_slotsOfPerson R 0 [.ref (sj_ad G 1), .int x1, .int x2, .ref (sj_ad G sl), .null, .null] σ [] := by
  unfold wp_X8_slotsOfPerson_0 at h
  refine sj_iconst (v := (nI 0)) dX8_slotsOfPerson_0 (by decide +kernel) ?_
  refine sj_istore dX8_slotsOfPerson_1 (by decide) ?_
  refine sj_iconst (v := (nI 0)) dX8_slotsOfPerson_3 (by decide +kernel) ?_
  refine sj_istore dX8_slotsOfPerson_4 (by decide) ?_
  exact h
theorem c_X8_slotsOfPerson {G : sj_G} (ok : sj_ok G) {R : sj_R} {sl : Nat} {x1 : Int32} {x2 : Int32} {σ : sj_S} (hsl : sj_lk sl = 13 ∧ sl < sj_NA ∧ sj_ln sl = 9) (h : wp_X8_slotsOfPerson_0 G R sl x1 x2 σ) : sj_C G 3 me_X8_slotsOfPerson [.ref (sj_ad G 1), .int x1, .int x2, .ref (sj_ad G sl)] σ R :=
  sj_enter ok (by decide +kernel) rfl rfl (Nat.le_of_ble_eq_true rfl) (by simp [Value.category]) (t_X8_slotsOfPerson_0 hsl h)
def wp_X8_fulfils_80 (G : sj_G) (R : sj_R) (sl : Nat) (s0 : Int32) (σ : sj_S) : Prop := R = (.ok s0, σ) ∧ (s0 = nI 0 ∨ s0 = nI 1)
set_option maxRecDepth 20000 in
theorem t_X8_fulfils_80 {G : sj_G} {R : sj_R} {sl : Nat} {s0 : Int32} {σ : sj_S} (hsl : sj_lk sl = 13 ∧ sl < sj_NA ∧ sj_ln sl = 9) (h : wp_X8_fulfils_80 G R sl s0 σ) : sj_J G 4 me_X8_fulfils R 80 [.null, .null, .null, .null, .null] σ [.int s0] := by
  unfold wp_X8_fulfils_80 at h
  obtain ⟨h, hz⟩ := h
  subst h
  exact sj_ret dX8_fulfils_80 rfl (sj_nb hz)
def wp_X8_fulfils_101 (G : sj_G) (R : sj_R) (sl : Nat) (s0 : Int32) (σ : sj_S) : Prop := R = (.ok s0, σ) ∧ (s0 = nI 0 ∨ s0 = nI 1)
set_option maxRecDepth 20000 in
theorem t_X8_fulfils_101 {G : sj_G} {R : sj_R} {sl : Nat} {s0 : Int32} {σ : sj_S} (hsl : sj_lk sl = 13 ∧ sl < sj_NA ∧ sj_ln sl = 9) (h : wp_X8_fulfils_101 G R sl s0 σ) : sj_J G 4 me_X8_fulfils R 101 [.null, .null, .null, .null, .null] σ [.int s0] := by
  unfold wp_X8_fulfils_101 at h
  obtain ⟨h, hz⟩ := h
  subst h
  exact sj_ret dX8_fulfils_101 rfl (sj_nb hz)
def wp_X8_fulfils_117 (G : sj_G) (R : sj_R) (sl : Nat) (s0 : Int32) (σ : sj_S) : Prop := R = (.ok s0, σ) ∧ (s0 = nI 0 ∨ s0 = nI 1)
set_option maxRecDepth 20000 in
theorem t_X8_fulfils_117 {G : sj_G} {R : sj_R} {sl : Nat} {s0 : Int32} {σ : sj_S} (hsl : sj_lk sl = 13 ∧ sl < sj_NA ∧ sj_ln sl = 9) (h : wp_X8_fulfils_117 G R sl s0 σ) : sj_J G 4 me_X8_fulfils R 117 [.null, .null, .null, .null, .null] σ [.int s0] := by
  unfold wp_X8_fulfils_117 at h
  obtain ⟨h, hz⟩ := h
  subst h
  exact sj_ret dX8_fulfils_117 rfl (sj_nb hz)
def wp_X8_fulfils_131 (G : sj_G) (R : sj_R) (sl : Nat) (s0 : Int32) (σ : sj_S) : Prop := R = (.ok s0, σ) ∧ (s0 = nI 0 ∨ s0 = nI 1)
set_option maxRecDepth 20000 in
theorem t_X8_fulfils_131 {G : sj_G} {R : sj_R} {sl : Nat} {s0 : Int32} {σ : sj_S} (hsl : sj_lk sl = 13 ∧ sl < sj_NA ∧ sj_ln sl = 9) (h : wp_X8_fulfils_131 G R sl s0 σ) : sj_J G 4 me_X8_fulfils R 131 [.null, .null, .null, .null, .null] σ [.int s0] := by
  unfold wp_X8_fulfils_131 at h
  obtain ⟨h, hz⟩ := h
  subst h
  exact sj_ret dX8_fulfils_131 rfl (sj_nb hz)
def wp_X8_fulfils_151 (G : sj_G) (R : sj_R) (sl : Nat) (s0 : Int32) (σ : sj_S) : Prop := R = (.ok s0, σ) ∧ (s0 = nI 0 ∨ s0 = nI 1)
set_option maxRecDepth 20000 in
theorem t_X8_fulfils_151 {G : sj_G} {R : sj_R} {sl : Nat} {s0 : Int32} {σ : sj_S} (hsl : sj_lk sl = 13 ∧ sl < sj_NA ∧ sj_ln sl = 9) (h : wp_X8_fulfils_151 G R sl s0 σ) : sj_J G 4 me_X8_fulfils R 151 [.null, .null, .null, .null, .null] σ [.int s0] := by
  unfold wp_X8_fulfils_151 at h
  obtain ⟨h, hz⟩ := h
  subst h
  exact sj_ret dX8_fulfils_151 rfl (sj_nb hz)
def wp_X8_fulfils_171 (G : sj_G) (R : sj_R) (sl : Nat) (s0 : Int32) (σ : sj_S) : Prop := R = (.ok s0, σ) ∧ (s0 = nI 0 ∨ s0 = nI 1)
set_option maxRecDepth 20000 in
theorem t_X8_fulfils_171 {G : sj_G} {R : sj_R} {sl : Nat} {s0 : Int32} {σ : sj_S} (hsl : sj_lk sl = 13 ∧ sl < sj_NA ∧ sj_ln sl = 9) (h : wp_X8_fulfils_171 G R sl s0 σ) : sj_J G 4 me_X8_fulfils R 171 [.null, .null, .null, .null, .null] σ [.int s0] := by
  unfold wp_X8_fulfils_171 at h
  obtain ⟨h, hz⟩ := h
  subst h
  exact sj_ret dX8_fulfils_171 rfl (sj_nb hz)
def wp_X8_fulfils_187 (G : sj_G) (R : sj_R) (sl : Nat) (s0 : Int32) (σ : sj_S) : Prop := R = (.ok s0, σ) ∧ (s0 = nI 0 ∨ s0 = nI 1)
set_option maxRecDepth 20000 in
theorem t_X8_fulfils_187 {G : sj_G} {R : sj_R} {sl : Nat} {s0 : Int32} {σ : sj_S} (hsl : sj_lk sl = 13 ∧ sl < sj_NA ∧ sj_ln sl = 9) (h : wp_X8_fulfils_187 G R sl s0 σ) : sj_J G 4 me_X8_fulfils R 187 [.null, .null, .null, .null, .null] σ [.int s0] := by
  unfold wp_X8_fulfils_187 at h
  obtain ⟨h, hz⟩ := h
  subst h
  exact sj_ret dX8_fulfils_187 rfl (sj_nb hz)
def wp_X8_fulfils_0 (G : sj_G) (R : sj_R) (sl : Nat) (x1 : Int32) (σ : sj_S) : Prop := ∃ v1 σ1, sj_C G 2 me_X8_ofWish [.ref (sj_ad G 1), .int x1, .int (nI 1)] σ (.ok v1, σ1) ∧ ∃ v2 σ2, sj_C G 2 me_X8_ofWish [.ref (sj_ad G 1), .int x1, .int (nI 2)] σ1 (.ok v2, σ2) ∧ ∃ v3 σ3, sj_C G 2 me_X8_ofWish [.ref (sj_ad G 1), .int x1, .int (nI 0)] σ2 (.ok v3, σ3) ∧ (v3 = nI 0 → ∃ v4 σ4, sj_C G 3 me_X8_slotsOfPerson [.ref (sj_ad G 1), .int (nI 1), .int v1, .ref (sj_ad G sl)] σ3 (.ok v4, σ4) ∧ (wp_X8_fulfils_80 G R sl (if ((v4 >>> (v2 &&& 31)) &&& (nI 1)) = 0 then (nI 1) else (nI 0)) σ4)) ∧ (v3 = nI 1 → ∃ v6 σ6, sj_C G 3 me_X8_slotsOfPerson [.ref (sj_ad G 1), .int (nI 0), .int v1, .ref (sj_ad G sl)] σ3 (.ok v6, σ6) ∧ (wp_X8_fulfils_101 G R sl (if ((v6 >>> (v2 &&& 31)) &&& (nI 1)) = 0 then (nI 1) else (nI 0)) σ6)) ∧ (v3 = nI 2 → vp_in v1 9 ∧ (wp_X8_fulfils_117 G R sl (if ((σ3 sl v1.toNatClampNeg) / (nI 4)) = v2 then (nI 0) else (nI 1)) σ3)) ∧ (v3 = nI 3 → vp_in v1 9 ∧ (wp_X8_fulfils_131 G R sl (if (σ3 sl v1.toNatClampNeg) = v2 then (nI 1) else (nI 0)) σ3)) ∧ (v3 = nI 4 → vp_in v1 9 ∧ vp_in v2 9 ∧ (wp_X8_fulfils_151 G R sl (if ((σ3 sl v1.toNatClampNeg) / (nI 4)) = ((σ3 sl v2.toNatClampNeg) / (nI 4)) then (nI 1) else (nI 0)) σ3)) ∧ (v3 = nI 5 → vp_in v1 9 ∧ vp_in v2 9 ∧ (wp_X8_fulfils_171 G R sl (if ((σ3 sl v1.toNatClampNeg) / (nI 4)) = ((σ3 sl v2.toNatClampNeg) / (nI 4)) then (nI 0) else (nI 1)) σ3)) ∧ (¬ v3 = nI 0 → ¬ v3 = nI 1 → ¬ v3 = nI 2 → ¬ v3 = nI 3 → ¬ v3 = nI 4 → ¬ v3 = nI 5 → vp_in v1 9 ∧ vp_in v2 9 ∧ (wp_X8_fulfils_187 G R sl (if (σ3 sl v2.toNatClampNeg) ≤ (σ3 sl v1.toNatClampNeg) then (nI 0) else (nI 1)) σ3))
set_option maxRecDepth 20000 in
theorem t_X8_fulfils_0 {G : sj_G} {R : sj_R} {sl : Nat} {x1 : Int32} {σ : sj_S} (hsl : sj_lk sl = 13 ∧ sl < sj_NA ∧ sj_ln sl = 9) (h : wp_X8_fulfils_0 G R sl x1 σ) : sj_J G 4 me_X8_fulfils R 0 [.ref (sj_ad G 1), .int x1, .ref (sj_ad G sl), .null, .null] σ [] := by
  unfold wp_X8_fulfils_0 at h
  refine sj_aload_n dX8_fulfils_0 (i := 0) rfl rfl ?_
  refine sj_iload_n dX8_fulfils_1 (i := 1) rfl rfl ?_
  refine sj_iconst (v := (nI 1)) dX8_fulfils_2 (by decide +kernel) ?_
  obtain ⟨v1, σ1, hc1, h⟩ := h
  refine sj_callVi (M' := me_X8_ofWish) (b := 1) (As := [.int x1, .int (nI 1)]) (rest := []) dX8_fulfils_3 gX8_fulfils_X8_ofWish rfl hd_X8_ofWish (by decide +kernel) (by decide +kernel) rfl (Nat.le_of_ble_eq_true rfl) (by omega) rfl hc1 ?_
  refine sj_istore_n dX8_fulfils_6 (i := 3) rfl (by decide) ?_
  refine sj_aload_n dX8_fulfils_7 (i := 0) rfl rfl ?_
  refine sj_iload_n dX8_fulfils_8 (i := 1) rfl rfl ?_
  refine sj_iconst (v := (nI 2)) dX8_fulfils_9 (by decide +kernel) ?_
  obtain ⟨v2, σ2, hc2, h⟩ := h
  refine sj_callVi (M' := me_X8_ofWish) (b := 1) (As := [.int x1, .int (nI 2)]) (rest := []) dX8_fulfils_10 gX8_fulfils_X8_ofWish rfl hd_X8_ofWish (by decide +kernel) (by decide +kernel) rfl (Nat.le_of_ble_eq_true rfl) (by omega) rfl hc2 ?_
  refine sj_istore dX8_fulfils_13 (by decide) ?_
  refine sj_aload_n dX8_fulfils_15 (i := 0) rfl rfl ?_
  refine sj_iload_n dX8_fulfils_16 (i := 1) rfl rfl ?_
  refine sj_iconst (v := (nI 0)) dX8_fulfils_17 (by decide +kernel) ?_
  obtain ⟨v3, σ3, hc3, h⟩ := h
  refine sj_callVi (M' := me_X8_ofWish) (b := 1) (As := [.int x1, .int (nI 0)]) (rest := []) dX8_fulfils_18 gX8_fulfils_X8_ofWish rfl hd_X8_ofWish (by decide +kernel) (by decide +kernel) rfl (Nat.le_of_ble_eq_true rfl) (by omega) rfl hc3 ?_
  by_cases e21_0 : v3 = nI 0
  · replace h := h.1 e21_0
    refine sj_tableIn (tgt := 60) dX8_fulfils_21 (by rw [e21_0]; decide +kernel) (by rw [e21_0]; decide +kernel) (by rw [e21_0]; rfl) (by decide) ?_
    refine sj_aload_n dX8_fulfils_60 (i := 0) rfl rfl ?_
    refine sj_iconst (v := (nI 1)) dX8_fulfils_61 (by decide +kernel) ?_
    refine sj_iload_n dX8_fulfils_62 (i := 3) rfl rfl ?_
    refine sj_aload_n dX8_fulfils_63 (i := 2) rfl rfl ?_
    obtain ⟨v4, σ4, hc4, h⟩ := h
    refine sj_callVi (M' := me_X8_slotsOfPerson) (b := 1) (As := [.int (nI 1), .int v1, .ref (sj_ad G sl)]) (rest := []) dX8_fulfils_64 gX8_fulfils_X8_slotsOfPerson rfl hd_X8_slotsOfPerson (by decide +kernel) (by decide +kernel) rfl (Nat.le_of_ble_eq_true rfl) (by omega) rfl hc4 ?_
    refine sj_iload dX8_fulfils_67 rfl ?_
    refine sj_ishr dX8_fulfils_69 ?_
    refine sj_iconst (v := (nI 1)) dX8_fulfils_70 (by decide +kernel) ?_
    refine sj_iand dX8_fulfils_71 ?_
    refine sj_if_ne (tgt := 79) dX8_fulfils_72 (by decide) (fun c5 => ?_) (fun c5 => ?_)
    · refine sj_iconst (v := (nI 0)) dX8_fulfils_79 (by decide +kernel) ?_
      try simp only [if_neg c5] at h
      refine sj_fg [0, 1, 2, 3, 4] ?_
      exact t_X8_fulfils_80 hsl h
    · refine sj_iconst (v := (nI 1)) dX8_fulfils_75 (by decide +kernel) ?_
      refine sj_goto (tgt := 80) dX8_fulfils_76 (by decide) ?_
      try simp only [if_pos c5] at h
      refine sj_fg [0, 1, 2, 3, 4] ?_
      exact t_X8_fulfils_80 hsl h
  by_cases e21_1 : v3 = nI 1
  · replace h := h.2.1 e21_1
    refine sj_tableIn (tgt := 81) dX8_fulfils_21 (by rw [e21_1]; decide +kernel) (by rw [e21_1]; decide +kernel) (by rw [e21_1]; rfl) (by decide) ?_
    refine sj_aload_n dX8_fulfils_81 (i := 0) rfl rfl ?_
    refine sj_iconst (v := (nI 0)) dX8_fulfils_82 (by decide +kernel) ?_
    refine sj_iload_n dX8_fulfils_83 (i := 3) rfl rfl ?_
    refine sj_aload_n dX8_fulfils_84 (i := 2) rfl rfl ?_
    obtain ⟨v6, σ6, hc6, h⟩ := h
    refine sj_callVi (M' := me_X8_slotsOfPerson) (b := 1) (As := [.int (nI 0), .int v1, .ref (sj_ad G sl)]) (rest := []) dX8_fulfils_85 gX8_fulfils_X8_slotsOfPerson rfl hd_X8_slotsOfPerson (by decide +kernel) (by decide +kernel) rfl (Nat.le_of_ble_eq_true rfl) (by omega) rfl hc6 ?_
    refine sj_iload dX8_fulfils_88 rfl ?_
    refine sj_ishr dX8_fulfils_90 ?_
    refine sj_iconst (v := (nI 1)) dX8_fulfils_91 (by decide +kernel) ?_
    refine sj_iand dX8_fulfils_92 ?_
    refine sj_if_ne (tgt := 100) dX8_fulfils_93 (by decide) (fun c7 => ?_) (fun c7 => ?_)
    · refine sj_iconst (v := (nI 0)) dX8_fulfils_100 (by decide +kernel) ?_
      try simp only [if_neg c7] at h
      refine sj_fg [0, 1, 2, 3, 4] ?_
      exact t_X8_fulfils_101 hsl h
    · refine sj_iconst (v := (nI 1)) dX8_fulfils_96 (by decide +kernel) ?_
      refine sj_goto (tgt := 101) dX8_fulfils_97 (by decide) ?_
      try simp only [if_pos c7] at h
      refine sj_fg [0, 1, 2, 3, 4] ?_
      exact t_X8_fulfils_101 hsl h
  by_cases e21_2 : v3 = nI 2
  · replace h := h.2.2.1 e21_2
    refine sj_tableIn (tgt := 102) dX8_fulfils_21 (by rw [e21_2]; decide +kernel) (by rw [e21_2]; decide +kernel) (by rw [e21_2]; rfl) (by decide) ?_
    refine sj_aload_n dX8_fulfils_102 (i := 2) rfl rfl ?_
    refine sj_iload_n dX8_fulfils_103 (i := 3) rfl rfl ?_
    obtain ⟨b8, h⟩ := h
    refine sj_iald (a := sl) (j := v1.toNatClampNeg) (x := (σ3 sl v1.toNatClampNeg)) dX8_fulfils_104 hsl.1 hsl.2.1 (by rw [hsl.2.2]; exact b8) rfl rfl ?_
    refine sj_iconst (v := (nI 4)) dX8_fulfils_105 (by decide +kernel) ?_
    refine sj_idiv dX8_fulfils_106 (by decide +kernel) ?_
    refine sj_iload dX8_fulfils_107 rfl ?_
    refine sj_icmp_eq (tgt := 116) dX8_fulfils_109 (by decide) (fun c9 => ?_) (fun c9 => ?_)
    · refine sj_iconst (v := (nI 0)) dX8_fulfils_116 (by decide +kernel) ?_
      try simp only [if_pos c9] at h
      refine sj_fg [0, 1, 2, 3, 4] ?_
      exact t_X8_fulfils_117 hsl h
    · refine sj_iconst (v := (nI 1)) dX8_fulfils_112 (by decide +kernel) ?_
      refine sj_goto (tgt := 117) dX8_fulfils_113 (by decide) ?_
      try simp only [if_neg c9] at h
      refine sj_fg [0, 1, 2, 3, 4] ?_
      exact t_X8_fulfils_117 hsl h
  by_cases e21_3 : v3 = nI 3
  · replace h := h.2.2.2.1 e21_3
    refine sj_tableIn (tgt := 118) dX8_fulfils_21 (by rw [e21_3]; decide +kernel) (by rw [e21_3]; decide +kernel) (by rw [e21_3]; rfl) (by decide) ?_
    refine sj_aload_n dX8_fulfils_118 (i := 2) rfl rfl ?_
    refine sj_iload_n dX8_fulfils_119 (i := 3) rfl rfl ?_
    obtain ⟨b10, h⟩ := h
    refine sj_iald (a := sl) (j := v1.toNatClampNeg) (x := (σ3 sl v1.toNatClampNeg)) dX8_fulfils_120 hsl.1 hsl.2.1 (by rw [hsl.2.2]; exact b10) rfl rfl ?_
    refine sj_iload dX8_fulfils_121 rfl ?_
    refine sj_icmp_ne (tgt := 130) dX8_fulfils_123 (by decide) (fun c11 => ?_) (fun c11 => ?_)
    · refine sj_iconst (v := (nI 0)) dX8_fulfils_130 (by decide +kernel) ?_
      try simp only [if_neg c11] at h
      refine sj_fg [0, 1, 2, 3, 4] ?_
      exact t_X8_fulfils_131 hsl h
    · refine sj_iconst (v := (nI 1)) dX8_fulfils_126 (by decide +kernel) ?_
      refine sj_goto (tgt := 131) dX8_fulfils_127 (by decide) ?_
      try simp only [if_pos c11] at h
      refine sj_fg [0, 1, 2, 3, 4] ?_
      exact t_X8_fulfils_131 hsl h
  by_cases e21_4 : v3 = nI 4
  · replace h := h.2.2.2.2.1 e21_4
    refine sj_tableIn (tgt := 132) dX8_fulfils_21 (by rw [e21_4]; decide +kernel) (by rw [e21_4]; decide +kernel) (by rw [e21_4]; rfl) (by decide) ?_
    refine sj_aload_n dX8_fulfils_132 (i := 2) rfl rfl ?_
    refine sj_iload_n dX8_fulfils_133 (i := 3) rfl rfl ?_
    obtain ⟨b12, h⟩ := h
    refine sj_iald (a := sl) (j := v1.toNatClampNeg) (x := (σ3 sl v1.toNatClampNeg)) dX8_fulfils_134 hsl.1 hsl.2.1 (by rw [hsl.2.2]; exact b12) rfl rfl ?_
    refine sj_iconst (v := (nI 4)) dX8_fulfils_135 (by decide +kernel) ?_
    refine sj_idiv dX8_fulfils_136 (by decide +kernel) ?_
    refine sj_aload_n dX8_fulfils_137 (i := 2) rfl rfl ?_
    refine sj_iload dX8_fulfils_138 rfl ?_
    obtain ⟨b13, h⟩ := h
    refine sj_iald (a := sl) (j := v2.toNatClampNeg) (x := (σ3 sl v2.toNatClampNeg)) dX8_fulfils_140 hsl.1 hsl.2.1 (by rw [hsl.2.2]; exact b13) rfl rfl ?_
    refine sj_iconst (v := (nI 4)) dX8_fulfils_141 (by decide +kernel) ?_
    refine sj_idiv dX8_fulfils_142 (by decide +kernel) ?_
    refine sj_icmp_ne (tgt := 150) dX8_fulfils_143 (by decide) (fun c14 => ?_) (fun c14 => ?_)
    · refine sj_iconst (v := (nI 0)) dX8_fulfils_150 (by decide +kernel) ?_
      try simp only [if_neg c14] at h
      refine sj_fg [0, 1, 2, 3, 4] ?_
      exact t_X8_fulfils_151 hsl h
    · refine sj_iconst (v := (nI 1)) dX8_fulfils_146 (by decide +kernel) ?_
      refine sj_goto (tgt := 151) dX8_fulfils_147 (by decide) ?_
      try simp only [if_pos c14] at h
      refine sj_fg [0, 1, 2, 3, 4] ?_
      exact t_X8_fulfils_151 hsl h
  by_cases e21_5 : v3 = nI 5
  · replace h := h.2.2.2.2.2.1 e21_5
    refine sj_tableIn (tgt := 152) dX8_fulfils_21 (by rw [e21_5]; decide +kernel) (by rw [e21_5]; decide +kernel) (by rw [e21_5]; rfl) (by decide) ?_
    refine sj_aload_n dX8_fulfils_152 (i := 2) rfl rfl ?_
    refine sj_iload_n dX8_fulfils_153 (i := 3) rfl rfl ?_
    obtain ⟨b15, h⟩ := h
    refine sj_iald (a := sl) (j := v1.toNatClampNeg) (x := (σ3 sl v1.toNatClampNeg)) dX8_fulfils_154 hsl.1 hsl.2.1 (by rw [hsl.2.2]; exact b15) rfl rfl ?_
    refine sj_iconst (v := (nI 4)) dX8_fulfils_155 (by decide +kernel) ?_
    refine sj_idiv dX8_fulfils_156 (by decide +kernel) ?_
    refine sj_aload_n dX8_fulfils_157 (i := 2) rfl rfl ?_
    refine sj_iload dX8_fulfils_158 rfl ?_
    obtain ⟨b16, h⟩ := h
    refine sj_iald (a := sl) (j := v2.toNatClampNeg) (x := (σ3 sl v2.toNatClampNeg)) dX8_fulfils_160 hsl.1 hsl.2.1 (by rw [hsl.2.2]; exact b16) rfl rfl ?_
    refine sj_iconst (v := (nI 4)) dX8_fulfils_161 (by decide +kernel) ?_
    refine sj_idiv dX8_fulfils_162 (by decide +kernel) ?_
    refine sj_icmp_eq (tgt := 170) dX8_fulfils_163 (by decide) (fun c17 => ?_) (fun c17 => ?_)
    · refine sj_iconst (v := (nI 0)) dX8_fulfils_170 (by decide +kernel) ?_
      try simp only [if_pos c17] at h
      refine sj_fg [0, 1, 2, 3, 4] ?_
      exact t_X8_fulfils_171 hsl h
    · refine sj_iconst (v := (nI 1)) dX8_fulfils_166 (by decide +kernel) ?_
      refine sj_goto (tgt := 171) dX8_fulfils_167 (by decide) ?_
      try simp only [if_neg c17] at h
      refine sj_fg [0, 1, 2, 3, 4] ?_
      exact t_X8_fulfils_171 hsl h
  replace h := h.2.2.2.2.2.2 e21_0 e21_1 e21_2 e21_3 e21_4 e21_5
  refine sj_tableOut (tgt := 172) dX8_fulfils_21 (sj_sw 6 (by decide) (fun k hk => by rcases (by omega : k = 0 ∨ k = 1 ∨ k = 2 ∨ k = 3 ∨ k = 4 ∨ k = 5) with e9 | e9 | e9 | e9 | e9 | e9 <;> subst e9 <;> assumption)) (by decide) ?_
  refine sj_aload_n dX8_fulfils_172 (i := 2) rfl rfl ?_
  refine sj_iload_n dX8_fulfils_173 (i := 3) rfl rfl ?_
  obtain ⟨b18, h⟩ := h
  refine sj_iald (a := sl) (j := v1.toNatClampNeg) (x := (σ3 sl v1.toNatClampNeg)) dX8_fulfils_174 hsl.1 hsl.2.1 (by rw [hsl.2.2]; exact b18) rfl rfl ?_
  refine sj_aload_n dX8_fulfils_175 (i := 2) rfl rfl ?_
  refine sj_iload dX8_fulfils_176 rfl ?_
  obtain ⟨b19, h⟩ := h
  refine sj_iald (a := sl) (j := v2.toNatClampNeg) (x := (σ3 sl v2.toNatClampNeg)) dX8_fulfils_178 hsl.1 hsl.2.1 (by rw [hsl.2.2]; exact b19) rfl rfl ?_
  refine sj_icmp_ge (tgt := 186) dX8_fulfils_179 (by decide) (fun c20 => ?_) (fun c20 => ?_)
  · refine sj_iconst (v := (nI 0)) dX8_fulfils_186 (by decide +kernel) ?_
    try simp only [if_pos c20] at h
    refine sj_fg [0, 1, 2, 3, 4] ?_
    exact t_X8_fulfils_187 hsl h
  · refine sj_iconst (v := (nI 1)) dX8_fulfils_182 (by decide +kernel) ?_
    refine sj_goto (tgt := 187) dX8_fulfils_183 (by decide) ?_
    try simp only [if_neg c20] at h
    refine sj_fg [0, 1, 2, 3, 4] ?_
    exact t_X8_fulfils_187 hsl h
theorem c_X8_fulfils {G : sj_G} (ok : sj_ok G) {R : sj_R} {sl : Nat} {x1 : Int32} {σ : sj_S} (hsl : sj_lk sl = 13 ∧ sl < sj_NA ∧ sj_ln sl = 9) (h : wp_X8_fulfils_0 G R sl x1 σ) : sj_C G 4 me_X8_fulfils [.ref (sj_ad G 1), .int x1, .ref (sj_ad G sl)] σ R :=
  sj_enter ok (by decide +kernel) rfl rfl (Nat.le_of_ble_eq_true rfl) (by simp [Value.category]) (t_X8_fulfils_0 hsl h)
def wp_X8_tableIsAheadOf_39 (G : sj_G) (R : sj_R) (sl : Nat) (s0 : Int32) (σ : sj_S) : Prop := R = (.ok s0, σ) ∧ (s0 = nI 0 ∨ s0 = nI 1)
set_option maxRecDepth 20000 in
theorem t_X8_tableIsAheadOf_39 {G : sj_G} {R : sj_R} {sl : Nat} {s0 : Int32} {σ : sj_S} (hsl : sj_lk sl = 13 ∧ sl < sj_NA ∧ sj_ln sl = 9) (h : wp_X8_tableIsAheadOf_39 G R sl s0 σ) : sj_J G 3 me_X8_tableIsAheadOf R 39 [.null, .null, .null] σ [.int s0] := by
  unfold wp_X8_tableIsAheadOf_39 at h
  obtain ⟨h, hz⟩ := h
  subst h
  exact sj_ret dX8_tableIsAheadOf_39 rfl (sj_nb hz)
def wp_X8_tableIsAheadOf_2 (G : sj_G) (R : sj_R) (sl : Nat) (x2 : Int32) (σ : sj_S) : Prop := ∃ v1 σ1, sj_C G 2 me_X8_lessonTotal [.ref (sj_ad G 1)] σ (.ok v1, σ1) ∧ (v1 ≤ x2 → R = (.ok (nI 0), σ1)) ∧ (¬ (v1 ≤ x2) → vp_in x2 9 ∧ vp_in x2 9 ∧ ((σ1 3 x2.toNatClampNeg) = (σ1 sl x2.toNatClampNeg) → sj_J G 3 me_X8_tableIsAheadOf R 2 [.ref (sj_ad G 1), .ref (sj_ad G sl), .int (x2 + (nI 1))] σ1 []) ∧ (¬ ((σ1 3 x2.toNatClampNeg) = (σ1 sl x2.toNatClampNeg)) → vp_in x2 9 ∧ vp_in x2 9 ∧ (wp_X8_tableIsAheadOf_39 G R sl (if (σ1 sl x2.toNatClampNeg) ≤ (σ1 3 x2.toNatClampNeg) then (nI 0) else (nI 1)) σ1)))
set_option maxRecDepth 20000 in
theorem t_X8_tableIsAheadOf_2 {G : sj_G} {R : sj_R} {sl : Nat} {x2 : Int32} {σ : sj_S} (hsl : sj_lk sl = 13 ∧ sl < sj_NA ∧ sj_ln sl = 9) (h : wp_X8_tableIsAheadOf_2 G R sl x2 σ) : sj_J G 3 me_X8_tableIsAheadOf R 2 [.ref (sj_ad G 1), .ref (sj_ad G sl), .int x2] σ [] := by
  unfold wp_X8_tableIsAheadOf_2 at h
  refine sj_iload_n dX8_tableIsAheadOf_2 (i := 2) rfl rfl ?_
  refine sj_aload_n dX8_tableIsAheadOf_3 (i := 0) rfl rfl ?_
  obtain ⟨v1, σ1, hc1, h⟩ := h
  refine sj_callVi (M' := me_X8_lessonTotal) (b := 1) (As := []) (rest := [.int x2]) dX8_tableIsAheadOf_4 gX8_tableIsAheadOf_X8_lessonTotal rfl hd_X8_lessonTotal (by decide +kernel) (by decide +kernel) rfl (Nat.le_of_ble_eq_true rfl) (by omega) rfl hc1 ?_
  refine sj_icmp_ge (tgt := 46) dX8_tableIsAheadOf_7 (by decide) (fun c2 => ?_) (fun c2 => ?_)
  · replace h := h.1 c2
    refine sj_iconst (v := (nI 0)) dX8_tableIsAheadOf_46 (by decide +kernel) ?_
    subst h
    exact sj_ret dX8_tableIsAheadOf_47 rfl rfl
  · replace h := h.2 c2
    refine sj_aload_n dX8_tableIsAheadOf_10 (i := 0) rfl rfl ?_
    refine sj_get (a := 1) (k9 := 1) (v := .ref (sj_ad G 3)) dX8_tableIsAheadOf_11 (by decide +kernel) rfl ?_
    refine sj_iload_n dX8_tableIsAheadOf_14 (i := 2) rfl rfl ?_
    obtain ⟨b3, h⟩ := h
    refine sj_iald (a := 3) (j := x2.toNatClampNeg) (x := (σ1 3 x2.toNatClampNeg)) dX8_tableIsAheadOf_15 rfl (by decide +kernel) b3 rfl rfl ?_
    refine sj_aload_n dX8_tableIsAheadOf_16 (i := 1) rfl rfl ?_
    refine sj_iload_n dX8_tableIsAheadOf_17 (i := 2) rfl rfl ?_
    obtain ⟨b4, h⟩ := h
    refine sj_iald (a := sl) (j := x2.toNatClampNeg) (x := (σ1 sl x2.toNatClampNeg)) dX8_tableIsAheadOf_18 hsl.1 hsl.2.1 (by rw [hsl.2.2]; exact b4) rfl rfl ?_
    refine sj_icmp_eq (tgt := 40) dX8_tableIsAheadOf_19 (by decide) (fun c5 => ?_) (fun c5 => ?_)
    · replace h := h.1 c5
      refine sj_iinc (v := (x2 + (nI 1))) dX8_tableIsAheadOf_40 (by decide) rfl rfl ?_
      refine sj_goto (tgt := 2) dX8_tableIsAheadOf_43 (by decide) ?_
      exact h
    · replace h := h.2 c5
      refine sj_aload_n dX8_tableIsAheadOf_22 (i := 0) rfl rfl ?_
      refine sj_get (a := 1) (k9 := 1) (v := .ref (sj_ad G 3)) dX8_tableIsAheadOf_23 (by decide +kernel) rfl ?_
      refine sj_iload_n dX8_tableIsAheadOf_26 (i := 2) rfl rfl ?_
      obtain ⟨b6, h⟩ := h
      refine sj_iald (a := 3) (j := x2.toNatClampNeg) (x := (σ1 3 x2.toNatClampNeg)) dX8_tableIsAheadOf_27 rfl (by decide +kernel) b6 rfl rfl ?_
      refine sj_aload_n dX8_tableIsAheadOf_28 (i := 1) rfl rfl ?_
      refine sj_iload_n dX8_tableIsAheadOf_29 (i := 2) rfl rfl ?_
      obtain ⟨b7, h⟩ := h
      refine sj_iald (a := sl) (j := x2.toNatClampNeg) (x := (σ1 sl x2.toNatClampNeg)) dX8_tableIsAheadOf_30 hsl.1 hsl.2.1 (by rw [hsl.2.2]; exact b7) rfl rfl ?_
      refine sj_icmp_ge (tgt := 38) dX8_tableIsAheadOf_31 (by decide) (fun c8 => ?_) (fun c8 => ?_)
      · refine sj_iconst (v := (nI 0)) dX8_tableIsAheadOf_38 (by decide +kernel) ?_
        try simp only [if_pos c8] at h
        refine sj_fg [0, 1, 2] ?_
        exact t_X8_tableIsAheadOf_39 hsl h
      · refine sj_iconst (v := (nI 1)) dX8_tableIsAheadOf_34 (by decide +kernel) ?_
        refine sj_goto (tgt := 39) dX8_tableIsAheadOf_35 (by decide) ?_
        try simp only [if_neg c8] at h
        refine sj_fg [0, 1, 2] ?_
        exact t_X8_tableIsAheadOf_39 hsl h
def wp_X8_tableIsAheadOf_0 (G : sj_G) (R : sj_R) (sl : Nat) (σ : sj_S) : Prop := sj_J G 3 me_X8_tableIsAheadOf R 2 [.ref (sj_ad G 1), .ref (sj_ad G sl), .int (nI 0)] σ []
set_option maxRecDepth 20000 in
theorem t_X8_tableIsAheadOf_0 {G : sj_G} {R : sj_R} {sl : Nat} {σ : sj_S} (hsl : sj_lk sl = 13 ∧ sl < sj_NA ∧ sj_ln sl = 9) (h : wp_X8_tableIsAheadOf_0 G R sl σ) : sj_J G 3 me_X8_tableIsAheadOf R 0 [.ref (sj_ad G 1), .ref (sj_ad G sl), .null] σ [] := by
  unfold wp_X8_tableIsAheadOf_0 at h
  refine sj_iconst (v := (nI 0)) dX8_tableIsAheadOf_0 (by decide +kernel) ?_
  refine sj_istore_n dX8_tableIsAheadOf_1 (i := 2) rfl (by decide) ?_
  exact h
theorem c_X8_tableIsAheadOf {G : sj_G} (ok : sj_ok G) {R : sj_R} {sl : Nat} {σ : sj_S} (hsl : sj_lk sl = 13 ∧ sl < sj_NA ∧ sj_ln sl = 9) (h : wp_X8_tableIsAheadOf_0 G R sl σ) : sj_C G 3 me_X8_tableIsAheadOf [.ref (sj_ad G 1), .ref (sj_ad G sl)] σ R :=
  sj_enter ok (by decide +kernel) rfl rfl (Nat.le_of_ble_eq_true rfl) (by simp [Value.category]) (t_X8_tableIsAheadOf_0 hsl h)
