/-! CORE: the world after the constructors: all cells at fixed places, all contents whole numbers -/
abbrev sj_S : Type := Nat → Nat → Int32
abbrev sj_R : Type := Except Nat Int32 × sj_S
def sj_up (σ : sj_S) (a : Nat) (f : Nat → Int32) : sj_S := fun b => if b = a then f else σ b
def sj_st (σ : sj_S) (a i : Nat) (x : Int32) : sj_S := sj_up σ a (upd (σ a) i x)
theorem sj_up_s {σ : sj_S} {a : Nat} {f : Nat → Int32} : sj_up σ a f a = f := by simp [sj_up]
theorem sj_up_n {σ : sj_S} {a b : Nat} {f : Nat → Int32} (h : b ≠ a) : sj_up σ a f b = σ b := by simp [sj_up, h]
abbrev sj_G : Type := Launch × (Nat → ClassId) × (Nat → Nat → Nat) × (Nat → Nat) × (Nat → ClassId) × (Nat → Prop) × Nat × Nat × Nat
abbrev sj_l (G : sj_G) : Launch := G.1
abbrev sj_D (G : sj_G) : va_G := (G.2.1, G.2.2.1)
abbrev sj_ad (G : sj_G) : Nat → Nat := G.2.2.2.1
abbrev sj_cs (G : sj_G) : Nat → ClassId := G.2.2.2.2.1
abbrev sj_A (G : sj_G) : Nat → Prop := G.2.2.2.2.2.1
abbrev sj_N0 (G : sj_G) : Nat := G.2.2.2.2.2.2.1
/-- the text of the days' letters: its object, its bytes -/
abbrev sj_tk (G : sj_G) : Nat := G.2.2.2.2.2.2.2.1
abbrev sj_tv (G : sj_G) : Nat := G.2.2.2.2.2.2.2.2
/-- the layout: kind (0 to 12 the class, 13 ints, 14 booleans, 15 chars), how many, where references point -/
def sj_LK : List (Nat × Nat × List Nat) := [(11, 11, [1, 4, 6, 30, 36, 39, 41, 44, 46, 50, 52]), (8, 2, [2, 3]), (13, 119, []), (13, 9, []), (5, 3, [5, 0, 0]), (13, 2560, []), (7, 12, [0, 7, 8, 9, 10, 11, 12, 13, 14, 15, 16, 17]), (13, 9, []), (13, 9, []), (13, 9, []), (13, 9, []), (13, 9, []), (13, 9, []), (13, 9, []), (13, 9, []), (13, 9, []), (13, 9, []), (13, 9, []), (7, 12, [0, 19, 20, 21, 22, 23, 24, 25, 26, 27, 28, 29]), (13, 9, []), (13, 9, []), (13, 9, []), (13, 9, []), (13, 9, []), (13, 9, []), (13, 9, []), (13, 9, []), (13, 9, []), (13, 9, []), (13, 9, []), (4, 8, [18, 31, 32, 0, 33, 34, 35, 0]), (13, 9, []), (13, 12, []), (13, 2560, []), (13, 5, []), (13, 9, []), (6, 3, [37, 38, 0]), (13, 9, []), (13, 9, []), (1, 1, [40]), (13, 9, []), (2, 5, [42, 0, 0, 0, 43]), (13, 9, []), (13, 9, []), (3, 1, [45]), (13, 8, []), (0, 3, [47, 48, 49]), (13, 5, []), (13, 5, []), (13, 5, []), (10, 3, [51, 0, 0]), (14, 280, []), (9, 8, [53, 54, 0, 0, 0, 55, 0, 0]), (13, 9, []), (15, 36, []), (13, 100, []), (12, 17, [0, 70, 57, 58, 59, 60, 61, 62, 63, 64, 65, 66, 67, 0, 0, 68, 69]), (13, 9, []), (13, 9, []), (13, 9, []), (13, 9, []), (13, 9, []), (13, 9, []), (13, 12, []), (13, 12, []), (13, 12, []), (13, 12, []), (13, 3, []), (14, 30, []), (14, 64, [])]
def sj_NA : Nat := 70
def sj_lk (a : Nat) : Nat := (sj_LK.getD a (16, 0, [])).1
def sj_ln (a : Nat) : Nat := (sj_LK.getD a (16, 0, [])).2.1
def sj_rf (a k : Nat) : Nat := (sj_LK.getD a (16, 0, [])).2.2.getD k 0
def sj_fv (ad : Nat → Nat) (σ : sj_S) (a k : Nat) : Value := if sj_rf a k = 0 then .int (σ a k) else .ref (ad (sj_rf a k))
def sj_fs (ad : Nat → Nat) (σ : sj_S) (a : Nat) : List Value := (List.range (sj_ln a)).map (sj_fv ad σ a)
def sj_ent (ad : Nat → Nat) (cs : Nat → ClassId) (σ : sj_S) (a : Nat) : va_E := if sj_lk a ≤ 12 then .inr (sj_lk a, sj_fs ad σ a) else .inl (cs (sj_lk a), sj_ln a, .inl (σ a))
def sj_wd (G : sj_G) (σ : sj_S) : va_W := (List.range sj_NA).map fun a => (sj_ad G a, sj_ent (sj_ad G) (sj_cs G) σ a)
theorem sj_wd_get {G : sj_G} {σ : sj_S} {a : Nat} (h : a < sj_NA) : (sj_wd G σ)[a]? = some (sj_ad G a, sj_ent (sj_ad G) (sj_cs G) σ a) := by
  simp [sj_wd, h]
theorem sj_wd_arr {G : sj_G} {σ : sj_S} {a : Nat} (h : a < sj_NA) (hk : ¬ sj_lk a ≤ 12) : (sj_wd G σ)[a]? = some (sj_ad G a, .inl (sj_cs G (sj_lk a), sj_ln a, .inl (σ a))) := by
  rw [sj_wd_get h]; simp [sj_ent, hk]
theorem sj_wd_obj {G : sj_G} {σ : sj_S} {a : Nat} (h : a < sj_NA) (hk : sj_lk a ≤ 12) : (sj_wd G σ)[a]? = some (sj_ad G a, .inr (sj_lk a, sj_fs (sj_ad G) σ a)) := by
  rw [sj_wd_get h]; simp [sj_ent, hk]
theorem sj_wd_set {G : sj_G} {σ : sj_S} {a : Nat} {f : Nat → Int32} {e : va_E} (h : a < sj_NA) (he : sj_ent (sj_ad G) (sj_cs G) (sj_up σ a f) a = e) : (sj_wd G σ).set a (sj_ad G a, e) = sj_wd G (sj_up σ a f) := by
  apply List.ext_getElem?
  intro i
  by_cases hi : i < sj_NA
  · by_cases hia : i = a
    · subst hia
      rw [List.getElem?_set_self (by simp [sj_wd, hi]), sj_wd_get hi, he]
    · rw [List.getElem?_set_ne (Ne.symm hia), sj_wd_get hi, sj_wd_get hi]
      have e1 : sj_ent (sj_ad G) (sj_cs G) (sj_up σ a f) i = sj_ent (sj_ad G) (sj_cs G) σ i := by
        unfold sj_ent sj_fs
        rw [sj_up_n hia]
        congr 1
        congr 1
        refine congrArg (Prod.mk _) ?_
        apply List.map_congr_left
        intro k _
        unfold sj_fv
        rw [sj_up_n hia]
      rw [e1]
  · rw [List.getElem?_eq_none (by simp [sj_wd]; omega), List.getElem?_eq_none (by simp [sj_wd]; omega)]
theorem sj_wd_ast {G : sj_G} {σ : sj_S} {a : Nat} {f : Nat → Int32} (h : a < sj_NA) (hk : ¬ sj_lk a ≤ 12) : (sj_wd G σ).set a (sj_ad G a, .inl (sj_cs G (sj_lk a), sj_ln a, .inl f)) = sj_wd G (sj_up σ a f) :=
  sj_wd_set h (by simp [sj_ent, hk, sj_up_s])
theorem sj_fs_set {ad : Nat → Nat} {σ : sj_S} {a k : Nat} {x : Int32} (hr : sj_rf a k = 0) : (sj_fs ad σ a).set k (.int x) = sj_fs ad (sj_st σ a k x) a := by
  apply List.ext_getElem?
  intro i
  by_cases hi : i < sj_ln a
  · by_cases hik : i = k
    · subst hik
      rw [List.getElem?_set_self (by simp [sj_fs, hi])]
      simp [sj_fs, hi, sj_fv, hr, sj_st, sj_up_s, upd]
    · rw [List.getElem?_set_ne (Ne.symm hik)]
      simp [sj_fs, hi, sj_fv, sj_st, sj_up_s, upd, hik]
  · rw [List.getElem?_eq_none (by simp [sj_fs]; omega), List.getElem?_eq_none (by simp [sj_fs]; omega)]
theorem sj_wd_ost {G : sj_G} {σ : sj_S} {a k : Nat} {x : Int32} (h : a < sj_NA) (hk : sj_lk a ≤ 12) (hr : sj_rf a k = 0) : (sj_wd G σ).set a (sj_ad G a, .inr (sj_lk a, (sj_fs (sj_ad G) σ a).set k (.int x))) = sj_wd G (sj_st σ a k x) :=
  sj_wd_set h (by rw [sj_fs_set hr]; simp [sj_ent, hk, sj_st])
theorem sj_fs_get {ad : Nat → Nat} {σ : sj_S} {a k : Nat} (hk : k < sj_ln a) : (sj_fs ad σ a)[k]? = some (sj_fv ad σ a k) := by simp [sj_fs, hk]
def sj_tys (cs : Nat → ClassId) : List (ClassId × FieldType) := [(cs 13, .int), (cs 14, .boolean), (cs 15, .char)]
/-- the words of all classes' fields, those of a throw that aren't good, the texts -/
def sj_clw : List Cond := wsX00 ++ (wsX10 ++ (wsX20 ++ (wsX30 ++ (wsX40 ++ (wsX50 ++ (wsX60 ++ (wsX70 ++ (wsX80 ++ (wsX90 ++ (wsX100 ++ (wsX110 ++ wsL0)))))))))))
def sj_ex : Nat → String
  | 1 => "java/lang/IllegalArgumentException"
  | 2 => "java/lang/IllegalStateException"
  | _ => "java/lang/IndexOutOfBoundsException"
def sj_nms : List String := ["java/lang/RuntimeException", "java/lang/Exception"]
def sj_bw : List Cond := (vx_atS RX11 98 (sj_ex 1) sj_nms ++ (vx_atS RX11 109 (sj_ex 2) sj_nms ++ vx_atS RX11 186 (sj_ex 3) sj_nms)).filter (fun w => !goodWord w)
def sj_strs : List (Nat × String) := [(96, "the teacher cannot teach the subject"), (107, "there are 9 lessons"), (142, "a lesson is told twice"), (147, "there are 12 wishes"), (184, "there is no such place of a proof"), (279, "both exams are the same"), (310, "the date is no Monday"), (315, "the last date is ahead of the first one"), (320, "there are 10 holidays"), (338, "there is no such school day"), (357, "the tape would have more than 100 bytes"), (368, "the text has an error"), (377, "the table is not right"), (388, "there is no such sign"), (421, "a number is out of range"), (423, "there is no such lesson"), (425, "there is no such wish"), (427, "there is no present table"), (432, "the number is no date of these years")]
/-- the letters' text, and what String's own methods look at -/
def sj_Kt (G : sj_G) (U : State) (H : Heap) : Prop :=
  vk_S 1 [5] [[109, 116, 119, 104, 102]] (fun _ => sj_tk G) (fun _ => sj_tv G) (sj_A G) U H ∧ vk_R RX9 64 "mtwhf" (sj_tk G) U ∧ va_Z "java/lang/String" "COMPACT_STRINGS" "Z" (.int 1) (sj_A G) U H ∧ va_Zq "jdk/internal/util/Preconditions" "SIOOBE_FORMATTER" "Ljava/util/function/BiFunction;" (sj_A G) U H
def sj_K (G : sj_G) (U : State) (H : Heap) : Prop :=
  sj_N0 G ≤ H.size ∧ va_K (sj_D G) vwCl (sj_tys (sj_cs G)) U ∧ vx_Zq Bundle.tN "UNASSIGNED_STACK" Bundle.steD (sj_A G) U H ∧ vx_Zq Bundle.tN "SUPPRESSED_SENTINEL" Bundle.listD (sj_A G) U H ∧
  (∀ w ∈ sj_clw, va_Nw w U) ∧ (∀ w ∈ sj_bw, va_Nw w U) ∧ (∀ q ∈ sj_strs, ∃ sa : Nat, vk_R RX11 q.1 q.2 sa U) ∧ sj_Kt G U H
def sj_ok (G : sj_G) : Prop := (sj_l G).stackTraces = false ∧ (∀ q : Nat, sj_N0 G ≤ q → sj_A G q) ∧ (∀ a : Nat, a < sj_NA → sj_A G (sj_ad G a)) ∧ (∀ a b : Nat, a < sj_NA → b < sj_NA → sj_ad G a = sj_ad G b → a = b)
theorem sj_wd_D {G : sj_G} (h : sj_ok G) (σ : sj_S) : va_D (sj_A G) (sj_wd G σ) := by
  have key : ∀ (k : Nat) (q : Nat × va_E), (sj_wd G σ)[k]? = some q → k < sj_NA ∧ q.1 = sj_ad G k := by
    intro k q hk
    have hl : k < sj_NA := by
      have := (List.getElem?_eq_some_iff.mp hk).1
      simpa [sj_wd] using this
    rw [sj_wd_get hl] at hk
    cases hk
    exact ⟨hl, rfl⟩
  refine ⟨fun i j p q hi hj hpq => ?_, fun k q hk => ?_⟩
  · obtain ⟨h1, e1⟩ := key i p hi
    obtain ⟨h2, e2⟩ := key j q hj
    exact h.2.2.2 i j h1 h2 (by rw [← e1, ← e2, hpq])
  · obtain ⟨h1, e1⟩ := key k q hk
    rw [e1]
    exact h.2.2.1 k h1
theorem sj_clw_good : sj_clw.all (fun w => goodWord w && w.onTables) = true := by decide +kernel
theorem sj_bw_ok : sj_bw.all (fun w => w.onTables && w.keepsFace) = true := by decide +kernel
theorem sj_Nw_good {w : Cond} (hg : goodWord w = true) (ho : w.onTables = true) {s U : State} (hW : s.WarmedH U.vm) (h : va_Nw w s) : va_Nw w U := word_at hW (good_of_word hg) h
theorem sj_Nw_face {w : Cond} (hk : w.keepsFace = true) (ho : w.onTables = true) {s U : State} (hW : s.WarmedH U.vm) (h : va_Nw w s) : va_Nw w U :=
  va_tabs ho (rfl : (s.setVm U.vm).vm = U.vm) (Cond.before_shiftedFace (State.Shifted.of_warmed hW) _ hk h)
theorem sj_K_moved {G : sj_G} (hok : sj_ok G) {s U : State} (hW : s.WarmedH U.vm) {H : Heap} {locs : List Loc} (hS : va_S (sj_A G) s.heap H locs) (hU : U.heap = H) (h : sj_K G s s.heap) : sj_K G U U.heap := by
  obtain ⟨h1, h2, h3, h4, h5, h6, h7, h8⟩ := h
  rw [hU]
  refine ⟨Nat.le_trans h1 hS.1, va_K.moved hW.alike h2, vx_Zq.moved hW.alike (h3.kept hS.2.1), vx_Zq.moved hW.alike (h4.kept hS.2.1), fun w hw => ?_, fun w hw => ?_, fun q hq => ?_, vk_S.moved hW.alike (h8.1.kept hS.2.1), vk_R.warm hW h8.2.1, va_Z.moved hW.alike (h8.2.2.1.kept hS.2.1), va_Zq.moved hW.alike (h8.2.2.2.kept hS.2.1)⟩
  · have g := List.all_eq_true.mp sj_clw_good w hw
    simp only [Bool.and_eq_true] at g
    exact sj_Nw_good g.1 g.2 hW (h5 w hw)
  · have g := List.all_eq_true.mp sj_bw_ok w hw
    simp only [Bool.and_eq_true] at g
    exact sj_Nw_face g.2 g.1 hW (h6 w hw)
  · obtain ⟨sa, e⟩ := h7 q hq
    exact ⟨sa, vk_R.warm hW e⟩
theorem sj_K_calling {G : sj_G} {U : State} {g : JFrame} {mk : MethodId} {a : Array Value} (h : sj_K G U U.heap) : sj_K G (U.calling g mk a) (U.calling g mk a).heap := by
  obtain ⟨h1, h2, h3, h4, h5, h6, h7, h8⟩ := h
  have hvm : U.vm.Alike (U.calling g mk a).vm := Vm.Alike.refl U.vm
  refine ⟨h1, va_K.moved hvm h2, vx_Zq.moved hvm h3, vx_Zq.moved hvm h4, fun w hw => ?_, fun w hw => ?_, fun q hq => ?_, vk_S.moved hvm h8.1, vk_R.same rfl h8.2.1, va_Z.moved hvm h8.2.2.1, va_Zq.moved hvm h8.2.2.2⟩
  · have g := List.all_eq_true.mp sj_clw_good w hw
    simp only [Bool.and_eq_true] at g
    exact va_Nw.same (u := U) g.2 rfl (h5 w hw)
  · have g := List.all_eq_true.mp sj_bw_ok w hw
    simp only [Bool.and_eq_true] at g
    exact va_Nw.same (u := U) g.1 rfl (h6 w hw)
  · obtain ⟨sa, e⟩ := h7 q hq
    exact ⟨sa, vk_R.same rfl e⟩
/-- a method: its name, its class's name, code, locals, words, answer -/
abbrev sj_M : Type := MethodName × String × ByteArray × Nat × List Cond × Option FieldType
abbrev sj_y (M : sj_M) : MethodName := M.1
abbrev sj_own (M : sj_M) : String := M.2.1
abbrev sj_cc (M : sj_M) : ByteArray := M.2.2.1
abbrev sj_nL (M : sj_M) : Nat := M.2.2.2.1
abbrev sj_ws (M : sj_M) : List Cond := M.2.2.2.2.1
abbrev sj_rt (M : sj_M) : Option FieldType := M.2.2.2.2.2
def sj_mc (R : sj_R) : Nat := match R.1 with
  | .ok _ => 0
  | .error _ => 1
def sj_ms (R : sj_R) : Nat := match R.1 with
  | .ok _ => 0
  | .error _ => 6
def sj_rm (d : Nat) (R : sj_R) : Room := { frames := d, cells := sj_mc R, slots := sj_ms R, locals := 64 * d }
def sj_B (G : sj_G) (σ : sj_S) (t : State) : Prop := va_P (sj_D G) vwCl (sj_wd G σ) t.heap
def sj_Q (G : sj_G) (rt : Option FieldType) (R : sj_R) : Array Value → State → Outcome → State → Prop := match rt with
  | none => va_Qv (fun _ : Unit => R.1 = .ok 0) (fun _ t => sj_B G R.2 t) (sj_A G)
  | some _ => va_Qi (fun r (_ : Unit) => R.1 = .ok r) (fun _ t => sj_B G R.2 t) (sj_A G)
def sj_X (G : sj_G) (R : sj_R) : String → State → State → Prop := vx_X (fun _ : Unit => True) (fun E _ t => ∃ k, R.1 = .error k ∧ E = sj_ex k ∧ sj_B G R.2 t) (sj_A G)
/-- THE CONTRACT: called with av over σ the method comes to R -/
def sj_C (G : sj_G) (d : Nat) (M : sj_M) (av : List Value) (σ : sj_S) (R : sj_R) : Prop :=
  vx_Met (sj_l G) (sj_y M) (sj_ws M) (sj_rm d R) (va_Pc av (fun U => sj_B G σ U ∧ sj_K G U U.heap)) (sj_Q G (sj_rt M) R) (sj_X G R) (sj_mc R) (sj_ms R) (sj_A G)
def sj_Cx (G : sj_G) (M : sj_M) (p : Program) (s : State) (m : MethodId) (args : Array Value) (meth : Method) (c : Code) : Prop :=
  p.tables.exec = Jvm.exec ∧ c.code = sj_cc M ∧ c.maxLocals = sj_nL M ∧ s.vm.findClass (sj_own M) = some m.cls ∧ (∀ w ∈ sj_ws M, w.before args s = true) ∧ meth.locks = false ∧ meth.sig.returnType = sj_rt M ∧ (∀ x ∈ c.exceptionTable.toList, False) ∧ sj_K G s s.heap
def sj_lh (ls : Array Slot) (n : Nat) (L : List Value) : Prop := ls.size = n ∧ lv_wf ls ∧ (∀ (i : Nat) (v : Value), L[i]? = some v → v ≠ .null → ls[i]? = some (.val v)) ∧ ∀ v ∈ L, v.category = 1
theorem sj_lh_set {ls : Array Slot} {n i : Nat} {L : List Value} {v : Value} (h : sj_lh ls n L) (hi : i < n) (hv : v.category = 1) : ∃ ls', storeLocals ls i v = some ls' ∧ sj_lh ls' n (L.set i v) := by
  obtain ⟨h1, h2, h3, h4⟩ := h
  let lv : List (Nat × Value) := (List.range L.length).filterMap (fun j => if L[j]? = some Value.null then none else (L[j]?).map (fun w => (j, w)))
  have hmem : ∀ (j : Nat) (w : Value), L[j]? = some w → w ≠ .null → (j, w) ∈ lv := by
    intro j w hj hw
    have hlt : j < L.length := (List.getElem?_eq_some_iff.mp hj).1
    refine List.mem_filterMap.mpr ⟨j, List.mem_range.mpr hlt, ?_⟩
    rw [hj, if_neg (fun h => hw (Option.some.inj h))]
    rfl
  have hlv : lv_has ls n lv := by
    refine ⟨h1, h2, fun q hq => ?_⟩
    obtain ⟨j, -, hj⟩ := List.mem_filterMap.mp hq
    cases hL : L[j]? with
    | none => rw [hL] at hj; simp at hj
    | some w =>
      rw [hL] at hj
      by_cases hw : w = Value.null
      · subst hw; simp at hj
      · rw [if_neg (fun h => hw (Option.some.inj h))] at hj
        have e : q = (j, w) := (Option.some.inj hj).symm
        subst e
        exact h3 j w hL hw
  obtain ⟨ls', e', h'⟩ := lv_store1 hlv hi hv
  refine ⟨ls', e', h'.1, h'.2.1, fun j w hj hw => ?_, fun w hw => ?_⟩
  · by_cases hji : i = j
    · subst hji
      by_cases hl : i < L.length
      · rw [List.getElem?_set_self hl] at hj
        cases hj
        exact h'.2.2 (i, v) List.mem_cons_self
      · rw [List.getElem?_eq_none (by simpa using hl)] at hj
        cases hj
    · rw [List.getElem?_set_ne hji] at hj
      refine h'.2.2 (j, w) (List.mem_cons_of_mem _ (List.mem_filter.mpr ⟨hmem j w hj hw, ?_⟩))
      have hc : w.category = 1 := h4 w (List.mem_of_getElem? hj)
      simp [hc, Ne.symm hji]
  · rcases List.mem_or_eq_of_mem_set hw with h | h
    · exact h4 w h
    · rw [h]; exact hv
/-- THE WALK: from here the method comes to R -/
def sj_J (G : sj_G) (d : Nat) (M : sj_M) (R : sj_R) (pc : Nat) (L : List Value) (σ : sj_S) (st : List Value) : Prop :=
  ∀ (p : Program) (e : Env) (s : State) (m : MethodId) (args : Array Value) (below : List Frame) (meth : Method) (c : Code), sj_ok G → sj_Cx G M p s m args meth c →
  ∀ (H : Heap) (locs : List Loc) (ls : Array Slot), va_P (sj_D G) vwCl (sj_wd G σ) H → va_S (sj_A G) s.heap H locs → sj_lh ls (sj_nL M) L →
  W p (sj_l G) e (sj_rm d R) s m args below meth c H locs 0 0 (vx_MQ below (sj_Q G (sj_rt M) R) (sj_X G R) args s (sj_mc R) (sj_ms R) (sj_A G)) (F0 m pc ls st)
theorem sj_lh_entry (av : List Value) (n : Nat) (hn : av.length ≤ n) (hc : ∀ v ∈ av, v.category = 1) : sj_lh (lg_sl av ++ List.replicate (n - (lg_sl av).length) Slot.unset).toArray n (av ++ List.replicate (n - av.length) .null) := by
  have hsl : ∀ (l : List Value), (∀ v ∈ l, v.category = 1) → (lg_sl l).length = l.length := by
    intro l
    induction l with
    | nil => intro _; rfl
    | cons v vs ih =>
      intro h
      have hv : v.category = 1 := h v List.mem_cons_self
      have h2 : ¬ v.category = 2 := by omega
      have := ih (fun w hw => h w (List.mem_cons_of_mem _ hw))
      simp [lg_sl, h2] at this ⊢
      omega
  have hargs : ∀ (l : List Value) (k : Nat), (∀ v ∈ l, v.category = 1) → ∀ (i : Nat) (v : Value), l[i]? = some v → (k + i, v) ∈ lv_args k l := by
    intro l
    induction l with
    | nil => intro k _ i v h; simp at h
    | cons w ws ih =>
      intro k h i v hi
      have h2 : ¬ w.category = 2 := by have := h w List.mem_cons_self; omega
      simp only [lv_args, h2, if_false]
      cases i with
      | zero => rw [List.getElem?_cons_zero] at hi; cases hi; exact List.mem_cons_self
      | succ i =>
        rw [List.getElem?_cons_succ] at hi
        have := ih (k + 1) (fun u hu => h u (List.mem_cons_of_mem _ hu)) i v hi
        rw [show k + (i + 1) = k + 1 + i by omega]
        exact List.mem_cons_of_mem _ this
  have hl := lv_entry av (n := n) (by rw [hsl av hc]; exact hn)
  refine ⟨hl.1, hl.2.1, fun i v hi hv => ?_, fun v hv => ?_⟩
  · by_cases h : i < av.length
    · rw [List.getElem?_append_left h] at hi
      have := hl.2.2 _ (hargs av 0 hc i v hi)
      simpa using this
    · rw [List.getElem?_append_right (by omega)] at hi
      have := List.eq_of_mem_replicate (List.mem_of_getElem? hi)
      exact absurd this hv
  · rcases List.mem_append.mp hv with h | h
    · exact hc v h
    · rw [List.eq_of_mem_replicate h]; rfl
theorem sj_enter {G : sj_G} (hok : sj_ok G) {d : Nat} {M : sj_M} {ws' : List Cond} {av : List Value} {σ : sj_S} {R : sj_R} (hy : plainName (sj_y M).cls = true) (hyo : (sj_y M).cls = sj_own M) (hw : sj_ws M = Cond.code (sj_y M) (sj_cc M) (sj_nL M) (sj_rt M) :: ws')
    (hn : av.length ≤ sj_nL M) (hc : ∀ v ∈ av, v.category = 1) (k : sj_J G d M R 0 (av ++ List.replicate (sj_nL M - av.length) .null) σ []) : sj_C G d M av σ R := by
  unfold sj_C
  refine vx_ofW (cc := sj_cc M) (maxL := sj_nL M) (ret := sj_rt M) hy hw ?_
  intro p e s m args below meth c s₁ B hml ht hv
  obtain ⟨rfl, hP, hK⟩ := hv
  have hx := B.exec
  have hb := B.bytes
  have hr := B.returns
  have hts := atoms_spec (ws := sj_ws M) B.pre
  have hown : s.vm.findClass (sj_own M) = some m.cls := hyo ▸ findClass_of_methodNamed B.named
  have hlocks := B.notSynchronized
  have hl := sj_lh_entry av (sj_nL M) hn hc
  rw [lg_entry_eq]
  exact k p e s m av.toArray below meth c hok ⟨hx, hb, hml, hown, hts, hlocks, hr, ht, hK⟩ s.heap [] _ hP va_S.rf hl
section SJ
variable {G : sj_G} {d : Nat} {M : sj_M} {R : sj_R} {pc : Nat} {L st rest : List Value} {σ : sj_S}

theorem sj_iadd {x y : Int32} (hd : decode (sj_cc M) pc = .ok (.iadd, 1)) (k : sj_J G d M R (pc + 1) L σ (.int (x + y) :: rest)) : sj_J G d M R pc L σ (.int y :: .int x :: rest) :=
  fun p e s m args below meth c ok C H locs ls hP hS hl => lv_iadd C.1 C.2.1 hd  (k p e s m args below meth c ok C H locs ls hP hS hl)
theorem sj_isub {x y : Int32} (hd : decode (sj_cc M) pc = .ok (.isub, 1)) (k : sj_J G d M R (pc + 1) L σ (.int (x - y) :: rest)) : sj_J G d M R pc L σ (.int y :: .int x :: rest) :=
  fun p e s m args below meth c ok C H locs ls hP hS hl => lv_isub C.1 C.2.1 hd  (k p e s m args below meth c ok C H locs ls hP hS hl)
theorem sj_imul {x y : Int32} (hd : decode (sj_cc M) pc = .ok (.imul, 1)) (k : sj_J G d M R (pc + 1) L σ (.int (x * y) :: rest)) : sj_J G d M R pc L σ (.int y :: .int x :: rest) :=
  fun p e s m args below meth c ok C H locs ls hP hS hl => lv_imul C.1 C.2.1 hd  (k p e s m args below meth c ok C H locs ls hP hS hl)
theorem sj_iand {x y : Int32} (hd : decode (sj_cc M) pc = .ok (.iand, 1)) (k : sj_J G d M R (pc + 1) L σ (.int (x &&& y) :: rest)) : sj_J G d M R pc L σ (.int y :: .int x :: rest) :=
  fun p e s m args below meth c ok C H locs ls hP hS hl => lv_iand C.1 C.2.1 hd  (k p e s m args below meth c ok C H locs ls hP hS hl)
theorem sj_ior {x y : Int32} (hd : decode (sj_cc M) pc = .ok (.ior, 1)) (k : sj_J G d M R (pc + 1) L σ (.int (x ||| y) :: rest)) : sj_J G d M R pc L σ (.int y :: .int x :: rest) :=
  fun p e s m args below meth c ok C H locs ls hP hS hl => lv_ior C.1 C.2.1 hd  (k p e s m args below meth c ok C H locs ls hP hS hl)
theorem sj_ixor {x y : Int32} (hd : decode (sj_cc M) pc = .ok (.ixor, 1)) (k : sj_J G d M R (pc + 1) L σ (.int (x ^^^ y) :: rest)) : sj_J G d M R pc L σ (.int y :: .int x :: rest) :=
  fun p e s m args below meth c ok C H locs ls hP hS hl => lv_ixor C.1 C.2.1 hd  (k p e s m args below meth c ok C H locs ls hP hS hl)
theorem sj_ishl {x y : Int32} (hd : decode (sj_cc M) pc = .ok (.ishl, 1)) (k : sj_J G d M R (pc + 1) L σ (.int (x <<< (y &&& 31)) :: rest)) : sj_J G d M R pc L σ (.int y :: .int x :: rest) :=
  fun p e s m args below meth c ok C H locs ls hP hS hl => lv_ishl C.1 C.2.1 hd  (k p e s m args below meth c ok C H locs ls hP hS hl)
theorem sj_ishr {x y : Int32} (hd : decode (sj_cc M) pc = .ok (.ishr, 1)) (k : sj_J G d M R (pc + 1) L σ (.int (x >>> (y &&& 31)) :: rest)) : sj_J G d M R pc L σ (.int y :: .int x :: rest) :=
  fun p e s m args below meth c ok C H locs ls hP hS hl => lv_ishr C.1 C.2.1 hd  (k p e s m args below meth c ok C H locs ls hP hS hl)
theorem sj_iushr {x y : Int32} (hd : decode (sj_cc M) pc = .ok (.iushr, 1)) (k : sj_J G d M R (pc + 1) L σ (.int (x.toUInt32 >>> (y.toUInt32 &&& Int32.toUInt32 31)).toInt32 :: rest)) : sj_J G d M R pc L σ (.int y :: .int x :: rest) :=
  fun p e s m args below meth c ok C H locs ls hP hS hl => lv_iushr C.1 C.2.1 hd rfl (k p e s m args below meth c ok C H locs ls hP hS hl)
theorem sj_idiv {x y : Int32} (hd : decode (sj_cc M) pc = .ok (.idiv, 1)) (hne : ¬ y = 0) (k : sj_J G d M R (pc + 1) L σ (.int (x / y) :: rest)) : sj_J G d M R pc L σ (.int y :: .int x :: rest) :=
  fun p e s m args below meth c ok C H locs ls hP hS hl => lv_idiv C.1 C.2.1 hd hne (k p e s m args below meth c ok C H locs ls hP hS hl)
theorem sj_irem {x y : Int32} (hd : decode (sj_cc M) pc = .ok (.irem, 1)) (hne : ¬ y = 0) (k : sj_J G d M R (pc + 1) L σ (.int (x - x / y * y) :: rest)) : sj_J G d M R pc L σ (.int y :: .int x :: rest) :=
  fun p e s m args below meth c ok C H locs ls hP hS hl => lv_irem C.1 C.2.1 hd hne (k p e s m args below meth c ok C H locs ls hP hS hl)
theorem sj_iconst {n : Int} {v : Int32} (hd : decode (sj_cc M) pc = .ok (.iconst n, 1)) (hv : Int32.ofInt n = v) (k : sj_J G d M R (pc + 1) L σ (.int v :: rest)) : sj_J G d M R pc L σ (rest) :=
  fun p e s m args below meth c ok C H locs ls hP hS hl => lv_iconst C.1 C.2.1 hd hv (k p e s m args below meth c ok C H locs ls hP hS hl)
theorem sj_bipush {n : Int} {v : Int32} (hd : decode (sj_cc M) pc = .ok (.bipush n, 2)) (hv : (Int8.ofInt n).toInt32 = v) (k : sj_J G d M R (pc + 2) L σ (.int v :: rest)) : sj_J G d M R pc L σ (rest) :=
  fun p e s m args below meth c ok C H locs ls hP hS hl => lv_bipush C.1 C.2.1 hd hv (k p e s m args below meth c ok C H locs ls hP hS hl)
theorem sj_sipush {n : Int} {v : Int32} (hd : decode (sj_cc M) pc = .ok (.sipush n, 3)) (hv : (Int16.ofInt n).toInt32 = v) (k : sj_J G d M R (pc + 3) L σ (.int v :: rest)) : sj_J G d M R pc L σ (rest) :=
  fun p e s m args below meth c ok C H locs ls hP hS hl => lv_sipush C.1 C.2.1 hd hv (k p e s m args below meth c ok C H locs ls hP hS hl)
theorem sj_dup {va : Value} (hd : decode (sj_cc M) pc = .ok (.dup, 1)) (hc : va.category = 1) (k : sj_J G d M R (pc + 1) L σ (va :: va :: rest)) : sj_J G d M R pc L σ (va :: rest) :=
  fun p e s m args below meth c ok C H locs ls hP hS hl => lv_dup C.1 C.2.1 hd hc (k p e s m args below meth c ok C H locs ls hP hS hl)
theorem sj_pop {va : Value} (hd : decode (sj_cc M) pc = .ok (.pop, 1)) (hc : va.category = 1) (k : sj_J G d M R (pc + 1) L σ (rest)) : sj_J G d M R pc L σ (va :: rest) :=
  fun p e s m args below meth c ok C H locs ls hP hS hl => lv_pop C.1 C.2.1 hd hc (k p e s m args below meth c ok C H locs ls hP hS hl)
theorem sj_ineg {x : Int32} (hd : decode (sj_cc M) pc = .ok (.ineg, 1)) (k : sj_J G d M R (pc + 1) L σ (.int (-x) :: rest)) : sj_J G d M R pc L σ (.int x :: rest) :=
  fun p e s m args below meth c ok C H locs ls hP hS hl => lv_ineg C.1 C.2.1 hd (k p e s m args below meth c ok C H locs ls hP hS hl)
theorem sj_i2c {x : Int32} (hd : decode (sj_cc M) pc = .ok (.i2c, 1)) (k : sj_J G d M R (pc + 1) L σ (.int (x.toUInt32 % 65536).toInt32 :: rest)) : sj_J G d M R pc L σ (.int x :: rest) :=
  fun p e s m args below meth c ok C H locs ls hP hS hl => lv_i2c C.1 C.2.1 hd rfl (k p e s m args below meth c ok C H locs ls hP hS hl)
theorem sj_dup2 {va vb : Value} (hd : decode (sj_cc M) pc = .ok (.dup2, 1)) (ha : va.category = 1) (hb : vb.category = 1) (k : sj_J G d M R (pc + 1) L σ (va :: vb :: va :: vb :: rest)) : sj_J G d M R pc L σ (va :: vb :: rest) :=
  fun p e s m args below meth c ok C H locs ls hP hS hl => lv_dup2_11 C.1 C.2.1 hd ha hb (k p e s m args below meth c ok C H locs ls hP hS hl)
theorem sj_iload_n {k9 : Fin 4} {i : Nat} {x : Int32} (hd : decode (sj_cc M) pc = .ok (.iload_n k9, 1)) (hi : (k9 : Nat) = i) (hL : L[i]? = some (.int x)) (k : sj_J G d M R (pc + 1) L σ (.int x :: rest)) : sj_J G d M R pc L σ rest :=
  fun p e s m args below meth c ok C H locs ls hP hS hl => lv_iload_n C.1 C.2.1 hd hi (hl.2.2.1 i _ hL (fun h => nomatch h)) (k p e s m args below meth c ok C H locs ls hP hS hl)
theorem sj_iload {i : Nat} {x : Int32} (hd : decode (sj_cc M) pc = .ok (.iload i, 2)) (hL : L[i]? = some (.int x)) (k : sj_J G d M R (pc + 2) L σ (.int x :: rest)) : sj_J G d M R pc L σ rest :=
  fun p e s m args below meth c ok C H locs ls hP hS hl => lv_iload C.1 C.2.1 hd (hl.2.2.1 i _ hL (fun h => nomatch h)) (k p e s m args below meth c ok C H locs ls hP hS hl)
theorem sj_aload_n {k9 : Fin 4} {i : Nat} {x : Nat} (hd : decode (sj_cc M) pc = .ok (.aload_n k9, 1)) (hi : (k9 : Nat) = i) (hL : L[i]? = some (.ref x)) (k : sj_J G d M R (pc + 1) L σ (.ref x :: rest)) : sj_J G d M R pc L σ rest :=
  fun p e s m args below meth c ok C H locs ls hP hS hl => lv_aload_n C.1 C.2.1 hd hi (hl.2.2.1 i _ hL (fun h => nomatch h)) (k p e s m args below meth c ok C H locs ls hP hS hl)
theorem sj_aload {i : Nat} {x : Nat} (hd : decode (sj_cc M) pc = .ok (.aload i, 2)) (hL : L[i]? = some (.ref x)) (k : sj_J G d M R (pc + 2) L σ (.ref x :: rest)) : sj_J G d M R pc L σ rest :=
  fun p e s m args below meth c ok C H locs ls hP hS hl => lv_aload C.1 C.2.1 hd (hl.2.2.1 i _ hL (fun h => nomatch h)) (k p e s m args below meth c ok C H locs ls hP hS hl)

theorem sj_istore_n {k9 : Fin 4} {i : Nat} {x : Int32} (hd : decode (sj_cc M) pc = .ok (.istore_n k9, 1)) (hi : (k9 : Nat) = i) (hn : i < sj_nL M) (k : sj_J G d M R (pc + 1) (L.set i (.int x)) σ rest) : sj_J G d M R pc L σ (.int x :: rest) := by
  subst hi
  intro p e s m args below meth c ok C H locs ls hP hS hl
  obtain ⟨ls', e', h'⟩ := sj_lh_set (v := .int x) hl hn rfl
  have hx := C.1
  have hb := C.2.1
  intro T hT X
  obtain ⟨t, a, b⟩ := k p e s m args below meth c ok C H locs ls' hP hS h' T hT X
  refine ⟨t, ?_, b⟩
  jvm_step X.here [X.here.top, ↓top_set X.here.top, hx, hb, hd, e']
  exact a
theorem sj_istore {i : Nat} {x : Int32} (hd : decode (sj_cc M) pc = .ok (.istore i, 2)) (hn : i < sj_nL M) (k : sj_J G d M R (pc + 2) (L.set i (.int x)) σ rest) : sj_J G d M R pc L σ (.int x :: rest) := by
  intro p e s m args below meth c ok C H locs ls hP hS hl
  obtain ⟨ls', e', h'⟩ := sj_lh_set (v := .int x) hl hn rfl
  have hx := C.1
  have hb := C.2.1
  intro T hT X
  obtain ⟨t, a, b⟩ := k p e s m args below meth c ok C H locs ls' hP hS h' T hT X
  refine ⟨t, ?_, b⟩
  jvm_step X.here [X.here.top, ↓top_set X.here.top, hx, hb, hd, e']
  exact a
theorem sj_astore_n {k9 : Fin 4} {i : Nat} {x : Nat} (hd : decode (sj_cc M) pc = .ok (.astore_n k9, 1)) (hi : (k9 : Nat) = i) (hn : i < sj_nL M) (k : sj_J G d M R (pc + 1) (L.set i (.ref x)) σ rest) : sj_J G d M R pc L σ (.ref x :: rest) := by
  subst hi
  intro p e s m args below meth c ok C H locs ls hP hS hl
  obtain ⟨ls', e', h'⟩ := sj_lh_set (v := .ref x) hl hn rfl
  have hx := C.1
  have hb := C.2.1
  intro T hT X
  obtain ⟨t, a, b⟩ := k p e s m args below meth c ok C H locs ls' hP hS h' T hT X
  refine ⟨t, ?_, b⟩
  jvm_step X.here [X.here.top, ↓top_set X.here.top, hx, hb, hd, e', Value.isRef]
  exact a
theorem sj_astore {i : Nat} {x : Nat} (hd : decode (sj_cc M) pc = .ok (.astore i, 2)) (hn : i < sj_nL M) (k : sj_J G d M R (pc + 2) (L.set i (.ref x)) σ rest) : sj_J G d M R pc L σ (.ref x :: rest) := by
  intro p e s m args below meth c ok C H locs ls hP hS hl
  obtain ⟨ls', e', h'⟩ := sj_lh_set (v := .ref x) hl hn rfl
  have hx := C.1
  have hb := C.2.1
  intro T hT X
  obtain ⟨t, a, b⟩ := k p e s m args below meth c ok C H locs ls' hP hS h' T hT X
  refine ⟨t, ?_, b⟩
  jvm_step X.here [X.here.top, ↓top_set X.here.top, hx, hb, hd, e', Value.isRef]
  exact a
theorem sj_iinc {i : Nat} {n : Int} {x v : Int32} (hd : decode (sj_cc M) pc = .ok (.iinc i n, 3)) (hn : i < sj_nL M) (hL : L[i]? = some (.int x)) (hv : x + Int32.ofInt n = v) (k : sj_J G d M R (pc + 3) (L.set i (.int v)) σ rest) : sj_J G d M R pc L σ rest := by
  subst hv
  intro p e s m args below meth c ok C H locs ls hP hS hl
  obtain ⟨ls', e', h'⟩ := sj_lh_set (v := .int (x + Int32.ofInt n)) hl hn rfl
  have hg := hl.2.2.1 i _ hL (fun h => nomatch h)
  have hx := C.1
  have hb := C.2.1
  intro T hT X
  obtain ⟨t, a, b⟩ := k p e s m args below meth c ok C H locs ls' hP hS h' T hT X
  refine ⟨t, ?_, b⟩
  jvm_step X.here [X.here.top, ↓top_set X.here.top, hx, hb, hd, hg, e']
  exact a
theorem sj_goto {off : Int} {tgt : Nat} (hd : decode (sj_cc M) pc = .ok (.goto off, 3)) (ht : (pc : Int) + off = (tgt : Int)) (k : sj_J G d M R tgt L σ rest) : sj_J G d M R pc L σ rest :=
  fun p e s m args below meth c ok C H locs ls hP hS hl => lv_goto C.1 C.2.1 hd ht (k p e s m args below meth c ok C H locs ls hP hS hl)

theorem sj_icmp_eq {x y : Int32} {off : Int} {tgt : Nat} (hd : decode (sj_cc M) pc = .ok (.if_icmp .eq off, 3)) (ht : (pc : Int) + off = (tgt : Int)) (kt : x = y → sj_J G d M R tgt L σ rest) (kf : ¬ (x = y) → sj_J G d M R (pc + 3) L σ rest) : sj_J G d M R pc L σ (.int y :: .int x :: rest) :=
  fun p e s m args below meth c ok C H locs ls hP hS hl => lv_icmp_eq C.1 C.2.1 hd ht (fun h => kt h p e s m args below meth c ok C H locs ls hP hS hl) (fun h => kf h p e s m args below meth c ok C H locs ls hP hS hl)
theorem sj_if_eq {x : Int32} {off : Int} {tgt : Nat} (hd : decode (sj_cc M) pc = .ok (.ifCond .eq off, 3)) (ht : (pc : Int) + off = (tgt : Int)) (kt : x = 0 → sj_J G d M R tgt L σ rest) (kf : ¬ (x = 0) → sj_J G d M R (pc + 3) L σ rest) : sj_J G d M R pc L σ (.int x :: rest) :=
  fun p e s m args below meth c ok C H locs ls hP hS hl => lv_if_eq C.1 C.2.1 hd ht (fun h => kt h p e s m args below meth c ok C H locs ls hP hS hl) (fun h => kf h p e s m args below meth c ok C H locs ls hP hS hl)
theorem sj_icmp_ne {x y : Int32} {off : Int} {tgt : Nat} (hd : decode (sj_cc M) pc = .ok (.if_icmp .ne off, 3)) (ht : (pc : Int) + off = (tgt : Int)) (kt : ¬ x = y → sj_J G d M R tgt L σ rest) (kf : x = y → sj_J G d M R (pc + 3) L σ rest) : sj_J G d M R pc L σ (.int y :: .int x :: rest) :=
  fun p e s m args below meth c ok C H locs ls hP hS hl => lv_icmp_ne C.1 C.2.1 hd ht (fun h => kt h p e s m args below meth c ok C H locs ls hP hS hl) (fun h => kf h p e s m args below meth c ok C H locs ls hP hS hl)
theorem sj_if_ne {x : Int32} {off : Int} {tgt : Nat} (hd : decode (sj_cc M) pc = .ok (.ifCond .ne off, 3)) (ht : (pc : Int) + off = (tgt : Int)) (kt : ¬ x = 0 → sj_J G d M R tgt L σ rest) (kf : x = 0 → sj_J G d M R (pc + 3) L σ rest) : sj_J G d M R pc L σ (.int x :: rest) :=
  fun p e s m args below meth c ok C H locs ls hP hS hl => lv_if_ne C.1 C.2.1 hd ht (fun h => kt h p e s m args below meth c ok C H locs ls hP hS hl) (fun h => kf h p e s m args below meth c ok C H locs ls hP hS hl)
theorem sj_icmp_lt {x y : Int32} {off : Int} {tgt : Nat} (hd : decode (sj_cc M) pc = .ok (.if_icmp .lt off, 3)) (ht : (pc : Int) + off = (tgt : Int)) (kt : x < y → sj_J G d M R tgt L σ rest) (kf : ¬ (x < y) → sj_J G d M R (pc + 3) L σ rest) : sj_J G d M R pc L σ (.int y :: .int x :: rest) :=
  fun p e s m args below meth c ok C H locs ls hP hS hl => lv_icmp_lt C.1 C.2.1 hd ht (fun h => kt h p e s m args below meth c ok C H locs ls hP hS hl) (fun h => kf h p e s m args below meth c ok C H locs ls hP hS hl)
theorem sj_if_lt {x : Int32} {off : Int} {tgt : Nat} (hd : decode (sj_cc M) pc = .ok (.ifCond .lt off, 3)) (ht : (pc : Int) + off = (tgt : Int)) (kt : x < 0 → sj_J G d M R tgt L σ rest) (kf : ¬ (x < 0) → sj_J G d M R (pc + 3) L σ rest) : sj_J G d M R pc L σ (.int x :: rest) :=
  fun p e s m args below meth c ok C H locs ls hP hS hl => lv_if_lt C.1 C.2.1 hd ht (fun h => kt h p e s m args below meth c ok C H locs ls hP hS hl) (fun h => kf h p e s m args below meth c ok C H locs ls hP hS hl)
theorem sj_icmp_ge {x y : Int32} {off : Int} {tgt : Nat} (hd : decode (sj_cc M) pc = .ok (.if_icmp .ge off, 3)) (ht : (pc : Int) + off = (tgt : Int)) (kt : y ≤ x → sj_J G d M R tgt L σ rest) (kf : ¬ (y ≤ x) → sj_J G d M R (pc + 3) L σ rest) : sj_J G d M R pc L σ (.int y :: .int x :: rest) :=
  fun p e s m args below meth c ok C H locs ls hP hS hl => lv_icmp_ge C.1 C.2.1 hd ht (fun h => kt h p e s m args below meth c ok C H locs ls hP hS hl) (fun h => kf h p e s m args below meth c ok C H locs ls hP hS hl)
theorem sj_if_ge {x : Int32} {off : Int} {tgt : Nat} (hd : decode (sj_cc M) pc = .ok (.ifCond .ge off, 3)) (ht : (pc : Int) + off = (tgt : Int)) (kt : 0 ≤ x → sj_J G d M R tgt L σ rest) (kf : ¬ (0 ≤ x) → sj_J G d M R (pc + 3) L σ rest) : sj_J G d M R pc L σ (.int x :: rest) :=
  fun p e s m args below meth c ok C H locs ls hP hS hl => lv_if_ge C.1 C.2.1 hd ht (fun h => kt h p e s m args below meth c ok C H locs ls hP hS hl) (fun h => kf h p e s m args below meth c ok C H locs ls hP hS hl)
theorem sj_icmp_gt {x y : Int32} {off : Int} {tgt : Nat} (hd : decode (sj_cc M) pc = .ok (.if_icmp .gt off, 3)) (ht : (pc : Int) + off = (tgt : Int)) (kt : y < x → sj_J G d M R tgt L σ rest) (kf : ¬ (y < x) → sj_J G d M R (pc + 3) L σ rest) : sj_J G d M R pc L σ (.int y :: .int x :: rest) :=
  fun p e s m args below meth c ok C H locs ls hP hS hl => lv_icmp_gt C.1 C.2.1 hd ht (fun h => kt h p e s m args below meth c ok C H locs ls hP hS hl) (fun h => kf h p e s m args below meth c ok C H locs ls hP hS hl)
theorem sj_if_gt {x : Int32} {off : Int} {tgt : Nat} (hd : decode (sj_cc M) pc = .ok (.ifCond .gt off, 3)) (ht : (pc : Int) + off = (tgt : Int)) (kt : 0 < x → sj_J G d M R tgt L σ rest) (kf : ¬ (0 < x) → sj_J G d M R (pc + 3) L σ rest) : sj_J G d M R pc L σ (.int x :: rest) :=
  fun p e s m args below meth c ok C H locs ls hP hS hl => lv_if_gt C.1 C.2.1 hd ht (fun h => kt h p e s m args below meth c ok C H locs ls hP hS hl) (fun h => kf h p e s m args below meth c ok C H locs ls hP hS hl)
theorem sj_icmp_le {x y : Int32} {off : Int} {tgt : Nat} (hd : decode (sj_cc M) pc = .ok (.if_icmp .le off, 3)) (ht : (pc : Int) + off = (tgt : Int)) (kt : x ≤ y → sj_J G d M R tgt L σ rest) (kf : ¬ (x ≤ y) → sj_J G d M R (pc + 3) L σ rest) : sj_J G d M R pc L σ (.int y :: .int x :: rest) :=
  fun p e s m args below meth c ok C H locs ls hP hS hl => lv_icmp_le C.1 C.2.1 hd ht (fun h => kt h p e s m args below meth c ok C H locs ls hP hS hl) (fun h => kf h p e s m args below meth c ok C H locs ls hP hS hl)
theorem sj_if_le {x : Int32} {off : Int} {tgt : Nat} (hd : decode (sj_cc M) pc = .ok (.ifCond .le off, 3)) (ht : (pc : Int) + off = (tgt : Int)) (kt : x ≤ 0 → sj_J G d M R tgt L σ rest) (kf : ¬ (x ≤ 0) → sj_J G d M R (pc + 3) L σ rest) : sj_J G d M R pc L σ (.int x :: rest) :=
  fun p e s m args below meth c ok C H locs ls hP hS hl => lv_if_le C.1 C.2.1 hd ht (fun h => kt h p e s m args below meth c ok C H locs ls hP hS hl) (fun h => kf h p e s m args below meth c ok C H locs ls hP hS hl)
/-- what a field's access needs, decided by program -/
def sj_fok (M : sj_M) (a k idx : Nat) : Bool := decide (a < sj_NA) && decide (sj_lk a ≤ 12) && (match vwCl[sj_lk a]? with
  | some q => decide (k < q.2.2) && decide (q.2.2 = sj_ln a) && decide (Cond.fieldLink (sj_own M) idx (q.2.1 k).1 (q.2.1 k).2.1 (q.2.1 k).2.2.1 ∈ sj_ws M)
  | none => false)
theorem sj_cls_in {ci : Nat} {q : vw_C} (h : vwCl[ci]? = some q) : ∀ w ∈ u_ws q.1 q.2.1 q.2.2, w ∈ sj_clw := by
  have hci : ci < 13 := (List.getElem?_eq_some_iff.mp h).1
  unfold sj_clw
  intro w hw
  rcases (by omega : ci = 0 ∨ ci = 1 ∨ ci = 2 ∨ ci = 3 ∨ ci = 4 ∨ ci = 5 ∨ ci = 6 ∨ ci = 7 ∨ ci = 8 ∨ ci = 9 ∨ ci = 10 ∨ ci = 11 ∨ ci = 12) with e | e | e | e | e | e | e | e | e | e | e | e | e <;> subst e <;> cases h <;> simp only [List.mem_append] <;> first | exact Or.inl hw | exact Or.inr (Or.inl hw) | exact Or.inr (Or.inr (Or.inl hw)) | exact Or.inr (Or.inr (Or.inr (Or.inl hw))) | exact Or.inr (Or.inr (Or.inr (Or.inr (Or.inl hw)))) | exact Or.inr (Or.inr (Or.inr (Or.inr (Or.inr (Or.inl hw))))) | exact Or.inr (Or.inr (Or.inr (Or.inr (Or.inr (Or.inr (Or.inl hw)))))) | exact Or.inr (Or.inr (Or.inr (Or.inr (Or.inr (Or.inr (Or.inr (Or.inl hw))))))) | exact Or.inr (Or.inr (Or.inr (Or.inr (Or.inr (Or.inr (Or.inr (Or.inr (Or.inl hw)))))))) | exact Or.inr (Or.inr (Or.inr (Or.inr (Or.inr (Or.inr (Or.inr (Or.inr (Or.inr (Or.inl hw))))))))) | exact Or.inr (Or.inr (Or.inr (Or.inr (Or.inr (Or.inr (Or.inr (Or.inr (Or.inr (Or.inr (Or.inl hw)))))))))) | exact Or.inr (Or.inr (Or.inr (Or.inr (Or.inr (Or.inr (Or.inr (Or.inr (Or.inr (Or.inr (Or.inr (Or.inl hw))))))))))) | exact Or.inr (Or.inr (Or.inr (Or.inr (Or.inr (Or.inr (Or.inr (Or.inr (Or.inr (Or.inr (Or.inr (Or.inr hw)))))))))))
def sj_ty (ci k : Nat) : FieldType := match vwCl[ci]? with
  | some q => (parseFieldDescriptor (q.2.1 k).2.2.1).getD .int
  | none => .int
theorem sj_cls_ty {ci : Nat} {q : vw_C} (h : vwCl[ci]? = some q) : ∀ k, k < q.2.2 → parseFieldDescriptor (q.2.1 k).2.2.1 = some (sj_ty ci k) := by
  have hci : ci < 13 := (List.getElem?_eq_some_iff.mp h).1
  have key : ∀ ci, ci < 13 → ∀ k, k < ((vwCl[ci]?).map (fun q => q.2.2)).getD 0 → ((vwCl[ci]?).bind (fun q => parseFieldDescriptor (q.2.1 k).2.2.1)) = some (sj_ty ci k) := by decide +kernel
  intro k hk
  have := key ci hci k (by rw [h]; exact hk)
  rw [h] at this
  exact this
theorem sj_cls_nm {ci : Nat} {q : vw_C} (h : vwCl[ci]? = some q) : ∀ a, a < q.2.2 → ∀ b, b < q.2.2 → a ≠ b → (q.2.1 a).2.1 ≠ (q.2.1 b).2.1 := by
  have hci : ci < 13 := (List.getElem?_eq_some_iff.mp h).1
  rcases (by omega : ci = 0 ∨ ci = 1 ∨ ci = 2 ∨ ci = 3 ∨ ci = 4 ∨ ci = 5 ∨ ci = 6 ∨ ci = 7 ∨ ci = 8 ∨ ci = 9 ∨ ci = 10 ∨ ci = 11 ∨ ci = 12) with e | e | e | e | e | e | e | e | e | e | e | e | e <;> subst e <;> cases h
  · exact nmX0
  · exact nmX1
  · exact nmX2
  · exact nmX3
  · exact nmX4
  · exact nmX5
  · exact nmX6
  · exact nmX7
  · exact nmX8
  · exact nmX9
  · exact nmX10
  · exact nmX11
  · exact nmL
theorem sj_clw_hts {G : sj_G} {s : State} {H : Heap} {args : Array Value} (h : sj_K G s H) : ∀ w ∈ sj_clw, w.before args s = true := fun w hw => by
  have g := List.all_eq_true.mp sj_clw_good w hw
  simp only [Bool.and_eq_true] at g
  exact va_Nw.use g.2 (h.2.2.2.2.1 w hw)
theorem sj_get {a k9 idx : Nat} {v : Value} (hd : decode (sj_cc M) pc = .ok (.getfield idx, 3)) (hf : sj_fok M a k9 idx = true) (hv : sj_fv (sj_ad G) σ a k9 = v) (k : sj_J G d M R (pc + 3) L σ (v :: rest)) : sj_J G d M R pc L σ (.ref (sj_ad G a) :: rest) := by
  intro p e s m args below meth c ok C H locs ls hP hS hl
  unfold sj_fok at hf
  simp only [Bool.and_eq_true, decide_eq_true_eq] at hf
  obtain ⟨⟨h1, h2⟩, h3⟩ := hf
  split at h3
  · rename_i q hq
    simp only [Bool.and_eq_true, decide_eq_true_eq] at h3
    obtain ⟨⟨h4, h5⟩, h6⟩ := h3
    exact va_get C.1 C.2.1 (own := sj_own M) (ref := (q.2.1 k9).1) (C := q.1) (T := q.2.1) (N := q.2.2) (sj_clw_hts C.2.2.2.2.2.2.2.2) (sj_cls_in hq) C.2.2.2.1 C.2.2.2.2.2.2.2.2.2.1 hP a (sj_wd_obj h1 h2) hq k9 h4 (C.2.2.2.2.1 _ h6) (fun x hx => hx) (v := v) (by rw [sj_fs_get (by rw [← h5]; exact h4), hv]) hd (k p e s m args below meth c ok C H locs ls hP hS hl)
  · cases h3
theorem sj_getO (hO : sj_ad G 70 = sj_ad G 0) {a k9 idx : Nat} (hd : decode (sj_cc M) pc = .ok (.getfield idx, 3)) (hf : sj_fok M a k9 idx = true) (hr : sj_rf a k9 = 70) (k : sj_J G d M R (pc + 3) L σ (.ref (sj_ad G 0) :: rest)) : sj_J G d M R pc L σ (.ref (sj_ad G a) :: rest) :=
  sj_get (v := .ref (sj_ad G 0)) hd hf (by unfold sj_fv; rw [hr, if_neg (by decide), hO]) k
theorem sj_put {a k9 idx : Nat} {x : Int32} (hd : decode (sj_cc M) pc = .ok (.putfield idx, 3)) (hf : sj_fok M a k9 idx = true) (hi : (match vwCl[sj_lk a]? with
    | some q => decide ((q.2.1 k9).2.2.1 = "I") && !(q.2.1 k9).2.2.2
    | none => false) = true) (hr : sj_rf a k9 = 0) (k : sj_J G d M R (pc + 3) L (sj_st σ a k9 x) rest) : sj_J G d M R pc L σ (.int x :: .ref (sj_ad G a) :: rest) := by
  intro p e s m args below meth c ok C H locs ls hP hS hl
  unfold sj_fok at hf
  simp only [Bool.and_eq_true, decide_eq_true_eq] at hf
  obtain ⟨⟨h1, h2⟩, h3⟩ := hf
  split at h3
  · rename_i q hq
    rw [hq] at hi
    simp only [Bool.and_eq_true, decide_eq_true_eq, Bool.not_eq_true'] at h3 hi
    obtain ⟨⟨h4, h5⟩, h6⟩ := h3
    refine va_put C.1 C.2.1 (own := sj_own M) (ref := (q.2.1 k9).1) (C := q.1) (T := q.2.1) (N := q.2.2) (sj_clw_hts C.2.2.2.2.2.2.2.2) (sj_cls_in hq) (sj_ty (sj_lk a)) (sj_cls_ty hq) (sj_cls_nm hq) C.2.2.2.1 C.2.2.2.2.2.2.2.2.2.1 hP (sj_wd_D ok σ) hS a (sj_wd_obj h1 h2) hq k9 h4 (C.2.2.2.2.1 _ h6) (fun x hx => hx) hi.2 (ty := .int) (v := .int x) (by rw [hi.1]; rfl) rfl rfl (by rw [show (sj_fs (sj_ad G) σ a).length = sj_ln a by simp [sj_fs], ← h5]; exact h4) hd (fun H1 locs1 hP1 hD1 hS1 => ?_)
    rw [sj_wd_ost h1 h2 hr] at hP1
    exact k p e s m args below meth c ok C H1 locs1 ls hP1 hS1 hl
  · cases h3
theorem sj_iald {a j : Nat} {i x : Int32} (hd : decode (sj_cc M) pc = .ok (.iaload, 1)) (hk : sj_lk a = 13) (ha : a < sj_NA) (hin : vp_in i (sj_ln a)) (hj : i.toNatClampNeg = j) (hx : σ a j = x) (k : sj_J G d M R (pc + 1) L σ (.int x :: rest)) : sj_J G d M R pc L σ (.int i :: .ref (sj_ad G a) :: rest) :=
  fun p e s m args below meth c ok C H locs ls hP hS hl => va_iald C.1 C.2.1 C.2.2.2.2.2.2.2.2.2.1 hP a 0 (sj_wd_arr ha (by omega)) (by rw [hk]; rfl) hin hd (by rw [hj, hx]; exact k p e s m args below meth c ok C H locs ls hP hS hl)
theorem sj_zald {a j : Nat} {i x : Int32} (hd : decode (sj_cc M) pc = .ok (.baload, 1)) (hk : sj_lk a = 14) (ha : a < sj_NA) (hin : vp_in i (sj_ln a)) (hj : i.toNatClampNeg = j) (hx : σ a j = x) (k : sj_J G d M R (pc + 1) L σ (.int x :: rest)) : sj_J G d M R pc L σ (.int i :: .ref (sj_ad G a) :: rest) :=
  fun p e s m args below meth c ok C H locs ls hP hS hl => va_zald C.1 C.2.1 C.2.2.2.2.2.2.2.2.2.1 hP a 1 (sj_wd_arr ha (by omega)) (by rw [hk]; rfl) hin hd (by rw [hj, hx]; exact k p e s m args below meth c ok C H locs ls hP hS hl)
theorem sj_cald {a j : Nat} {i x : Int32} (hd : decode (sj_cc M) pc = .ok (.caload, 1)) (hk : sj_lk a = 15) (ha : a < sj_NA) (hin : vp_in i (sj_ln a)) (hj : i.toNatClampNeg = j) (hx : σ a j = x) (k : sj_J G d M R (pc + 1) L σ (.int x :: rest)) : sj_J G d M R pc L σ (.int i :: .ref (sj_ad G a) :: rest) :=
  fun p e s m args below meth c ok C H locs ls hP hS hl => va_cald C.1 C.2.1 C.2.2.2.2.2.2.2.2.2.1 hP a 2 (sj_wd_arr ha (by omega)) (by rw [hk]; rfl) hin hd (by rw [hj, hx]; exact k p e s m args below meth c ok C H locs ls hP hS hl)
theorem sj_iast {a j : Nat} {i x : Int32} (hd : decode (sj_cc M) pc = .ok (.iastore, 1)) (hk : sj_lk a = 13) (ha : a < sj_NA) (hin : vp_in i (sj_ln a)) (hj : i.toNatClampNeg = j) (k : sj_J G d M R (pc + 1) L (sj_st σ a j x) rest) : sj_J G d M R pc L σ (.int x :: .int i :: .ref (sj_ad G a) :: rest) :=
  fun p e s m args below meth c ok C H locs ls hP hS hl => va_iast C.1 C.2.1 C.2.2.2.2.2.2.2.2.2.1 hP (sj_wd_D ok σ) hS a 0 (sj_wd_arr ha (by omega)) (by rw [hk]; rfl) hin hd (fun H1 locs1 hP1 hD1 hS1 => k p e s m args below meth c ok C H1 locs1 ls (by rw [hj, sj_wd_ast ha (by omega)] at hP1; exact hP1) hS1 hl)
theorem sj_zast {a j : Nat} {i x : Int32} (hd : decode (sj_cc M) pc = .ok (.bastore, 1)) (hk : sj_lk a = 14) (ha : a < sj_NA) (hin : vp_in i (sj_ln a)) (hj : i.toNatClampNeg = j) (hx : vp_nar .boolean x = x) (k : sj_J G d M R (pc + 1) L (sj_st σ a j x) rest) : sj_J G d M R pc L σ (.int x :: .int i :: .ref (sj_ad G a) :: rest) :=
  fun p e s m args below meth c ok C H locs ls hP hS hl => va_zast C.1 C.2.1 C.2.2.2.2.2.2.2.2.2.1 hP (sj_wd_D ok σ) hS a 1 (sj_wd_arr ha (by omega)) (by rw [hk]; rfl) hin hd (fun H1 locs1 hP1 hD1 hS1 => k p e s m args below meth c ok C H1 locs1 ls (by rw [hj, hx, sj_wd_ast ha (by omega)] at hP1; exact hP1) hS1 hl)
theorem sj_cast {a j : Nat} {i x : Int32} (hd : decode (sj_cc M) pc = .ok (.castore, 1)) (hk : sj_lk a = 15) (ha : a < sj_NA) (hin : vp_in i (sj_ln a)) (hj : i.toNatClampNeg = j) (hx : vp_nar .char x = x) (k : sj_J G d M R (pc + 1) L (sj_st σ a j x) rest) : sj_J G d M R pc L σ (.int x :: .int i :: .ref (sj_ad G a) :: rest) :=
  fun p e s m args below meth c ok C H locs ls hP hS hl => va_cast C.1 C.2.1 C.2.2.2.2.2.2.2.2.2.1 hP (sj_wd_D ok σ) hS a 2 (sj_wd_arr ha (by omega)) (by rw [hk]; rfl) hin hd (fun H1 locs1 hP1 hD1 hS1 => k p e s m args below meth c ok C H1 locs1 ls (by rw [hj, hx, sj_wd_ast ha (by omega)] at hP1; exact hP1) hS1 hl)
theorem sj_ret {ty : FieldType} {v : Int32} (hd : decode (sj_cc M) pc = .ok (.ireturn, 1)) (hr : sj_rt M = some ty) (hn : narrow ty (.int v) = .int v) : sj_J G d M (.ok v, σ) pc L σ [.int v] := by
  intro p e s m args below meth c ok C H locs ls hP hS hl
  refine vx_ret ?_
  refine W.zret C.1 C.2.1 (C.2.2.2.2.2.2.1.trans hr) hn (fun t ht hW => ?_) hS.2.2 hd C.2.2.2.2.2.1
  rw [hr]
  exact ⟨⟨v, (), rfl, rfl, by show va_P (sj_D G) vwCl (sj_wd G σ) t.heap; rw [ht]; exact hP⟩, hS.F ht⟩
theorem sj_vret (hd : decode (sj_cc M) pc = .ok (.return_, 1)) (hr : sj_rt M = none) : sj_J G d M (.ok 0, σ) pc L σ [] := by
  intro p e s m args below meth c ok C H locs ls hP hS hl
  refine vx_ret ?_
  refine W.vret C.1 C.2.1 (C.2.2.2.2.2.2.1.trans hr) (fun t ht hW => ?_) hS.2.2 hd C.2.2.2.2.2.1
  rw [hr]
  exact ⟨⟨(), rfl, rfl, by show va_P (sj_D G) vwCl (sj_wd G σ) t.heap; rw [ht]; exact hP⟩, hS.F ht⟩
end SJ

section SJC
variable {G : sj_G} {d : Nat} {M : sj_M} {R : sj_R} {pc : Nat} {L st rest : List Value} {σ : sj_S}
theorem sj_ldc {idx : Nat} {v : Int32} (hd : decode (sj_cc M) pc = .ok (.ldc idx, 2)) (hw : Cond.constant (sj_own M) idx v ∈ sj_ws M) (k : sj_J G d M R (pc + 2) L σ (.int v :: rest)) : sj_J G d M R pc L σ rest :=
  fun p e s m args below meth c ok C H locs ls hP hS hl => lv_ldc C.1 C.2.1 C.2.2.2.1 (C.2.2.2.2.1 _ hw) hd (k p e s m args below meth c ok C H locs ls hP hS hl)
theorem sj_ldcw {idx : Nat} {v : Int32} (hd : decode (sj_cc M) pc = .ok (.ldc_w idx, 3)) (hw : Cond.constant (sj_own M) idx v ∈ sj_ws M) (k : sj_J G d M R (pc + 3) L σ (.int v :: rest)) : sj_J G d M R pc L σ rest :=
  fun p e s m args below meth c ok C H locs ls hP hS hl => lv_ldcw C.1 C.2.1 C.2.2.2.1 (C.2.2.2.2.1 _ hw) hd (k p e s m args below meth c ok C H locs ls hP hS hl)
theorem sj_tableIn {dflt lo hi : Int} {offs : Array Int} {len : Nat} {x : Int32} {off : Int} {tgt : Nat} (hd : decode (sj_cc M) pc = .ok (.tableswitch dflt lo hi offs, len)) (h1 : ¬ x.toInt < lo) (h2 : ¬ hi < x.toInt) (ho : offs[(x.toInt - lo).toNat]? = some off) (ht : (pc : Int) + off = (tgt : Int)) (k : sj_J G d M R tgt L σ rest) : sj_J G d M R pc L σ (.int x :: rest) :=
  fun p e s m args below meth c ok C H locs ls hP hS hl => lv_tableIn C.1 C.2.1 hd h1 h2 ho ht (k p e s m args below meth c ok C H locs ls hP hS hl)
theorem sj_tableOut {dflt lo hi : Int} {offs : Array Int} {len : Nat} {x : Int32} {tgt : Nat} (hd : decode (sj_cc M) pc = .ok (.tableswitch dflt lo hi offs, len)) (h : x.toInt < lo ∨ hi < x.toInt) (ht : (pc : Int) + dflt = (tgt : Int)) (k : sj_J G d M R tgt L σ rest) : sj_J G d M R pc L σ (.int x :: rest) :=
  fun p e s m args below meth c ok C H locs ls hP hS hl => lv_tableOut C.1 C.2.1 hd h ht (k p e s m args below meth c ok C H locs ls hP hS hl)
theorem sj_mmax {idx : Nat} {x y : Int32} (hd : decode (sj_cc M) pc = .ok (.invokestatic idx, 3)) (hw : [Cond.methodLink (sj_own M) idx Lib.Math.max.name, Cond.static Lib.Math.max.name, Cond.initialized "java/lang/Math", Cond.code Lib.Math.max.name Lib.Math.max.code 2 (some .int)].all (fun w => decide (w ∈ sj_ws M)) = true) (h1 : 1 ≤ d) (hrs : (rest.map fun v => v.category).sum ≤ 8) (k : sj_J G d M R (pc + 3) L σ (.int (if x < y then y else x) :: rest)) : sj_J G d M R pc L σ (.int y :: .int x :: rest) := by
  intro p e s m args below meth c ok C H locs ls hP hS hl
  simp only [List.all_cons, List.all_nil, Bool.and_true, Bool.and_eq_true, decide_eq_true_eq] at hw
  refine va_mmax C.1 C.2.1 (C.2.2.1.trans hl.1.symm) C.2.2.2.1 (C.2.2.2.2.1 _ hw.1) (C.2.2.2.2.1 _ hw.2.1) (C.2.2.2.2.1 _ hw.2.2.1) (C.2.2.2.2.1 _ hw.2.2.2) h1 ?_ (Nat.zero_le _) (Nat.zero_le _) hd (k p e s m args below meth c ok C H locs ls hP hS hl)
  show _ ≤ 64 * d
  omega
theorem sj_mmin {idx : Nat} {x y : Int32} (hd : decode (sj_cc M) pc = .ok (.invokestatic idx, 3)) (hw : [Cond.methodLink (sj_own M) idx Lib.Math.min.name, Cond.static Lib.Math.min.name, Cond.initialized "java/lang/Math", Cond.code Lib.Math.min.name Lib.Math.min.code 2 (some .int)].all (fun w => decide (w ∈ sj_ws M)) = true) (h1 : 1 ≤ d) (hrs : (rest.map fun v => v.category).sum ≤ 8) (k : sj_J G d M R (pc + 3) L σ (.int (if y < x then y else x) :: rest)) : sj_J G d M R pc L σ (.int y :: .int x :: rest) := by
  intro p e s m args below meth c ok C H locs ls hP hS hl
  simp only [List.all_cons, List.all_nil, Bool.and_true, Bool.and_eq_true, decide_eq_true_eq] at hw
  refine va_mmin C.1 C.2.1 (C.2.2.1.trans hl.1.symm) C.2.2.2.1 (C.2.2.2.2.1 _ hw.1) (C.2.2.2.2.1 _ hw.2.1) (C.2.2.2.2.1 _ hw.2.2.1) (C.2.2.2.2.1 _ hw.2.2.2) h1 ?_ (Nat.zero_le _) (Nat.zero_le _) hd (k p e s m args below meth c ok C H locs ls hP hS hl)
  show _ ≤ 64 * d
  omega
theorem sj_copy {idx a0 a sp' dp' n' : Nat} {sp dp n : Int32} (hd : decode (sj_cc M) pc = .ok (.invokestatic idx, 3)) (hw : [Cond.methodLink (sj_own M) idx arraycopyName, Cond.native arraycopyName, Cond.static arraycopyName, Cond.initialized "java/lang/System"].all (fun w => decide (w ∈ sj_ws M)) = true) (h1 : 2 ≤ d) (hrs : (rest.map fun v => v.category).sum ≤ 8) (hk0 : sj_lk a0 = 13) (ha0 : a0 < sj_NA) (hk : sj_lk a = 13) (ha : a < sj_NA)
    (hsp : ¬ sp < 0) (hdp : ¬ dp < 0) (hn : ¬ n < 0) (h4 : sp' + n' ≤ sj_ln a0) (h5 : dp' + n' ≤ sj_ln a) (e1 : sp.toNatClampNeg = sp') (e2 : dp.toNatClampNeg = dp') (e3 : n.toNatClampNeg = n') (k : sj_J G d M R (pc + 3) L (sj_up σ a (va_cpy (σ a0) (σ a) sp' dp' n')) rest) : sj_J G d M R pc L σ (.int n :: .int dp :: .ref (sj_ad G a) :: .int sp :: .ref (sj_ad G a0) :: rest) := by
  subst e1 e2 e3
  intro p e s m args below meth c ok C H locs ls hP hS hl
  simp only [List.all_cons, List.all_nil, Bool.and_true, Bool.and_eq_true, decide_eq_true_eq] at hw
  refine va_copyi C.1 C.2.1 (C.2.2.1.trans hl.1.symm) C.2.2.2.1 (C.2.2.2.2.1 _ hw.1) (C.2.2.2.2.1 _ hw.2.1) (C.2.2.2.2.1 _ hw.2.2.1) (C.2.2.2.2.1 _ hw.2.2.2) C.2.2.2.2.2.2.2.2.2.1 hP (sj_wd_D ok σ) hS a0 a 0 0 (ty := .int) (sj_wd_arr ha0 (by omega)) (sj_wd_arr ha (by omega)) (by rw [hk0]; rfl) (by rw [hk]; rfl) rfl hsp hdp hn h4 h5 (fun _ _ => rfl) (Nat.le_trans (by decide) h1) ?_ hd (fun H1 locs1 hP1 hD1 hS1 => k p e s m args below meth c ok C H1 locs1 ls (by rw [sj_wd_ast ha (by omega)] at hP1; exact hP1) hS1 hl)
  have e9 : nativeFrameWords "java/lang/System" "arraycopy" 5 + 11 ≤ 64 := by decide +kernel
  show _ ≤ 64 * d
  omega
/-- a method's head: what a call of it needs, by program -/
def sj_hd (M' : sj_M) (n : Nat) : Bool := decide ((sj_y M').cls = sj_own M') && decide ((sj_y M').cls ≠ "java/lang/invoke/MethodHandle") && decide ((sj_y M').cls ≠ "java/lang/invoke/VarHandle") && decide ((parseMethodDescriptor (sj_y M').desc).map (fun d => d.parameters.length) = some n) && decide (sj_nL M' ≤ 45)
theorem sj_blind {av : List Value} : FrameBlind (va_Pc av (fun U => sj_B G σ U ∧ sj_K G U U.heap)) := fun a U g mk q => ⟨q.1, q.2.1, sj_K_calling q.2.2⟩
theorem sj_runV {M' : sj_M} {d' idx b : Nat} {As : List Value} {R1 : sj_R} {ws' : List Cond} {p : Program} {e : Env} {s : State} {m : MethodId} {args : Array Value} {below : List Frame} {meth : Method} {c : Code} {H : Heap} {locs : List Loc} {ls : Array Slot} (ok : sj_ok G) (C : sj_Cx G M p s m args meth c) (hP : va_P (sj_D G) vwCl (sj_wd G σ) H) (hS : va_S (sj_A G) s.heap H locs) (hl : sj_lh ls (sj_nL M) L)
    (hd : decode (sj_cc M) pc = .ok (.invokevirtual idx, 3)) (hg : GoodIn (sj_ws M) (wsV (sj_own M) idx (sj_own M') (sj_y M') (sj_ws M'))) (hw : sj_ws M' = Cond.code (sj_y M') (sj_cc M') (sj_nL M') (sj_rt M') :: ws') (hh : sj_hd M' As.length = true) (hb : b < sj_NA) (hbk : sj_lk b ≤ 12) (hbc : (vwCl[sj_lk b]?).map (fun q => q.1) = some (sj_own M')) (hrs : (rest.map fun v => v.category).sum ≤ 8) (hdd : d' + 1 ≤ d)
    (hc : sj_C G d' M' (.ref (sj_ad G b) :: As) σ R1) (hmc : sj_mc R1 ≤ sj_mc R ∧ sj_ms R1 ≤ sj_ms R) : vx_Run p (sj_l G) e (sj_rm d R) s m args below meth c H locs 0 0 (sj_mc R1) (sj_ms R1) (F0 m pc ls (As.reverse ++ .ref (sj_ad G b) :: rest)) rest (sj_Q G (sj_rt M') R1 (Value.ref (sj_ad G b) :: As).toArray) (sj_X G R1) (sj_A G) := by
  unfold sj_hd at hh
  simp only [Bool.and_eq_true, decide_eq_true_eq] at hh
  obtain ⟨q, hq, hq1⟩ : ∃ q, vwCl[sj_lk b]? = some q ∧ q.1 = sj_own M' := by
    cases hv : vwCl[sj_lk b]? with
    | none => rw [hv] at hbc; cases hbc
    | some q => rw [hv] at hbc; exact ⟨q, rfl, Option.some.inj hbc⟩
  refine vx_runV (rest := rest) ⟨C.1, C.2.1, C.2.2.1, C.2.2.2.1, C.2.2.2.2.1⟩ hc (cwV As.length C.2.2.2.2.1 hg hw rfl rfl ⟨hh.1.1.1.1, hh.1.1.1.2, hh.1.1.2, hh.1.2⟩ ⟨?_, ?_⟩) ⟨sj_blind, ?_, fun U hU hW => ⟨rfl, by unfold sj_B; rw [hU]; exact hP, sj_K_moved ok hW hS hU C.2.2.2.2.2.2.2.2⟩⟩ rfl rfl hl.1 rfl (lv_room hrs) hd ⟨?_, ?_⟩
  · exact hdd
  · show 8 + (sj_nL M' + 11) + 64 * d' ≤ 64 * d
    have := hh.2
    omega
  · have h9 := va_recv C.2.2.2.2.2.2.2.2.2.1 hP hq (sj_wd_obj hb hbk)
    rw [hq1] at h9
    exact h9
  · show 0 + sj_mc R1 ≤ sj_mc R
    omega
  · show 0 + sj_ms R1 ≤ sj_ms R
    omega
theorem sj_runS {M' : sj_M} {d' idx : Nat} {As : List Value} {R1 : sj_R} {ws' : List Cond} {p : Program} {e : Env} {s : State} {m : MethodId} {args : Array Value} {below : List Frame} {meth : Method} {c : Code} {H : Heap} {locs : List Loc} {ls : Array Slot} (ok : sj_ok G) (C : sj_Cx G M p s m args meth c) (hP : va_P (sj_D G) vwCl (sj_wd G σ) H) (hS : va_S (sj_A G) s.heap H locs) (hl : sj_lh ls (sj_nL M) L)
    (hd : decode (sj_cc M) pc = .ok (.invokestatic idx, 3)) (hg : GoodIn (sj_ws M) (va_wsS (sj_own M) idx (sj_y M') (sj_ws M'))) (hw : sj_ws M' = Cond.code (sj_y M') (sj_cc M') (sj_nL M') (sj_rt M') :: ws') (hh : sj_hd M' As.length = true) (hrs : (rest.map fun v => v.category).sum ≤ 8) (hdd : d' + 1 ≤ d)
    (hc : sj_C G d' M' As σ R1) (hmc : sj_mc R1 ≤ sj_mc R ∧ sj_ms R1 ≤ sj_ms R) : vx_Run p (sj_l G) e (sj_rm d R) s m args below meth c H locs 0 0 (sj_mc R1) (sj_ms R1) (F0 m pc ls (As.reverse ++ rest)) rest (sj_Q G (sj_rt M') R1 As.toArray) (sj_X G R1) (sj_A G) := by
  unfold sj_hd at hh
  simp only [Bool.and_eq_true, decide_eq_true_eq] at hh
  refine vx_runS (rest := rest) ⟨C.1, C.2.1, C.2.2.1, C.2.2.2.1, C.2.2.2.2.1⟩ hc (va_cwS As.length C.2.2.2.2.1 hg hw rfl rfl ⟨hh.1.1.1.2, hh.1.1.2, hh.1.2⟩ ⟨?_, ?_⟩) ⟨sj_blind, fun U hU hW => ⟨rfl, by unfold sj_B; rw [hU]; exact hP, sj_K_moved ok hW hS hU C.2.2.2.2.2.2.2.2⟩⟩ rfl rfl hl.1 rfl (lv_room hrs) hd ⟨?_, ?_⟩
  · exact hdd
  · show 8 + (sj_nL M' + 11) + 64 * d' ≤ 64 * d
    have := hh.2
    omega
  · show 0 + sj_mc R1 ≤ sj_mc R
    omega
  · show 0 + sj_ms R1 ≤ sj_ms R
    omega

theorem sj_callVi {M' : sj_M} {d' idx b : Nat} {As : List Value} {ws' : List Cond} {v : Int32} {σ1 : sj_S} {ty : FieldType} (hd : decode (sj_cc M) pc = .ok (.invokevirtual idx, 3)) (hg : GoodIn (sj_ws M) (wsV (sj_own M) idx (sj_own M') (sj_y M') (sj_ws M'))) (hw : sj_ws M' = Cond.code (sj_y M') (sj_cc M') (sj_nL M') (sj_rt M') :: ws') (hh : sj_hd M' As.length = true) (hb : b < sj_NA) (hbk : sj_lk b ≤ 12) (hbc : (vwCl[sj_lk b]?).map (fun q => q.1) = some (sj_own M')) (hrs : (rest.map fun v => v.category).sum ≤ 8) (hdd : d' + 1 ≤ d) (hrt : sj_rt M' = some ty) (hc : sj_C G d' M' (.ref (sj_ad G b) :: As) σ (.ok v, σ1)) (k : sj_J G d M R (pc + 3) L σ1 (.int v :: rest)) : sj_J G d M R pc L σ (As.reverse ++ .ref (sj_ad G b) :: rest) := by
  intro p e s m args below meth c ok C H locs ls hP hS hl
  have hr := sj_runV ok C hP hS hl hd hg hw hh hb hbk hbc hrs hdd hc (e := e) (below := below) (R := R) ⟨Nat.zero_le _, Nat.zero_le _⟩
  rw [hrt] at hr
  refine vx_calli (a := (Value.ref (sj_ad G b) :: As).toArray) hr hS (fun q _ h => h) (fun q h => h) (fun q _ h => h) (fun E ce q9 u t H1 locs1 ht hvm hpx hBX hz hk hS1 hce hcv hcl => ?_) (fun r u t H1 locs1 ht hvm hpost hB hz hk hS1 => ?_)
  · obtain ⟨k9, h9, -⟩ := hBX
    cases h9
  · cases hpost
    exact k p e s m args below meth c ok C H1 locs1 ls (by rw [← ht]; exact hB) hS1 hl
theorem sj_callVv {M' : sj_M} {d' idx b : Nat} {As : List Value} {ws' : List Cond} {σ1 : sj_S} (hd : decode (sj_cc M) pc = .ok (.invokevirtual idx, 3)) (hg : GoodIn (sj_ws M) (wsV (sj_own M) idx (sj_own M') (sj_y M') (sj_ws M'))) (hw : sj_ws M' = Cond.code (sj_y M') (sj_cc M') (sj_nL M') (sj_rt M') :: ws') (hh : sj_hd M' As.length = true) (hb : b < sj_NA) (hbk : sj_lk b ≤ 12) (hbc : (vwCl[sj_lk b]?).map (fun q => q.1) = some (sj_own M')) (hrs : (rest.map fun v => v.category).sum ≤ 8) (hdd : d' + 1 ≤ d) (hrt : sj_rt M' = none) (hc : sj_C G d' M' (.ref (sj_ad G b) :: As) σ (.ok 0, σ1)) (k : sj_J G d M R (pc + 3) L σ1 rest) : sj_J G d M R pc L σ (As.reverse ++ .ref (sj_ad G b) :: rest) := by
  intro p e s m args below meth c ok C H locs ls hP hS hl
  have hr := sj_runV ok C hP hS hl hd hg hw hh hb hbk hbc hrs hdd hc (e := e) (below := below) (R := R) ⟨Nat.zero_le _, Nat.zero_le _⟩
  rw [hrt] at hr
  refine vx_callv (a := (Value.ref (sj_ad G b) :: As).toArray) hr hS (fun q _ h => h) (fun q h => h) (fun q _ h => h) (fun E ce q9 u t H1 locs1 ht hvm hpx hBX hz hk hS1 hce hcv hcl => ?_) (fun u t H1 locs1 ht hvm hpost hB hz hk hS1 => ?_)
  · obtain ⟨k9, h9, -⟩ := hBX
    cases h9
  · exact k p e s m args below meth c ok C H1 locs1 ls (by rw [← ht]; exact hB) hS1 hl
theorem sj_callVx {M' : sj_M} {d' idx b : Nat} {As : List Value} {ws' : List Cond} {k9 : Nat} {σ1 : sj_S} (hd : decode (sj_cc M) pc = .ok (.invokevirtual idx, 3)) (hg : GoodIn (sj_ws M) (wsV (sj_own M) idx (sj_own M') (sj_y M') (sj_ws M'))) (hw : sj_ws M' = Cond.code (sj_y M') (sj_cc M') (sj_nL M') (sj_rt M') :: ws') (hh : sj_hd M' As.length = true) (hb : b < sj_NA) (hbk : sj_lk b ≤ 12) (hbc : (vwCl[sj_lk b]?).map (fun q => q.1) = some (sj_own M')) (hrs : (rest.map fun v => v.category).sum ≤ 8) (hdd : d' + 1 ≤ d) (hc : sj_C G d' M' (.ref (sj_ad G b) :: As) σ (.error k9, σ1)) : sj_J G d M (.error k9, σ1) pc L σ (As.reverse ++ .ref (sj_ad G b) :: rest) := by
  intro p e s m args below meth c ok C H locs ls hP hS hl
  have hr := sj_runV ok C hP hS hl hd hg hw hh hb hbk hbc hrs hdd hc (e := e) (below := below) (R := (.error k9, σ1)) ⟨Nat.le_refl _, Nat.le_refl _⟩
  have kx : ∀ (E : String) (ce : Cell) (q9 : Addr) (u : Unit) (t : State) (H1 : Heap) (locs1 : List Loc), t.heap = H1 → s.vm.Alike t.vm → True → (∃ k, (Except.error k9 : Except Nat Int32) = .error k ∧ E = sj_ex k ∧ sj_B G σ1 t) → H.size ≤ H1.size → (∀ q : Nat, q < H.size → ¬ sj_A G q → H1[q]? = H[q]?) → va_S (sj_A G) s.heap H1 locs1 → H1[q9]? = some ce → ce.vm = .none → s.vm.findClass E = some ce.cls → vx_W p (sj_l G) e (sj_rm d (.error k9, σ1)) s m args below meth c H1 locs1 (0 + sj_mc (.error k9, σ1)) (0 + sj_ms (.error k9, σ1)) (vx_MQ below (sj_Q G (sj_rt M) (.error k9, σ1)) (sj_X G (.error k9, σ1)) args s (sj_mc (.error k9, σ1)) (sj_ms (.error k9, σ1)) (sj_A G)) (F0 m pc ls rest) q9 := by
    intro E ce q9 u t H1 locs1 ht hvm hpx hBX hz hk hS1 hce hcv hcl
    refine vx_out (fun x hx => (C.2.2.2.2.2.2.2.1 x hx).elim) C.2.2.2.2.2.1 hce hcv hcl (fun t1 ht1 hvm1 => ?_) hS1.2.2 (by rw [Nat.zero_add]; exact Nat.le_refl _) (by rw [Nat.zero_add]; exact Nat.le_refl _)
    obtain ⟨k, e1, e2, e3⟩ := hBX
    exact ⟨(), trivial, ⟨k, e1, e2, by unfold sj_B at e3 ⊢; rw [ht1, ← ht]; exact e3⟩, hS1.F ht1⟩
  cases hrt : sj_rt M' with
  | none =>
    rw [hrt] at hr
    refine vx_callv (a := (Value.ref (sj_ad G b) :: As).toArray) hr hS (fun q _ h => h) (fun q h => h) (fun q _ h => h) kx (fun u t H1 locs1 ht hvm hpost hB hz hk hS1 => ?_)
    cases hpost
  | some ty =>
    rw [hrt] at hr
    refine vx_calli (a := (Value.ref (sj_ad G b) :: As).toArray) hr hS (fun q _ h => h) (fun q h => h) (fun q _ h => h) kx (fun r u t H1 locs1 ht hvm hpost hB hz hk hS1 => ?_)
    cases hpost
theorem sj_callSi {M' : sj_M} {d' idx : Nat} {As : List Value} {ws' : List Cond} {v : Int32} {σ1 : sj_S} {ty : FieldType} (hd : decode (sj_cc M) pc = .ok (.invokestatic idx, 3)) (hg : GoodIn (sj_ws M) (va_wsS (sj_own M) idx (sj_y M') (sj_ws M'))) (hw : sj_ws M' = Cond.code (sj_y M') (sj_cc M') (sj_nL M') (sj_rt M') :: ws') (hh : sj_hd M' As.length = true) (hrs : (rest.map fun v => v.category).sum ≤ 8) (hdd : d' + 1 ≤ d) (hrt : sj_rt M' = some ty) (hc : sj_C G d' M' As σ (.ok v, σ1)) (k : sj_J G d M R (pc + 3) L σ1 (.int v :: rest)) : sj_J G d M R pc L σ (As.reverse ++ rest) := by
  intro p e s m args below meth c ok C H locs ls hP hS hl
  have hr := sj_runS ok C hP hS hl hd hg hw hh hrs hdd hc (e := e) (below := below) (R := R) ⟨Nat.zero_le _, Nat.zero_le _⟩
  rw [hrt] at hr
  refine vx_calli (a := As.toArray) hr hS (fun q _ h => h) (fun q h => h) (fun q _ h => h) (fun E ce q9 u t H1 locs1 ht hvm hpx hBX hz hk hS1 hce hcv hcl => ?_) (fun r u t H1 locs1 ht hvm hpost hB hz hk hS1 => ?_)
  · obtain ⟨k9, h9, -⟩ := hBX
    cases h9
  · cases hpost
    exact k p e s m args below meth c ok C H1 locs1 ls (by rw [← ht]; exact hB) hS1 hl
theorem sj_callSv {M' : sj_M} {d' idx : Nat} {As : List Value} {ws' : List Cond} {σ1 : sj_S} (hd : decode (sj_cc M) pc = .ok (.invokestatic idx, 3)) (hg : GoodIn (sj_ws M) (va_wsS (sj_own M) idx (sj_y M') (sj_ws M'))) (hw : sj_ws M' = Cond.code (sj_y M') (sj_cc M') (sj_nL M') (sj_rt M') :: ws') (hh : sj_hd M' As.length = true) (hrs : (rest.map fun v => v.category).sum ≤ 8) (hdd : d' + 1 ≤ d) (hrt : sj_rt M' = none) (hc : sj_C G d' M' As σ (.ok 0, σ1)) (k : sj_J G d M R (pc + 3) L σ1 rest) : sj_J G d M R pc L σ (As.reverse ++ rest) := by
  intro p e s m args below meth c ok C H locs ls hP hS hl
  have hr := sj_runS ok C hP hS hl hd hg hw hh hrs hdd hc (e := e) (below := below) (R := R) ⟨Nat.zero_le _, Nat.zero_le _⟩
  rw [hrt] at hr
  refine vx_callv (a := As.toArray) hr hS (fun q _ h => h) (fun q h => h) (fun q _ h => h) (fun E ce q9 u t H1 locs1 ht hvm hpx hBX hz hk hS1 hce hcv hcl => ?_) (fun u t H1 locs1 ht hvm hpost hB hz hk hS1 => ?_)
  · obtain ⟨k9, h9, -⟩ := hBX
    cases h9
  · exact k p e s m args below meth c ok C H1 locs1 ls (by rw [← ht]; exact hB) hS1 hl
theorem sj_callSx {M' : sj_M} {d' idx : Nat} {As : List Value} {ws' : List Cond} {k9 : Nat} {σ1 : sj_S} (hd : decode (sj_cc M) pc = .ok (.invokestatic idx, 3)) (hg : GoodIn (sj_ws M) (va_wsS (sj_own M) idx (sj_y M') (sj_ws M'))) (hw : sj_ws M' = Cond.code (sj_y M') (sj_cc M') (sj_nL M') (sj_rt M') :: ws') (hh : sj_hd M' As.length = true) (hrs : (rest.map fun v => v.category).sum ≤ 8) (hdd : d' + 1 ≤ d) (hc : sj_C G d' M' As σ (.error k9, σ1)) : sj_J G d M (.error k9, σ1) pc L σ (As.reverse ++ rest) := by
  intro p e s m args below meth c ok C H locs ls hP hS hl
  have hr := sj_runS ok C hP hS hl hd hg hw hh hrs hdd hc (e := e) (below := below) (R := (.error k9, σ1)) ⟨Nat.le_refl _, Nat.le_refl _⟩
  have kx : ∀ (E : String) (ce : Cell) (q9 : Addr) (u : Unit) (t : State) (H1 : Heap) (locs1 : List Loc), t.heap = H1 → s.vm.Alike t.vm → True → (∃ k, (Except.error k9 : Except Nat Int32) = .error k ∧ E = sj_ex k ∧ sj_B G σ1 t) → H.size ≤ H1.size → (∀ q : Nat, q < H.size → ¬ sj_A G q → H1[q]? = H[q]?) → va_S (sj_A G) s.heap H1 locs1 → H1[q9]? = some ce → ce.vm = .none → s.vm.findClass E = some ce.cls → vx_W p (sj_l G) e (sj_rm d (.error k9, σ1)) s m args below meth c H1 locs1 (0 + sj_mc (.error k9, σ1)) (0 + sj_ms (.error k9, σ1)) (vx_MQ below (sj_Q G (sj_rt M) (.error k9, σ1)) (sj_X G (.error k9, σ1)) args s (sj_mc (.error k9, σ1)) (sj_ms (.error k9, σ1)) (sj_A G)) (F0 m pc ls rest) q9 := by
    intro E ce q9 u t H1 locs1 ht hvm hpx hBX hz hk hS1 hce hcv hcl
    refine vx_out (fun x hx => (C.2.2.2.2.2.2.2.1 x hx).elim) C.2.2.2.2.2.1 hce hcv hcl (fun t1 ht1 hvm1 => ?_) hS1.2.2 (by rw [Nat.zero_add]; exact Nat.le_refl _) (by rw [Nat.zero_add]; exact Nat.le_refl _)
    obtain ⟨k, e1, e2, e3⟩ := hBX
    exact ⟨(), trivial, ⟨k, e1, e2, by unfold sj_B at e3 ⊢; rw [ht1, ← ht]; exact e3⟩, hS1.F ht1⟩
  cases hrt : sj_rt M' with
  | none =>
    rw [hrt] at hr
    refine vx_callv (a := As.toArray) hr hS (fun q _ h => h) (fun q h => h) (fun q _ h => h) kx (fun u t H1 locs1 ht hvm hpost hB hz hk hS1 => ?_)
    cases hpost
  | some ty =>
    rw [hrt] at hr
    refine vx_calli (a := As.toArray) hr hS (fun q _ h => h) (fun q h => h) (fun q _ h => h) kx (fun r u t H1 locs1 ht hvm hpost hB hz hk hS1 => ?_)
    cases hpost
theorem sj_throwS {k9 ik is ic : Nat} {text : String} (d0 : decode (sj_cc M) pc = .ok (.new ik, 3)) (d3 : decode (sj_cc M) (pc + 3) = .ok (.dup, 1)) (d4 : decode (sj_cc M) (pc + 4) = .ok (.ldc is, 2)) (d6 : decode (sj_cc M) (pc + 6) = .ok (.invokespecial ic, 3)) (d9 : decode (sj_cc M) (pc + 9) = .ok (.athrow, 1)) (ho : sj_own M = RX11) (hcl : Bundle.fit (sj_ex k9) = true)
    (hw : (Cond.classLink RX11 ik (sj_ex k9) :: Cond.initialized (sj_ex k9) :: (vx_atS RX11 ic (sj_ex k9) sj_nms).filter goodWord).all (fun w => decide (w ∈ sj_ws M)) = true) (hb : ((vx_atS RX11 ic (sj_ex k9) sj_nms).filter (fun w => !goodWord w)).all (fun w => decide (w ∈ sj_bw)) = true) (hgood : (Cond.classLink RX11 ik (sj_ex k9) :: Cond.initialized (sj_ex k9) :: vx_atS RX11 ic (sj_ex k9) sj_nms).all vx_ot = true)
    (hstr : (is, text) ∈ sj_strs) (hd8 : 8 ≤ d) (hrs : (rest.map fun v => v.category).sum ≤ 8) : sj_J G d M (.error k9, σ) pc L σ rest := by
  intro p e s m args below meth c ok C H locs ls hP hS hl
  have hw := List.all_eq_true.mp hw
  simp only [decide_eq_true_eq] at hw
  have hb := List.all_eq_true.mp hb
  simp only [decide_eq_true_eq] at hb
  have hgood := List.all_eq_true.mp hgood
  obtain ⟨sa, hsa⟩ := C.2.2.2.2.2.2.2.2.2.2.2.2.2.2.1 (is, text) hstr
  have hown := C.2.2.2.1
  rw [ho] at hown
  have hK := C.2.2.2.2.2.2.2.2
  refine vx_throwS (own := RX11) (cls := sj_ex k9) (text := text) (names := sj_nms) (A := sj_A G) C.1 C.2.1 ok.1 hown hcl (by decide +kernel) (C.2.2.2.2.1 _ (hw _ List.mem_cons_self)) (C.2.2.2.2.1 _ (hw _ (List.mem_cons_of_mem _ List.mem_cons_self))) hsa
    (vx_hat (B := sj_bw) (fun w h => C.2.2.2.2.1 _ (hw w (List.mem_cons_of_mem _ (List.mem_cons_of_mem _ h)))) hb (fun w h => ?_)) hgood hK.2.2.1 hK.2.2.2.1 hS (hl.1.trans C.2.2.1.symm) d0 d3 d4 d6 d9 (fun x hx => (C.2.2.2.2.2.2.2.1 x hx).elim) ?_ ?_ (Nat.le_refl _) (Nat.le_refl _) C.2.2.2.2.2.1 (fun t hvm hz hk => ?_) hS.2.2 (Nat.le_refl _) (Nat.le_refl _)
  · have g := List.all_eq_true.mp sj_bw_ok w h
    simp only [Bool.and_eq_true] at g
    exact va_Nw.use g.1 (hK.2.2.2.2.2.1 w h)
  · show sj_nms.length + 3 < d
    have : sj_nms.length = 2 := rfl
    omega
  · show _ + (13 * (sj_nms.length + 1) + 43) ≤ 64 * d
    have : sj_nms.length = 2 := rfl
    omega
  · refine ⟨(), trivial, ⟨k9, rfl, rfl, ?_⟩, Nat.le_trans hS.1 hz, fun q h1 h2 => ?_⟩
    · exact va_P.kept hP (fun k q hq => hk q.1 (hP k q hq).lt)
    · rw [hk q (Nat.lt_of_lt_of_le h1 hS.1)]
      exact hS.2.1 q h1 h2
theorem sj_throwSW {k9 ik is ic : Nat} {text : String} (d0 : decode (sj_cc M) pc = .ok (.new ik, 3)) (d3 : decode (sj_cc M) (pc + 3) = .ok (.dup, 1)) (d4 : decode (sj_cc M) (pc + 4) = .ok (.ldc_w is, 3)) (d6 : decode (sj_cc M) (pc + 7) = .ok (.invokespecial ic, 3)) (d9 : decode (sj_cc M) (pc + 10) = .ok (.athrow, 1)) (ho : sj_own M = RX11) (hcl : Bundle.fit (sj_ex k9) = true)
    (hw : (Cond.classLink RX11 ik (sj_ex k9) :: Cond.initialized (sj_ex k9) :: (vx_atS RX11 ic (sj_ex k9) sj_nms).filter goodWord).all (fun w => decide (w ∈ sj_ws M)) = true) (hb : ((vx_atS RX11 ic (sj_ex k9) sj_nms).filter (fun w => !goodWord w)).all (fun w => decide (w ∈ sj_bw)) = true) (hgood : (Cond.classLink RX11 ik (sj_ex k9) :: Cond.initialized (sj_ex k9) :: vx_atS RX11 ic (sj_ex k9) sj_nms).all vx_ot = true)
    (hstr : (is, text) ∈ sj_strs) (hd8 : 8 ≤ d) (hrs : (rest.map fun v => v.category).sum ≤ 8) : sj_J G d M (.error k9, σ) pc L σ rest := by
  intro p e s m args below meth c ok C H locs ls hP hS hl
  have hw := List.all_eq_true.mp hw
  simp only [decide_eq_true_eq] at hw
  have hb := List.all_eq_true.mp hb
  simp only [decide_eq_true_eq] at hb
  have hgood := List.all_eq_true.mp hgood
  obtain ⟨sa, hsa⟩ := C.2.2.2.2.2.2.2.2.2.2.2.2.2.2.1 (is, text) hstr
  have hown := C.2.2.2.1
  rw [ho] at hown
  have hK := C.2.2.2.2.2.2.2.2
  refine vx_throwSW (own := RX11) (cls := sj_ex k9) (text := text) (names := sj_nms) (A := sj_A G) C.1 C.2.1 ok.1 hown hcl (by decide +kernel) (C.2.2.2.2.1 _ (hw _ List.mem_cons_self)) (C.2.2.2.2.1 _ (hw _ (List.mem_cons_of_mem _ List.mem_cons_self))) hsa
    (vx_hat (B := sj_bw) (fun w h => C.2.2.2.2.1 _ (hw w (List.mem_cons_of_mem _ (List.mem_cons_of_mem _ h)))) hb (fun w h => ?_)) hgood hK.2.2.1 hK.2.2.2.1 hS (hl.1.trans C.2.2.1.symm) d0 d3 d4 d6 d9 (fun x hx => (C.2.2.2.2.2.2.2.1 x hx).elim) ?_ ?_ (Nat.le_refl _) (Nat.le_refl _) C.2.2.2.2.2.1 (fun t hvm hz hk => ?_) hS.2.2 (Nat.le_refl _) (Nat.le_refl _)
  · have g := List.all_eq_true.mp sj_bw_ok w h
    simp only [Bool.and_eq_true] at g
    exact va_Nw.use g.1 (hK.2.2.2.2.2.1 w h)
  · show sj_nms.length + 3 < d
    have : sj_nms.length = 2 := rfl
    omega
  · show _ + (13 * (sj_nms.length + 1) + 43) ≤ 64 * d
    have : sj_nms.length = 2 := rfl
    omega
  · refine ⟨(), trivial, ⟨k9, rfl, rfl, ?_⟩, Nat.le_trans hS.1 hz, fun q h1 h2 => ?_⟩
    · exact va_P.kept hP (fun k q hq => hk q.1 (hP k q hq).lt)
    · rw [hk q (Nat.lt_of_lt_of_le h1 hS.1)]
      exact hS.2.1 q h1 h2
end SJC
theorem sj_fg {G : sj_G} {d : Nat} {M : sj_M} {R : sj_R} {pc : Nat} {L st : List Value} {σ : sj_S} (is : List Nat) (k : sj_J G d M R pc (is.foldl (fun l i => l.set i .null) L) σ st) : sj_J G d M R pc L σ st := by
  have key : ∀ (is : List Nat) (L : List Value) (i : Nat) (v : Value), (is.foldl (fun l i => l.set i Value.null) L)[i]? = some v → v ≠ .null → L[i]? = some v := by
    intro is
    induction is with
    | nil => intro L i v h _; exact h
    | cons j js ih =>
      intro L i v h hv
      have h1 := ih (L.set j .null) i v h hv
      by_cases hji : j = i
      · subst hji
        by_cases hl : j < L.length
        · rw [List.getElem?_set_self hl] at h1
          exact absurd (Option.some.inj h1).symm hv
        · rw [List.getElem?_eq_none (by simpa using hl)] at h1
          cases h1
      · rw [List.getElem?_set_ne hji] at h1
        exact h1
  have key2 : ∀ (is : List Nat) (L : List Value), (∀ v ∈ L, v.category = 1) → ∀ v ∈ is.foldl (fun l i => l.set i Value.null) L, v.category = 1 := by
    intro is
    induction is with
    | nil => intro L h; exact h
    | cons j js ih =>
      intro L h
      refine ih (L.set j .null) (fun v hv => ?_)
      rcases List.mem_or_eq_of_mem_set hv with h1 | h1
      · exact h v h1
      · rw [h1]; rfl
  intro p e s m args below meth c ok C H locs ls hP hS hl
  exact k p e s m args below meth c ok C H locs ls hP hS ⟨hl.1, hl.2.1, fun i v h hv => hl.2.2.1 i v (key is L i v h hv) hv, key2 is L hl.2.2.2⟩
theorem sj_nb {v : Int32} (h : v = nI 0 ∨ v = nI 1) : narrow .boolean (.int v) = .int v := by
  rcases h with h | h <;> rw [h] <;> rfl
theorem sj_sw {x : Int32} (n : Nat) (hn : n < 1000) (h : ∀ k, k < n → ¬ x = nI k) : x.toInt < 0 ∨ (n : Int) - 1 < x.toInt := by
  by_cases h0 : x < 0
  · left
    rw [Int32.lt_iff_toInt_lt, Int32.toInt_zero] at h0
    exact h0
  · right
    obtain ⟨j, hj, e⟩ := nI_of h0
    have : ¬ j < n := fun hl => h j hl e
    rw [e, nI_toInt hj]
    omega
theorem sj_topi {G : sj_G} {d : Nat} {M : sj_M} {R : sj_R} {pc : Nat} {L rest : List Value} {σ : sj_S} {x : Int32} (k : ∀ y : Int32, y = x → sj_J G d M R pc L σ (.int y :: rest)) : sj_J G d M R pc L σ (.int x :: rest) := k x rfl
theorem sj_ofWF {l : Launch} {y : MethodName} {ws ws' : List Cond} {rm : Room} {Pc : Array Value → State → Prop} {Qc : Array Value → State → Outcome → State → Prop} {XC : String → State → State → Prop} {mc ms : Nat} {free : Addr → Prop} {cc : ByteArray} {maxL : Nat} {ret : Option FieldType}
    (hy : plainFor y = true) (hw : ws = Cond.code y cc maxL ret :: ws')
    (body : ∀ p e s m args below meth c s₁, BodyLoose p l y (headSpec ws rm) cc maxL ret e s m args below meth c s₁ → c.maxLocals = maxL → (∀ x ∈ c.exceptionTable.toList, False) → Pc args s →
      W p l e (headSpec ws rm).room s m args below meth c s.heap [] 0 0 (vx_MQ below Qc XC args s mc ms free) (entryFrame m args maxL)) : vx_Met l y ws rm Pc Qc XC mc ms free := by
  refine MetFree.of_bodySF (code := cc) (maxLocals := maxL) (ret := ret) hy ?_ ?_
  · intro args s m h hn
    obtain ⟨meth, c, h1, h2, h3, h4, h5, h6, -, -⟩ := Cond.code_spec hn (atoms_spec (ws := ws) h _ (by rw [hw]; exact List.mem_cons_self))
    exact ⟨meth, c, h1, h2, h3, h4, h5, h6⟩
  · intro p e s m args below meth c s₁ B hml hP _
    have hh0 : s₁.heap = s.heap := by rw [B.state]; rfl
    have ht : ∀ x ∈ c.exceptionTable.toList, False := by
      obtain ⟨meth9, c9, h1, h2, -, -, -, -, h7, -⟩ := Cond.code_spec B.named (atoms_spec (ws := ws) B.pre _ (by rw [hw]; exact List.mem_cons_self))
      cases Option.some.inj (h1.symm.trans B.method)
      cases Option.some.inj (h2.symm.trans (Stand.of_body B).code)
      intro x hx
      rw [Array.isEmpty_iff.mp h7] at hx
      cases hx
    obtain ⟨t, a1, o, b1, b2, b3⟩ := body p e s m args below meth c s₁ B hml ht hP s₁ hh0 (Stand.of_body B)
    exact ⟨t, o, a1, b1, b2, b3⟩
theorem sj_enterF {G : sj_G} (hok : sj_ok G) {d : Nat} {M : sj_M} {ws' : List Cond} {av : List Value} {σ : sj_S} {R : sj_R} (hy : plainFor (sj_y M) = true) (hyo : (sj_y M).cls = sj_own M) (hw : sj_ws M = Cond.code (sj_y M) (sj_cc M) (sj_nL M) (sj_rt M) :: ws')
    (hn : av.length ≤ sj_nL M) (hc : ∀ v ∈ av, v.category = 1) (k : sj_J G d M R 0 (av ++ List.replicate (sj_nL M - av.length) .null) σ []) : sj_C G d M av σ R := by
  unfold sj_C
  refine sj_ofWF (cc := sj_cc M) (maxL := sj_nL M) (ret := sj_rt M) hy hw ?_
  intro p e s m args below meth c s₁ B hml ht hv
  obtain ⟨rfl, hP, hK⟩ := hv
  have hx := B.exec
  have hb := B.bytes
  have hr := B.returns
  have hts := atoms_spec (ws := sj_ws M) B.pre
  have hown : s.vm.findClass (sj_own M) = some m.cls := hyo ▸ findClass_of_methodNamed B.named
  have hlocks := B.notSynchronized
  have hl := sj_lh_entry av (sj_nL M) hn hc
  rw [lg_entry_eq]
  exact k p e s m av.toArray below meth c hok ⟨hx, hb, hml, hown, hts, hlocks, hr, ht, hK⟩ s.heap [] _ hP va_S.rf hl
