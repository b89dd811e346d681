/-! THE LAW'S WORDS in small lists: a word by the list's place and its place there -/
def lwc : List (List Cond) := [k2_sels lw_privs, tables_1_1, tables_1_2, tables_1_3, tables_1_4, tables_1_5, tables_1_6]
theorem lwc_in : ∀ c ∈ lwc, ∀ w ∈ c, w ∈ lw_tbl := by
  intro c hc w hw
  unfold lwc at hc
  simp only [List.mem_cons, List.not_mem_nil, or_false] at hc
  unfold lw_tbl tables_1
  simp only [List.mem_append]
  rcases hc with h | h | h | h | h | h | h <;> rw [h] at hw
  · exact Or.inl hw
  · exact Or.inr (Or.inl hw)
  · exact Or.inr (Or.inr (Or.inl hw))
  · exact Or.inr (Or.inr (Or.inr (Or.inl hw)))
  · exact Or.inr (Or.inr (Or.inr (Or.inr (Or.inl hw))))
  · exact Or.inr (Or.inr (Or.inr (Or.inr (Or.inr (Or.inl hw)))))
  · exact Or.inr (Or.inr (Or.inr (Or.inr (Or.inr (Or.inr (hw))))))
def wsFc : List (List Cond) := [wsL_law0_r1, wsL_law0_r2, wsL_law0_r3, wsL_law0_r4, wsL_law0_r5, wsL_law0_r6, wsL_law0_r7, wsL_law0_r8, wsL_law0_r9, wsL_law0_r10, wsL_law0_r11, wsL_law0_r12, wsL_law0_r13, wsL_law0_r14, wsL_law0_r15, wsL_law0_r16, wsL_law0_r17, wsL_law0_r18, wsL_law0_r19, wsL_law0_r20, wsL_law0_r21, wsL_law0_r22, wsL_law0_r23, wsL_law0_r24, wsL_law0_r25, wsL_law0_r26, wsL_law0_r27, wsL_law0_r28, wsL_law0_r29, wsL_law0_r30, wsL_law0_r31, wsL_law0_r32, wsL_law0_r33, wsL_law0_r34, wsL_law0_r35, wsL_law0_r36, wsL_law0_r37, wsL_law0_r38, wsL_law0_r39, wsL_law0_r40, wsL_law0_r41, wsL_law0_r42, wsL_law0_r43, wsL0, wsX110, wsX80, wsX50, wsX70, wsX40, wsX60, wsX10, wsX20, wsX30, wsX00, wsX100, wsX90, (vx_atS RX11 98 "java/lang/IllegalArgumentException" ["java/lang/RuntimeException", "java/lang/Exception"]).filter goodWord, (vx_atS RX11 109 "java/lang/IllegalStateException" ["java/lang/RuntimeException", "java/lang/Exception"]).filter goodWord, (vx_atS RX11 186 "java/lang/IndexOutOfBoundsException" ["java/lang/RuntimeException", "java/lang/Exception"]).filter goodWord]
def wsF : List Cond := wsFc.flatten
theorem wsF_c : ∀ c ∈ wsFc, ∀ w ∈ c, w ∈ wsF := fun c hc w hw => List.mem_flatten.mpr ⟨c, hc, hw⟩
theorem wsF_x {c : List Cond} (i : Nat) (h : wsFc[i]? = some c) : ∀ w ∈ c, w ∈ wsF := wsF_c c (List.mem_of_getElem? h)
