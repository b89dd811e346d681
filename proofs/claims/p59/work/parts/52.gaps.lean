/-! gapsIn -/
def zGp (f : Nat → Bool) (i : Nat) : Bool := (((decide (1 ≤ i % 4) && f (i - 1)) || (decide (2 ≤ i % 4) && f (i - 2)) || (decide (3 ≤ i % 4) && f (i - 3))) && ((f (1 + i) && decide (i % 4 ≤ 2)) || (f (2 + i) && decide (i % 4 ≤ 1)) || (f (3 + i) && decide (i % 4 ≤ 0)))) && !f i
section ZPQ
variable {G : sj_G} {σ : sj_S}
theorem z_mk1 : ∀ i, i < 32 → bt (nI 978670) i = (decide (i < 20) && decide (1 ≤ i % 4)) := by decide +kernel
theorem z_mk2 : ∀ i, i < 32 → bt (nI 838860) i = (decide (i < 20) && decide (2 ≤ i % 4)) := by decide +kernel
theorem z_mk3 : ∀ i, i < 32 → bt (nI 559240) i = (decide (i < 20) && decide (3 ≤ i % 4)) := by decide +kernel
theorem z_mk4 : ∀ i, i < 32 → bt (nI 489335) i = (decide (i < 20) && decide (i % 4 ≤ 2)) := by decide +kernel
theorem z_mk5 : ∀ i, i < 32 → bt (nI 209715) i = (decide (i < 20) && decide (i % 4 ≤ 1)) := by decide +kernel
theorem z_mk6 : ∀ i, i < 32 → bt (nI 69905) i = (decide (i < 20) && decide (i % 4 ≤ 0)) := by decide +kernel
theorem z_mt {k i : Nat} {b : Bool} : ((decide (k ≤ i) && b) && decide (k ≤ i % 4)) = (decide (k ≤ i % 4) && b) := by
  by_cases q : k ≤ i % 4
  · have : k ≤ i := Nat.le_trans q (Nat.mod_le i 4)
    simp [q, this]
  · simp [q]
theorem z_word {z : Int32} {f : Nat → Bool} (h : ∀ i, i < 32 → bt z i = (decide (i < 20) && f i)) : ∃ m, m < 2 ^ 20 ∧ z = nI m ∧ ∀ i, i < 20 → m.testBit i = f i := by
  have ht : ∀ i, bt z i = z.toBitVec.toNat.testBit i := fun i => rfl
  refine ⟨z.toBitVec.toNat, ?_, ?_, fun i hi => ?_⟩
  · apply Nat.lt_pow_two_of_testBit
    intro i hi
    by_cases q : i < 32
    · rw [← ht, h i q, decide_eq_false (by omega), Bool.false_and]
    · exact Nat.testBit_lt_two_pow (Nat.lt_of_lt_of_le z.toBitVec.isLt (Nat.pow_le_pow_right (by decide) (by omega)))
  · apply b_ext
    intro i hi
    rw [z_bn _ _ hi, ht]
  · rw [← ht, h i (by omega), decide_eq_true hi, Bool.true_and]
theorem z_gapsIn (ok : sj_ok G) (x : Int32) : sj_C G 3 me_X6_gapsIn [.ref (sj_ad G 36), .int x] σ (.ok (nI (q_cnt (zGp (bt x)) 20)), σ) := by
  refine c_X6_gapsIn ok ?_
  unfold wp_X6_gapsIn_0
  intro y1 e1 y2 e2
  have hz : ∀ i, i < 32 → bt ((y1 &&& y2) &&& (x ^^^ (-1))) i = (decide (i < 20) && zGp (bt x) i) := by
    intro i hi
    rw [b_and, b_and, b_xor, b_m1 i hi, e1, e2]
    rw [b_or, b_or, b_and, b_and, b_and, b_or, b_or, b_and, b_and, b_and, z_mk1 i hi, z_mk2 i hi, z_mk3 i hi, z_mk4 i hi, z_mk5 i hi, z_mk6 i hi, b_shl 1 (by decide) _ hi, b_shl 2 (by decide) _ hi, b_shl 3 (by decide) _ hi, b_sshr 1 (by decide) x hi, b_sshr 2 (by decide) x hi, b_sshr 3 (by decide) x hi]
    by_cases h20 : i < 20
    · rw [if_pos (by omega), if_pos (by omega), if_pos (by omega), decide_eq_true h20]
      simp only [Bool.true_and, z_mt, Bool.xor_true]
      rfl
    · rw [decide_eq_false h20]
      simp
  obtain ⟨m, hm, ez, hb⟩ := z_word hz
  rw [ez]
  refine ⟨_, _, z_bitCount ok hm, ?_⟩
  rw [q_cnt_congr 20 (fun i hi => hb i hi)]
end ZPQ
