/-! THE FIRST STATE -/
def zD0 : zD := fun f i => if f = 12 then 63 else if f = 13 then 3 else 0
theorem zD0_ok : okD zD0 := ⟨by decide, by decide, by decide, fun l hl => absurd hl (Nat.not_lt_zero l), fun w hw => absurd hw (Nat.not_lt_zero w), fun t _ => ⟨show 63 < 64 by decide, show 0 < 32 by decide⟩, fun k _ => show 3 ≤ 3 by decide, fun e _ => ⟨show 0 < 256 by decide, fun o _ => show (0 : Nat).testBit o = (0 : Nat).testBit e by rw [Nat.zero_testBit, Nat.zero_testBit]⟩⟩
theorem zD0_C : repC zD0 (zInit 2) := by unfold repC; decide +kernel
theorem zD0_M : repM zD0 (zInit 57) := by unfold repM; decide +kernel
theorem zAi0 : zA zInit := ⟨⟨zD0, fun _ => 0, zD0_ok, zD0_C, zD0_M, fun h => absurd h (by decide)⟩, ⟨0, 0, by decide, by decide, by decide +kernel, by decide +kernel, by decide +kernel, fun j hj => absurd hj (Nat.not_lt_zero j)⟩, ⟨by decide +kernel, Or.inl (by decide +kernel)⟩⟩
theorem zB0 : zBells zInit := by unfold zBells; decide +kernel
theorem zT0 : zTape zInit := ⟨⟨0, by decide, by decide +kernel, by decide +kernel, fun i hi => absurd hi (Nat.not_lt_zero i)⟩, by decide +kernel, ⟨0, by decide, by decide +kernel, by decide +kernel, fun i hi => absurd hi (Nat.not_lt_zero i)⟩⟩
theorem zY0 : zYR zInit := by
  refine ⟨13398, 20260907, 0, fun _ => 0, fun _ => 0, ?_, by decide, by decide +kernel, by decide, by decide, by decide +kernel, by decide +kernel, by decide +kernel, by decide +kernel, fun k hk => absurd hk (Nat.not_lt_zero k), by decide +kernel⟩
  unfold qDt
  decide +kernel
theorem zR0 : zRd zInit 0 := ⟨by decide +kernel, fun i _ => ⟨0, 0, Nat.le_refl _, by decide, by show (0 : Int32) = nI 0; exact nI_0.symm⟩⟩
theorem zInv0 : zInv zInit 0 := ⟨zAi0, zB0, zT0, zY0, zR0⟩
