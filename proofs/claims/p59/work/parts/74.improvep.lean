/-! the pair of improve -/
section ZIP
variable {G : sj_G} {σ : sj_S} {D : zD} {T : Nat → Nat}
theorem z_sl37 : zSl 37 := ⟨rfl, by decide, rfl⟩
end ZIP
