/-! holdsFor, holdsNow; the pair of holds -/
section ZPH
variable {G : sj_G} {σ : sj_S} {D : zD} {T : Nat → Nat}
end ZPH
