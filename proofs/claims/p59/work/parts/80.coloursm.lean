/-! COLOURS 3: the reference, and the pair -/
section ZCM
variable {G : sj_G} {σ : sj_S} {D : zD} {c : Nat → Nat} {p q : Nat}
theorem z_mP (hM : repM D (σ 57)) {b l : Nat} (hb : b ≤ 1) (hl : l < dN D) : σ 57 (9 * b + l) = nI (dP D b l) := by
  obtain ⟨a0, a1, -⟩ := hM.2.2.2.1 l hl
  rcases (by omega : b = 0 ∨ b = 1) with e | e <;> subst e
  · exact a0
  · exact a1
theorem zOp_none {o : Option Nat} (h : ∀ e, o = some e → e < 2 ^ 31) : zOp o = -1 ↔ o = none := by
  cases o with
  | none => exact ⟨fun _ => rfl, fun _ => rfl⟩
  | some e => exact ⟨fun q => absurd q (z_nm1 (h e rfl)), fun q => by cases q⟩
theorem zFc_small {b r x l : Nat} (hl : l < 100) : ∀ e, zFc D c b r x l 0 = some e → e < 2 ^ 31 := fun e h => by
  have := (zFc_some _ _ h).2.1
  omega
theorem zFc_t {b r x l : Nat} (hl : l < 100) : (zOp (zFc D c b r x l 0) = -1) ↔ zUd D c b r l x = false := by
  rw [zOp_none (zFc_small hl), zFc_used]
def zTw (σ : sj_S) (g w : Nat → Int32) : sj_S := sj_up (sj_up σ 64 g) 65 w
theorem zTw_n {g w : Nat → Int32} {b : Nat} (h1 : b ≠ 64) (h2 : b ≠ 65) : zTw σ g w b = σ b := by
  unfold zTw
  rw [z_upn h2, z_upn h1]
theorem zTw_64 {g w : Nat → Int32} : zTw σ g w 64 = g := by
  unfold zTw
  rw [z_upn (by decide), sj_up_s]
theorem zTw_65 {g w : Nat → Int32} : zTw σ g w 65 = w := sj_up_s
theorem zTw_s64 {g w : Nat → Int32} {i : Nat} {x : Int32} : sj_st (zTw σ g w) 64 i x = zTw σ (upd g i x) w := by
  funext b
  by_cases h : b = 64
  · subst h
    rw [z_sta, zTw_64, zTw_64]
  · rw [z_stn h]
    by_cases h2 : b = 65
    · subst h2
      rw [zTw_65, zTw_65]
    · rw [zTw_n h h2, zTw_n h h2]
theorem zTw_s65 {g w : Nat → Int32} {i : Nat} {x : Int32} : sj_st (zTw σ g w) 65 i x = zTw σ g (upd w i x) := by
  unfold zTw
  rw [z_st_up]
theorem zTw_id : zTw σ (σ 64) (σ 65) = σ := by
  unfold zTw
  rw [z_up_self, z_up_self]
end ZCM
section ZCP
variable {G : sj_G} {σ : sj_S}
end ZCP
