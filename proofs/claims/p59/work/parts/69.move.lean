/-! move -/
theorem zSR_new {D : zD} {T : Nat → Nat} {c f a c' tb' m' : Nat → Int32} (v : okD D) (hC : repC D c) (hM : repM D f) (hc : c' = upd c 2 (nI 1)) (hm : m' = zPt f a (dN D)) (ha : ∀ l, l < dN D → a l = nI (T l)) (htb : ∀ l, l < dN D → tb' l = nI (T l)) (h20 : ∀ l, l < dN D → T l < 20) (hr : zRi D (zHd D) T) : zSR c' tb' m' := by
  subst hc hm
  have h9 := v.1
  refine ⟨zUp D 2 0 1, T, okD_T v, repC_T v hC, zPt_rep v hM, fun _ => ⟨fun l hl => ?_, (zRt_2 zD2_up v (okD_T v)).mpr hr⟩⟩
  have hl : l < dN D := hl
  refine ⟨htb l hl, ?_, h20 l hl⟩
  show zPt f a (dN D) (116 + l) = _
  rw [zPt_at hl h9, ha l hl]
theorem z_updself {f : Nat → Int32} {i : Nat} {x : Int32} (h : f i = x) : upd f i x = f := by
  funext k
  unfold upd
  by_cases q : k = i
  · rw [if_pos q, q, h]
  · rw [if_neg q]
section ZMV
variable {G : sj_G} {σ : sj_S} {D : zD} {T : Nat → Nat}
theorem zT_up {D : zD} (h : dT D = 1) : dT (zUp D 2 0 1) = 1 := rfl
end ZMV
