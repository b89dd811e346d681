/-! THE LAW'S LOOP -/
theorem l_and63 (x : Int32) : ∃ k, k < 64 ∧ x &&& 63 = nI k := by
  have e : x = nI x.toBitVec.toNat := by
    apply Int32.toBitVec_inj.1
    show x.toBitVec = BitVec.ofNat 32 x.toBitVec.toNat
    simp
  refine ⟨x.toBitVec.toNat % 64, Nat.mod_lt _ (by omega), ?_⟩
  have h : ∀ n, nI n &&& 63 = nI (n % 64) := fun n => by
    show nI n &&& nI 63 = _
    rw [nx_and, show (63 : Nat) = 2 ^ 6 - 1 from rfl, Nat.and_two_pow_sub_one_eq_mod]
  rw [← h, ← e]
theorem l_cmp {Ls i : Nat} (hL : Ls ≤ 3072) (hi : i ≤ 3072) : (nI Ls - nI 6 < nI i) ↔ Ls < i + 6 := by
  rw [Int32.lt_iff_toInt_lt, nI_toInt (by omega)]
  by_cases h6 : 6 ≤ Ls
  · rw [pk_sub h6, nI_toInt (by omega)]
    omega
  · have h : (nI Ls - nI 6).toInt = (Ls : Int) - 6 := by
      rcases (by omega : Ls = 0 ∨ Ls = 1 ∨ Ls = 2 ∨ Ls = 3 ∨ Ls = 4 ∨ Ls = 5) with e | e | e | e | e | e <;> subst e <;> decide
    rw [h]
    omega
section LO
variable {G : sj_G} {q : lG} {A0 : Nat → Prop} {M : sj_M} {p : Program} {e : Env} {s : State} {m : MethodId} {args : Array Value} {below : List Frame} {meth : Method} {c : Code} {rm : Room} {Z : State → Prop} {cells slots : Nat} {E : va_W} {pc : Nat} {L st rest : List Value} {σ : sj_S}
theorem tj_slen {b Ls : Nat} {xs : Nat → Int32} (hX : va_X b Ls xs s s.heap) (hb : b < s.heap.size) (hbA : ¬ A0 b) (hd : decode (sj_cc M) pc = .ok (.arraylength, 1)) (k : tj_J G A0 M p e s m args below meth c rm Z cells slots E (pc + 1) L σ (.int (nI Ls) :: rest)) : tj_J G A0 M p e s m args below meth c rm Z cells slots E pc L σ (.ref b :: rest) :=
  fun ok C H locs ls hH hl => va_slen C.1 C.2.1 hX hb hbA hH.2.1 hd (k ok C H locs ls hH hl)
theorem tj_sld {b Ls i : Nat} {xs : Nat → Int32} (hX : va_X b Ls xs s s.heap) (hb : b < s.heap.size) (hbA : ¬ A0 b) (hi : i < Ls) (hLs : Ls ≤ 3072) (hd : decode (sj_cc M) pc = .ok (.iaload, 1)) (k : tj_J G A0 M p e s m args below meth c rm Z cells slots E (pc + 1) L σ (.int (xs i) :: rest)) : tj_J G A0 M p e s m args below meth c rm Z cells slots E pc L σ (.int (nI i) :: .ref b :: rest) := by
  intro ok C H locs ls hH hl
  refine va_sld C.1 C.2.1 hX hb hbA hH.2.1 (z_in hi (by omega)) hd ?_
  rw [nI_clamp (by omega)]
  exact k ok C H locs ls hH hl
theorem tj_tableIn {dflt lo hi : Int} {offs : Array Int} {len : Nat} {x : Int32} {off : Int} {tgt : Nat} (hd : decode (sj_cc M) pc = .ok (.tableswitch dflt lo hi offs, len)) (h1 : ¬ x.toInt < lo) (h2 : ¬ hi < x.toInt) (ho : offs[(x.toInt - lo).toNat]? = some off) (ht : (pc : Int) + off = (tgt : Int)) (k : tj_J G A0 M p e s m args below meth c rm Z cells slots E tgt L σ rest) : tj_J G A0 M p e s m args below meth c rm Z cells slots E pc L σ (.int x :: rest) :=
  fun ok C H locs ls hH hl => lv_tableIn C.1 C.2.1 hd h1 h2 ho ht (k ok C H locs ls hH hl)
theorem tj_tableOut {dflt lo hi : Int} {offs : Array Int} {len : Nat} {x : Int32} {tgt : Nat} (hd : decode (sj_cc M) pc = .ok (.tableswitch dflt lo hi offs, len)) (h : x.toInt < lo ∨ hi < x.toInt) (ht : (pc : Int) + dflt = (tgt : Int)) (k : tj_J G A0 M p e s m args below meth c rm Z cells slots E tgt L σ rest) : tj_J G A0 M p e s m args below meth c rm Z cells slots E pc L σ (.int x :: rest) :=
  fun ok C H locs ls hH hl => lv_tableOut C.1 C.2.1 hd h ht (k ok C H locs ls hH hl)
end LO
section LP
variable {G : sj_G} {q : lG} {p : Program} {e : Env} {s : State} {m : MethodId} {below : List Frame} {meth : Method} {c : Code} {b Ls i r : Nat} {xs : Nat → Int32} {Z : State → Prop} {cells slots : Nat} {f : Nat → Int64} {g : Nat → UInt64} {σ : sj_S}
theorem l_head (hx : lcx G q s b Ls xs) (hi : i ≤ Ls) (k1 : Ls < i + 6 → lJ G q p e s m below meth c b Z cells slots f g 3367 (lL G q b i .null .null) σ []) (k2 : i + 6 ≤ Ls → lJ G q p e s m below meth c b Z cells slots f g 38 (lL G q b i .null .null) σ []) : lJ G q p e s m below meth c b Z cells slots f g 28 (lL G q b i .null .null) σ [] := by
  obtain ⟨ok, hq, hT, hX, hb, hA, ha, hd, hLs⟩ := id hx
  have hbA : ¬ s.heap.size ≤ b := by omega
  unfold lJ at k1 k2 ⊢
  refine tj_iload (x := nI i) dL_law_28 rfl ?_
  refine tj_aload_n (x := b) dL_law_30 (i := 0) rfl rfl ?_
  refine tj_slen hX hb hbA dL_law_31 ?_
  refine tj_bipush (v := nI 6) dL_law_32 (by decide +kernel) ?_
  refine tj_isub dL_law_34 ?_
  refine tj_icmp_gt (tgt := 3367) dL_law_35 (by decide) (fun h => k1 ((l_cmp hLs (by omega)).mp h)) (fun h => k2 ?_)
  by_cases h9 : Ls < i + 6
  · exact absurd ((l_cmp hLs (by omega)).mpr h9) h
  · omega
theorem l_exit (hc : cells ≤ 601024) (hs : slots ≤ 7293034) : lJ G q p e s m below meth c b (lw_Z below #[Value.ref b] s) cells slots f g 3367 (lL G q b i .null .null) σ [] := by
  unfold lJ
  refine tj_iconst (v := 1) dL_law_3367 (by decide) ?_
  intro ok C H locs ls hH hl
  refine va_forget (fun x hx => hH.2.1.2.2 x hx) ?_
  refine W.widen hc hs ?_
  exact lw_ret (Drawn.sameBut.refl s.drawn lw_cs) C.1 C.2.1 C.2.2.2.2.2.2.1 C.2.2.2.2.2.1 dL_law_3368
theorem l_step (hi : i + 6 ≤ 3072) (k : lJ G q p e s m below meth c b Z cells slots f g 28 (lL G q b (i + 6) .null .null) σ []) : lJ G q p e s m below meth c b Z cells slots f g 3361 (lL G q b i .null .null) σ [] := by
  unfold lJ at k ⊢
  refine tj_iinc (i := 5) (v := nI (i + 6)) dL_law_3361 (by decide) rfl (nI_add i 6) ?_
  refine tj_goto (tgt := 28) dL_law_3364 (by decide) ?_
  exact k
set_option maxHeartbeats 4000000 in
theorem l_body (hx : lcx G q s b Ls xs) (hi : i + 6 ≤ Ls) (hI : zInv σ r) (hr : r + 200 < 2 ^ 27) (hc1 : cells + 1 ≤ 601024) (hc2 : slots + 6 ≤ 7293034) (k : ∀ σ2 f2 g2, zInx r σ2 → lJ G q p e s m below meth c b Z (cells + 1) (slots + 6) f2 g2 3361 (lL G q b i .null .null) σ2 []) : lJ G q p e s m below meth c b Z cells slots f g 38 (lL G q b i .null .null) σ [] := by
  obtain ⟨ok, hq, hT, hX, hb, hA, ha, hd, hLs⟩ := id hx
  have hbA : ¬ s.heap.size ≤ b := by omega
  obtain ⟨n, hn, e9⟩ := l_and63 (xs i)
  unfold lJ
  refine tj_aload_n (x := b) dL_law_38 (i := 0) rfl rfl ?_
  refine tj_iload (x := nI i) dL_law_39 rfl ?_
  refine tj_sld hX hb hbA (by omega) hLs dL_law_41 ?_
  refine tj_bipush (v := 63) dL_law_42 (by decide +kernel) ?_
  refine tj_iand dL_law_44 ?_
  rw [e9]
  by_cases h0 : n < 8
  · rcases (by omega : n = 0 ∨ n = 1 ∨ n = 2 ∨ n = 3 ∨ n = 4 ∨ n = 5 ∨ n = 6 ∨ n = 7) with e0 | e0 | e0 | e0 | e0 | e0 | e0 | e0 <;> subst e0
    · exact tj_tableIn (off := 239) (tgt := 284) dL_law_45 (by decide) (by decide) (by decide +kernel) (by decide) (lc_0 hx hi hI hr hc1 hc2 k)
    · exact tj_tableIn (off := 359) (tgt := 404) dL_law_45 (by decide) (by decide) (by decide +kernel) (by decide) (lc_1 hx hi hI hr hc1 hc2 k)
    · exact tj_tableIn (off := 415) (tgt := 460) dL_law_45 (by decide) (by decide) (by decide +kernel) (by decide) (lc_2 hx hi hI hr hc1 hc2 k)
    · exact tj_tableIn (off := 483) (tgt := 528) dL_law_45 (by decide) (by decide) (by decide +kernel) (by decide) (lc_3 hx hi hI hr hc1 hc2 k)
    · exact tj_tableIn (off := 496) (tgt := 541) dL_law_45 (by decide) (by decide) (by decide +kernel) (by decide) (lc_4 hx hi hI hr hc1 hc2 k)
    · exact tj_tableIn (off := 564) (tgt := 609) dL_law_45 (by decide) (by decide) (by decide +kernel) (by decide) (lc_5 hx hi hI hr hc1 hc2 k)
    · exact tj_tableIn (off := 632) (tgt := 677) dL_law_45 (by decide) (by decide) (by decide +kernel) (by decide) (lc_6 hx hi hI hr hc1 hc2 k)
    · exact tj_tableIn (off := 724) (tgt := 769) dL_law_45 (by decide) (by decide) (by decide +kernel) (by decide) (lc_7 hx hi hI hr hc1 hc2 k)
  by_cases h1 : n < 16
  · rcases (by omega : n = 8 ∨ n = 9 ∨ n = 10 ∨ n = 11 ∨ n = 12 ∨ n = 13 ∨ n = 14 ∨ n = 15) with e0 | e0 | e0 | e0 | e0 | e0 | e0 | e0 <;> subst e0
    · exact tj_tableIn (off := 780) (tgt := 825) dL_law_45 (by decide) (by decide) (by decide +kernel) (by decide) (lc_8 hx hi hI hr hc1 hc2 k)
    · exact tj_tableIn (off := 848) (tgt := 893) dL_law_45 (by decide) (by decide) (by decide +kernel) (by decide) (lc_9 hx hi hI hr hc1 hc2 k)
    · exact tj_tableIn (off := 861) (tgt := 906) dL_law_45 (by decide) (by decide) (by decide +kernel) (by decide) (lc_10 hx hi hI hr hc1 hc2 k)
    · exact tj_tableIn (off := 874) (tgt := 919) dL_law_45 (by decide) (by decide) (by decide +kernel) (by decide) (lc_11 hx hi hI hr hc1 hc2 k)
    · exact tj_tableIn (off := 887) (tgt := 932) dL_law_45 (by decide) (by decide) (by decide +kernel) (by decide) (lc_12 hx hi hI hr hc1 hc2 k)
    · exact tj_tableIn (off := 943) (tgt := 988) dL_law_45 (by decide) (by decide) (by decide +kernel) (by decide) (lc_13 hx hi hI hr hc1 hc2 k)
    · exact tj_tableIn (off := 999) (tgt := 1044) dL_law_45 (by decide) (by decide) (by decide +kernel) (by decide) (lc_14 hx hi hI hr hc1 hc2 k)
    · exact tj_tableIn (off := 1095) (tgt := 1140) dL_law_45 (by decide) (by decide) (by decide +kernel) (by decide) (lc_15 hx hi hI hr hc1 hc2 k)
  by_cases h2 : n < 24
  · rcases (by omega : n = 16 ∨ n = 17 ∨ n = 18 ∨ n = 19 ∨ n = 20 ∨ n = 21 ∨ n = 22 ∨ n = 23) with e0 | e0 | e0 | e0 | e0 | e0 | e0 | e0 <;> subst e0
    · exact tj_tableIn (off := 1151) (tgt := 1196) dL_law_45 (by decide) (by decide) (by decide +kernel) (by decide) (lc_16 hx hi hI hr hc1 hc2 k)
    · exact tj_tableIn (off := 1207) (tgt := 1252) dL_law_45 (by decide) (by decide) (by decide +kernel) (by decide) (lc_17 hx hi hI hr hc1 hc2 k)
    · exact tj_tableIn (off := 1275) (tgt := 1320) dL_law_45 (by decide) (by decide) (by decide +kernel) (by decide) (lc_18 hx hi hI hr hc1 hc2 k)
    · exact tj_tableIn (off := 1338) (tgt := 1383) dL_law_45 (by decide) (by decide) (by decide +kernel) (by decide) (lc_19 hx hi hI hr hc1 hc2 k)
    · exact tj_tableIn (off := 1382) (tgt := 1427) dL_law_45 (by decide) (by decide) (by decide +kernel) (by decide) (lc_20 hx hi hI hr hc1 hc2 k)
    · exact tj_tableIn (off := 1466) (tgt := 1511) dL_law_45 (by decide) (by decide) (by decide +kernel) (by decide) (lc_21 hx hi hI hr hc1 hc2 k)
    · exact tj_tableIn (off := 1510) (tgt := 1555) dL_law_45 (by decide) (by decide) (by decide +kernel) (by decide) (lc_22 hx hi hI hr hc1 hc2 k)
    · exact tj_tableIn (off := 1523) (tgt := 1568) dL_law_45 (by decide) (by decide) (by decide +kernel) (by decide) (lc_23 hx hi hI hr hc1 hc2 k)
  by_cases h3 : n < 32
  · rcases (by omega : n = 24 ∨ n = 25 ∨ n = 26 ∨ n = 27 ∨ n = 28 ∨ n = 29 ∨ n = 30 ∨ n = 31) with e0 | e0 | e0 | e0 | e0 | e0 | e0 | e0 <;> subst e0
    · exact tj_tableIn (off := 1579) (tgt := 1624) dL_law_45 (by decide) (by decide) (by decide +kernel) (by decide) (lc_24 hx hi hI hr hc1 hc2 k)
    · exact tj_tableIn (off := 1682) (tgt := 1727) dL_law_45 (by decide) (by decide) (by decide +kernel) (by decide) (lc_25 hx hi hI hr hc1 hc2 k)
    · exact tj_tableIn (off := 1766) (tgt := 1811) dL_law_45 (by decide) (by decide) (by decide +kernel) (by decide) (lc_26 hx hi hI hr hc1 hc2 k)
    · exact tj_tableIn (off := 1834) (tgt := 1879) dL_law_45 (by decide) (by decide) (by decide +kernel) (by decide) (lc_27 hx hi hI hr hc1 hc2 k)
    · exact tj_tableIn (off := 1890) (tgt := 1935) dL_law_45 (by decide) (by decide) (by decide +kernel) (by decide) (lc_28 hx hi hI hr hc1 hc2 k)
    · exact tj_tableIn (off := 1993) (tgt := 2038) dL_law_45 (by decide) (by decide) (by decide +kernel) (by decide) (lc_29 hx hi hI hr hc1 hc2 k)
    · exact tj_tableIn (off := 2006) (tgt := 2051) dL_law_45 (by decide) (by decide) (by decide +kernel) (by decide) (lc_30 hx hi hI hr hc1 hc2 k)
    · exact tj_tableIn (off := 2062) (tgt := 2107) dL_law_45 (by decide) (by decide) (by decide +kernel) (by decide) (lc_31 hx hi hI hr hc1 hc2 k)
  by_cases h4 : n < 40
  · rcases (by omega : n = 32 ∨ n = 33 ∨ n = 34 ∨ n = 35 ∨ n = 36 ∨ n = 37 ∨ n = 38 ∨ n = 39) with e0 | e0 | e0 | e0 | e0 | e0 | e0 | e0 <;> subst e0
    · exact tj_tableIn (off := 2075) (tgt := 2120) dL_law_45 (by decide) (by decide) (by decide +kernel) (by decide) (lc_32 hx hi hI hr hc1 hc2 k)
    · exact tj_tableIn (off := 2167) (tgt := 2212) dL_law_45 (by decide) (by decide) (by decide +kernel) (by decide) (lc_33 hx hi hI hr hc1 hc2 k)
    · exact tj_tableIn (off := 2251) (tgt := 2296) dL_law_45 (by decide) (by decide) (by decide +kernel) (by decide) (lc_34 hx hi hI hr hc1 hc2 k)
    · exact tj_tableIn (off := 2319) (tgt := 2364) dL_law_45 (by decide) (by decide) (by decide +kernel) (by decide) (lc_35 hx hi hI hr hc1 hc2 k)
    · exact tj_tableIn (off := 2375) (tgt := 2420) dL_law_45 (by decide) (by decide) (by decide +kernel) (by decide) (lc_36 hx hi hI hr hc1 hc2 k)
    · exact tj_tableIn (off := 2443) (tgt := 2488) dL_law_45 (by decide) (by decide) (by decide +kernel) (by decide) (lc_37 hx hi hI hr hc1 hc2 k)
    · exact tj_tableIn (off := 2456) (tgt := 2501) dL_law_45 (by decide) (by decide) (by decide +kernel) (by decide) (lc_38 hx hi hI hr hc1 hc2 k)
    · exact tj_tableIn (off := 2512) (tgt := 2557) dL_law_45 (by decide) (by decide) (by decide +kernel) (by decide) (lc_39 hx hi hI hr hc1 hc2 k)
  by_cases h5 : n < 48
  · rcases (by omega : n = 40 ∨ n = 41 ∨ n = 42 ∨ n = 43 ∨ n = 44 ∨ n = 45 ∨ n = 46 ∨ n = 47) with e0 | e0 | e0 | e0 | e0 | e0 | e0 | e0 <;> subst e0
    · exact tj_tableIn (off := 2568) (tgt := 2613) dL_law_45 (by decide) (by decide) (by decide +kernel) (by decide) (lc_40 hx hi hI hr hc1 hc2 k)
    · exact tj_tableIn (off := 2624) (tgt := 2669) dL_law_45 (by decide) (by decide) (by decide +kernel) (by decide) (lc_41 hx hi hI hr hc1 hc2 k)
    · exact tj_tableIn (off := 2692) (tgt := 2737) dL_law_45 (by decide) (by decide) (by decide +kernel) (by decide) (lc_42 hx hi hI hr hc1 hc2 k)
    · exact tj_tableIn (off := 2748) (tgt := 2793) dL_law_45 (by decide) (by decide) (by decide +kernel) (by decide) (lc_43 hx hi hI hr hc1 hc2 k)
    · exact tj_tableIn (off := 2816) (tgt := 2861) dL_law_45 (by decide) (by decide) (by decide +kernel) (by decide) (lc_44 hx hi hI hr hc1 hc2 k)
    · exact tj_tableIn (off := 2872) (tgt := 2917) dL_law_45 (by decide) (by decide) (by decide +kernel) (by decide) (lc_45 hx hi hI hr hc1 hc2 k)
    · exact tj_tableIn (off := 2976) (tgt := 3021) dL_law_45 (by decide) (by decide) (by decide +kernel) (by decide) (lc_46 hx hi hI hr hc1 hc2 k)
    · exact tj_tableIn (off := 2989) (tgt := 3034) dL_law_45 (by decide) (by decide) (by decide +kernel) (by decide) (lc_47 hx hi hI hr hc1 hc2 k)
  by_cases h6 : n < 56
  · rcases (by omega : n = 48 ∨ n = 49 ∨ n = 50 ∨ n = 51 ∨ n = 52 ∨ n = 53 ∨ n = 54 ∨ n = 55) with e0 | e0 | e0 | e0 | e0 | e0 | e0 | e0 <;> subst e0
    · exact tj_tableIn (off := 3033) (tgt := 3078) dL_law_45 (by decide) (by decide) (by decide +kernel) (by decide) (lc_48 hx hi hI hr hc1 hc2 k)
    · exact tj_tableIn (off := 3046) (tgt := 3091) dL_law_45 (by decide) (by decide) (by decide +kernel) (by decide) (lc_49 hx hi hI hr hc1 hc2 k)
    · exact tj_tableIn (off := 3090) (tgt := 3135) dL_law_45 (by decide) (by decide) (by decide +kernel) (by decide) (lc_50 hx hi hI hr hc1 hc2 k)
    · exact tj_tableIn (off := 3146) (tgt := 3191) dL_law_45 (by decide) (by decide) (by decide +kernel) (by decide) (lc_51 hx hi hI hr hc1 hc2 k)
    · exact tj_tableIn (off := 3159) (tgt := 3204) dL_law_45 (by decide) (by decide) (by decide +kernel) (by decide) (lc_52 hx hi hI hr hc1 hc2 k)
    · exact tj_tableIn (off := 3172) (tgt := 3217) dL_law_45 (by decide) (by decide) (by decide +kernel) (by decide) (lc_53 hx hi hI hr hc1 hc2 k)
    · exact tj_tableIn (off := 3237) (tgt := 3282) dL_law_45 (by decide) (by decide) (by decide +kernel) (by decide) (lc_54 hx hi hI hr hc1 hc2 k)
    · exact tj_tableIn (off := 3303) (tgt := 3348) dL_law_45 (by decide) (by decide) (by decide +kernel) (by decide) (lc_55 hx hi hI hr hc1 hc2 k)
  refine tj_tableOut (tgt := 3361) dL_law_45 (Or.inr ?_) (by decide) (tj_widen (Nat.le_add_right _ _) (Nat.le_add_right _ _) (k σ f g ⟨r, by omega, hI⟩))
  rw [nI_toInt (by omega)]
  omega
theorem l_loop (hx : lcx G q s b Ls xs) : ∀ (n i r cells slots : Nat) (σ : sj_S) (f : Nat → Int64) (g : Nat → UInt64), Ls < i + 6 * (n + 1) → i ≤ Ls → zInv σ r → r + 200 * (n + 1) < 2 ^ 27 → cells + n ≤ 601024 → slots + 6 * n ≤ 7293034 → lJ G q p e s m below meth c b (lw_Z below #[Value.ref b] s) cells slots f g 28 (lL G q b i .null .null) σ [] := by
  have hLs : Ls ≤ 3072 := hx.2.2.2.2.2.2.2.2
  intro n
  induction n with
  | zero =>
    intro i r cells slots σ f g h1 h2 hI hr hc hs
    exact l_head hx h2 (fun _ => l_exit (by omega) (by omega)) (fun h => absurd h (by omega))
  | succ n ih =>
    intro i r cells slots σ f g h1 h2 hI hr hc hs
    refine l_head hx h2 (fun _ => l_exit (by omega) (by omega)) (fun h => ?_)
    refine l_body hx h hI (by omega) (by omega) (by omega) (fun σ2 f2 g2 hn => ?_)
    obtain ⟨r2, hr2, hI2⟩ := hn
    exact l_step (by omega) (ih (i + 6) r2 (cells + 1) (slots + 6) σ2 f2 g2 (by omega) h hI2 (by omega) (by omega) (by omega))
end LP
