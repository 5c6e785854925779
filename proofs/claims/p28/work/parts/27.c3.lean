/-! GongCycles: what is refused -/
/-- what an operation throws: three grounds, in their order -/
def c_thr (e1 e2 e3 : String) (a b c : Int32) (E : String) : Prop := (a = 0 ∧ E = e1) ∨ (¬ a = 0 ∧ b = 0 ∧ E = e2) ∨ (¬ a = 0 ∧ ¬ b = 0 ∧ c = 0 ∧ E = e3)
theorem f_in_ok {x a c : Int32} (h1 : ¬ x < a) (h2 : ¬ c < x) : ¬ f_in x a c = 0 := by rw [rng_ok h1 h2]; decide
abbrev rm_X5_refuseNoPart : Room := { frames := 6, cells := 1, slots := 6, locals := 230 }
theorem nm_X5_refuseNoPart : gNm yX5_refuseNoPart 1 := ⟨by decide +kernel, by decide +kernel, by decide +kernel⟩
set_option maxHeartbeats 4000000 in
set_option maxRecDepth 100000 in
theorem c_X5_refuseNoPart (l : Launch) (hfl : l.stackTraces = false) (D : va_G) (tc : Nat → ClassId) (A : Nat → Prop) (w : gW) (x : Int32) : gM l yX5_refuseNoPart cX5_refuseNoPart 1 none rm_X5_refuseNoPart D tc A [.int x] w (fun v w' => v = none ∧ w' = w ∧ ¬ f_in x 0 3 = 0) (fun E => f_in x 0 3 = 0 ∧ E = gIO) := by
  refine gM_of (by decide +kernel) (Nat.le_of_ble_eq_true rfl) ?_
  intro p e s m args below meth c ls Q hQ hE hG hr hnt hnm hl
  have hx := hE.1
  have hb := hE.2.1
  have hl : lv_has ls 1 [(0, .int x)] := hl
  refine lv_iload_n hx hb dX5_refuseNoPart_0 rfl (lv_at hl 0 rfl) ?_
  refine lv_if_lt (tgt := 9) hx hb dX5_refuseNoPart_1 (by decide) (fun c_1 => ?_) (fun c_1 => ?_)
  · skip
    subst hQ
    exact g_thrW (E := gIO) hfl hE hG hl.1 hnt gTgIO (List.mem_of_getElem? (i := 25) rfl) dX5_refuseNoPart_9 dX5_refuseNoPart_12 dX5_refuseNoPart_13 dX5_refuseNoPart_16 dX5_refuseNoPart_19 (by refine ⟨?_, ?_, ?_, ?_, ?_, ?_⟩ <;> exact Nat.le_of_ble_eq_true rfl) rfl ⟨rng_lo c_1, rfl⟩
  · skip
    refine lv_iload_n hx hb dX5_refuseNoPart_4 rfl (lv_at hl 0 rfl) ?_
    refine lv_iconst (v := 3) hx hb dX5_refuseNoPart_5 (by decide) ?_
    refine lv_icmp_le (tgt := 20) hx hb dX5_refuseNoPart_6 (by decide) (fun c_2 => ?_) (fun c_2 => ?_)
    · skip
      subst hQ
      exact g_vret hE hG hr (Nat.le_of_ble_eq_true rfl) (Nat.le_of_ble_eq_true rfl) dX5_refuseNoPart_20 ⟨rfl, rfl, f_in_ok c_1 (Int32.not_lt.mpr c_2)⟩
    · skip
      subst hQ
      exact g_thrW (E := gIO) hfl hE hG hl.1 hnt gTgIO (List.mem_of_getElem? (i := 25) rfl) dX5_refuseNoPart_9 dX5_refuseNoPart_12 dX5_refuseNoPart_13 dX5_refuseNoPart_16 dX5_refuseNoPart_19 (by refine ⟨?_, ?_, ?_, ?_, ?_, ?_⟩ <;> exact Nat.le_of_ble_eq_true rfl) rfl ⟨rng_hi (Int32.not_le.mp c_2), rfl⟩
abbrev rm_X5_refuseNoTone : Room := { frames := 6, cells := 1, slots := 6, locals := 230 }
theorem nm_X5_refuseNoTone : gNm yX5_refuseNoTone 1 := ⟨by decide +kernel, by decide +kernel, by decide +kernel⟩
set_option maxHeartbeats 4000000 in
set_option maxRecDepth 100000 in
theorem c_X5_refuseNoTone (l : Launch) (hfl : l.stackTraces = false) (D : va_G) (tc : Nat → ClassId) (A : Nat → Prop) (w : gW) (x : Int32) : gM l yX5_refuseNoTone cX5_refuseNoTone 1 none rm_X5_refuseNoTone D tc A [.int x] w (fun v w' => v = none ∧ w' = w ∧ ¬ f_in x 1 7 = 0) (fun E => f_in x 1 7 = 0 ∧ E = gIO) := by
  refine gM_of (by decide +kernel) (Nat.le_of_ble_eq_true rfl) ?_
  intro p e s m args below meth c ls Q hQ hE hG hr hnt hnm hl
  have hx := hE.1
  have hb := hE.2.1
  have hl : lv_has ls 1 [(0, .int x)] := hl
  refine lv_iload_n hx hb dX5_refuseNoTone_0 rfl (lv_at hl 0 rfl) ?_
  refine lv_iconst (v := 1) hx hb dX5_refuseNoTone_1 (by decide) ?_
  refine lv_icmp_lt (tgt := 11) hx hb dX5_refuseNoTone_2 (by decide) (fun c_1 => ?_) (fun c_1 => ?_)
  · skip
    subst hQ
    exact g_thrW (E := gIO) hfl hE hG hl.1 hnt gTgIO (List.mem_of_getElem? (i := 26) rfl) dX5_refuseNoTone_11 dX5_refuseNoTone_14 dX5_refuseNoTone_15 dX5_refuseNoTone_18 dX5_refuseNoTone_21 (by refine ⟨?_, ?_, ?_, ?_, ?_, ?_⟩ <;> exact Nat.le_of_ble_eq_true rfl) rfl ⟨rng_lo c_1, rfl⟩
  · skip
    refine lv_iload_n hx hb dX5_refuseNoTone_5 rfl (lv_at hl 0 rfl) ?_
    refine lv_bipush (v := 7) hx hb dX5_refuseNoTone_6 (by decide) ?_
    refine lv_icmp_le (tgt := 22) hx hb dX5_refuseNoTone_8 (by decide) (fun c_2 => ?_) (fun c_2 => ?_)
    · skip
      subst hQ
      exact g_vret hE hG hr (Nat.le_of_ble_eq_true rfl) (Nat.le_of_ble_eq_true rfl) dX5_refuseNoTone_22 ⟨rfl, rfl, f_in_ok c_1 (Int32.not_lt.mpr c_2)⟩
    · skip
      subst hQ
      exact g_thrW (E := gIO) hfl hE hG hl.1 hnt gTgIO (List.mem_of_getElem? (i := 26) rfl) dX5_refuseNoTone_11 dX5_refuseNoTone_14 dX5_refuseNoTone_15 dX5_refuseNoTone_18 dX5_refuseNoTone_21 (by refine ⟨?_, ?_, ?_, ?_, ?_, ?_⟩ <;> exact Nat.le_of_ble_eq_true rfl) rfl ⟨rng_hi (Int32.not_le.mp c_2), rfl⟩
abbrev rm_X5_refuseNoToneOrRest : Room := { frames := 6, cells := 1, slots := 6, locals := 230 }
theorem nm_X5_refuseNoToneOrRest : gNm yX5_refuseNoToneOrRest 1 := ⟨by decide +kernel, by decide +kernel, by decide +kernel⟩
set_option maxHeartbeats 4000000 in
set_option maxRecDepth 100000 in
theorem c_X5_refuseNoToneOrRest (l : Launch) (hfl : l.stackTraces = false) (D : va_G) (tc : Nat → ClassId) (A : Nat → Prop) (w : gW) (x : Int32) : gM l yX5_refuseNoToneOrRest cX5_refuseNoToneOrRest 1 none rm_X5_refuseNoToneOrRest D tc A [.int x] w (fun v w' => v = none ∧ w' = w ∧ ¬ f_in x 0 7 = 0) (fun E => f_in x 0 7 = 0 ∧ E = gIA) := by
  refine gM_of (by decide +kernel) (Nat.le_of_ble_eq_true rfl) ?_
  intro p e s m args below meth c ls Q hQ hE hG hr hnt hnm hl
  have hx := hE.1
  have hb := hE.2.1
  have hl : lv_has ls 1 [(0, .int x)] := hl
  refine lv_iload_n hx hb dX5_refuseNoToneOrRest_0 rfl (lv_at hl 0 rfl) ?_
  refine lv_if_lt (tgt := 10) hx hb dX5_refuseNoToneOrRest_1 (by decide) (fun c_1 => ?_) (fun c_1 => ?_)
  · skip
    subst hQ
    exact g_thrW (E := gIA) hfl hE hG hl.1 hnt gTgIA (List.mem_of_getElem? (i := 27) rfl) dX5_refuseNoToneOrRest_10 dX5_refuseNoToneOrRest_13 dX5_refuseNoToneOrRest_14 dX5_refuseNoToneOrRest_17 dX5_refuseNoToneOrRest_20 (by refine ⟨?_, ?_, ?_, ?_, ?_, ?_⟩ <;> exact Nat.le_of_ble_eq_true rfl) rfl ⟨rng_lo c_1, rfl⟩
  · skip
    refine lv_iload_n hx hb dX5_refuseNoToneOrRest_4 rfl (lv_at hl 0 rfl) ?_
    refine lv_bipush (v := 7) hx hb dX5_refuseNoToneOrRest_5 (by decide) ?_
    refine lv_icmp_le (tgt := 21) hx hb dX5_refuseNoToneOrRest_7 (by decide) (fun c_2 => ?_) (fun c_2 => ?_)
    · skip
      subst hQ
      exact g_vret hE hG hr (Nat.le_of_ble_eq_true rfl) (Nat.le_of_ble_eq_true rfl) dX5_refuseNoToneOrRest_21 ⟨rfl, rfl, f_in_ok c_1 (Int32.not_lt.mpr c_2)⟩
    · skip
      subst hQ
      exact g_thrW (E := gIA) hfl hE hG hl.1 hnt gTgIA (List.mem_of_getElem? (i := 27) rfl) dX5_refuseNoToneOrRest_10 dX5_refuseNoToneOrRest_13 dX5_refuseNoToneOrRest_14 dX5_refuseNoToneOrRest_17 dX5_refuseNoToneOrRest_20 (by refine ⟨?_, ?_, ?_, ?_, ?_, ?_⟩ <;> exact Nat.le_of_ble_eq_true rfl) rfl ⟨rng_hi (Int32.not_le.mp c_2), rfl⟩
abbrev rm_X5_refuseNoPlace : Room := { frames := 6, cells := 1, slots := 6, locals := 230 }
theorem nm_X5_refuseNoPlace : gNm yX5_refuseNoPlace 2 := ⟨by decide +kernel, by decide +kernel, by decide +kernel⟩
set_option maxHeartbeats 4000000 in
set_option maxRecDepth 100000 in
theorem c_X5_refuseNoPlace (l : Launch) (hfl : l.stackTraces = false) (D : va_G) (tc : Nat → ClassId) (A : Nat → Prop) (w : gW) (k0 : Nat) (k1 : Nat) (h0 : Nat) (t : Nat) (n : Nat) (f : Nat → Int32) (x : Int32) (h1 : w k0 = some (h0, .inr (1, [.ref t]))) (h2 : w k1 = some (t, .inl (tc 0, n, .inl f))) : gM l yX5_refuseNoPlace cX5_refuseNoPlace 2 none rm_X5_refuseNoPlace D tc A [.ref h0, .int x] w (fun v w' => v = none ∧ w' = w ∧ ¬ f_has n x = 0) (fun E => f_has n x = 0 ∧ E = gIO) := by
  refine gM_of (by decide +kernel) (Nat.le_of_ble_eq_true rfl) ?_
  intro p e s m args below meth c ls Q hQ hE hG hr hnt hnm hl
  have hx := hE.1
  have hb := hE.2.1
  have hl : lv_has ls 2 [(0, .ref h0), (1, .int x)] := hl
  refine lv_aload_n hx hb dX5_refuseNoPlace_0 rfl (lv_at hl 0 rfl) ?_
  refine lv_iload_n hx hb dX5_refuseNoPlace_1 rfl (lv_at hl 1 rfl) ?_
  refine g_callV (rest := []) (As := [.int x]) hE hG hl.1 (c_X1_hasPlace l hfl D tc A w k0 k1 h0 t n f x h1 h2 ) h1 rfl mw2_65 mw2_66 mw2_67 mw1_11 mw2_68 rfl nm_X1_hasPlace ⟨⟨Nat.le_of_ble_eq_true rfl, Nat.le_of_ble_eq_true rfl⟩, Nat.le_of_ble_eq_true rfl, Nat.le_of_ble_eq_true rfl⟩ rfl rfl (Nat.le_of_ble_eq_true rfl) dX5_refuseNoPlace_2 (g_no) ?_
  intro v9 w9 H locs h9 hG
  obtain ⟨e9, f9⟩ := h9
  rw [f9] at hG; rw [e9]; clear e9 f9
  show W p l e _ s m args below meth c H locs _ _ _ (F0 m 5 ls [.int (f_has n x)])
  refine lv_if_ne (tgt := 18) hx hb dX5_refuseNoPlace_5 (by decide) (fun c_1 => ?_) (fun c_1 => ?_)
  · skip
    subst hQ
    exact g_vret hE hG hr (Nat.le_of_ble_eq_true rfl) (Nat.le_of_ble_eq_true rfl) dX5_refuseNoPlace_18 ⟨rfl, rfl, c_1⟩
  · skip
    subst hQ
    exact g_thr (E := gIO) hfl hE hG hl.1 hnt gTgIO (List.mem_of_getElem? (i := 2) rfl) dX5_refuseNoPlace_8 dX5_refuseNoPlace_11 dX5_refuseNoPlace_12 dX5_refuseNoPlace_14 dX5_refuseNoPlace_17 (by refine ⟨?_, ?_, ?_, ?_, ?_, ?_⟩ <;> exact Nat.le_of_ble_eq_true rfl) rfl ⟨c_1, rfl⟩
abbrev rm_X5_refuseSilence : Room := { frames := 6, cells := 1, slots := 6, locals := 230 }
theorem nm_X5_refuseSilence : gNm yX5_refuseSilence 0 := ⟨by decide +kernel, by decide +kernel, by decide +kernel⟩
set_option maxHeartbeats 4000000 in
set_option maxRecDepth 100000 in
theorem c_X5_refuseSilence (l : Launch) (hfl : l.stackTraces = false) (D : va_G) (tc : Nat → ClassId) (A : Nat → Prop) (w : gW) (ca : Nat → Nat) (d : gDt) (tk : Int64) (st : Nat → Int64) (hC : cW tc w ca d tk st) (hOk : mOk d) : gM l yX5_refuseSilence cX5_refuseSilence 1 none rm_X5_refuseSilence D tc A [.ref (ca 0)] w (fun v w' => w' = w ∧ v = none ∧ ¬ d 9 2 = 0) (fun E => d 9 2 = 0 ∧ E = gIS) := by
  refine gM_of (by decide +kernel) (Nat.le_of_ble_eq_true rfl) ?_
  intro p e s m args below meth c ls Q hQ hE hG hr hnt hnm hl
  have hx := hE.1
  have hb := hE.2.1
  have hl : lv_has ls 1 [(0, .ref (ca 0))] := hl
  obtain ⟨⟨z0, z1, z2, z5, z6⟩, ⟨cy, ge, sf, z3, z4, hsf, hce, hcy⟩, zP, zS, zU, zV, zN⟩ := id hC
  refine lv_aload_n hx hb dX5_refuseSilence_0 rfl (lv_at hl 0 rfl) ?_
  refine g_get hE hG z0 rfl inG5 4 (by decide) mw1_105 rfl dX5_refuseSilence_1 ?_
  refine g_getN hE hG z3 rfl inG4 7 (by decide) (List.mem_of_getElem? (i := 5) rfl) rfl dX5_refuseSilence_4 ?_
  refine lv_if_ne (tgt := 21) hx hb dX5_refuseSilence_7 (by decide) (fun c_1 => ?_) (fun c_1 => ?_)
  · skip
    subst hQ
    exact g_vret hE hG hr (Nat.le_of_ble_eq_true rfl) (Nat.le_of_ble_eq_true rfl) dX5_refuseSilence_21 ⟨rfl, rfl, c_1⟩
  · skip
    subst hQ
    exact g_thrW (E := gIS) hfl hE hG hl.1 hnt gTgIS (List.mem_of_getElem? (i := 30) rfl) dX5_refuseSilence_10 dX5_refuseSilence_13 dX5_refuseSilence_14 dX5_refuseSilence_17 dX5_refuseSilence_20 (by refine ⟨?_, ?_, ?_, ?_, ?_, ?_⟩ <;> exact Nat.le_of_ble_eq_true rfl) rfl ⟨c_1, rfl⟩
