/-! GongCycles: pitch, tune, beat, years -/
theorem gD_gD (d : gDt) (k : Nat) (f g : Nat → Int32) : gD (gD d k f) k g = gD d k g := by
  funext j
  show (if j = k then g else if j = k then f else d j) = (if j = k then g else d j)
  by_cases h : j = k
  · rw [if_pos h, if_pos h]
  · rw [if_neg h, if_neg h, if_neg h]
theorem in7 {y : Int32} (r : ¬ f_in y 1 7 = 0) : ∃ j, j < 7 ∧ y = nI (j + 1) ∧ (y - 1).toNatClampNeg = j ∧ ¬ y < 1 ∧ ¬ 7 < y := by
  obtain ⟨h1, h2⟩ := f_in_ne r
  obtain ⟨q, a, b, e⟩ := nI_bet (a := 1) (b := 7) (by omega) h1 h2 (by omega)
  refine ⟨q - 1, by omega, by rw [e, show q - 1 + 1 = q by omega], ?_, Int32.not_lt.mpr h1, Int32.not_lt.mpr h2⟩
  have g : (nI q - 1).toInt = (q : Int) - 1 := nI_prd (by omega)
  rw [e]
  show (nI q - 1).toInt.toNat = q - 1
  omega
theorem pit_ix {i j : Nat} (hi : i < 4) (hj : j < 7) : ((8 : Int32) * nI i + nI (j + 1)).toNatClampNeg = 8 * i + j + 1 := by
  rw [show (8 : Int32) = nI 8 from rfl, pk_mul, nI_add, nI_clamp (by omega)]
  omega
theorem pit_at {d : gDt} {i : Nat} {y : Int32} {f : Nat → Int32} (hi : i < 4) (hf : ∀ j, j < 7 → f j = d 4 (8 * i + j + 1)) (r : ¬ f_in y 1 7 = 0) : f_pit f y = d 4 ((8 : Int32) * nI i + y).toNatClampNeg := by
  obtain ⟨j, hj, e, g, h1, h2⟩ := in7 r
  unfold f_pit
  rw [if_neg h1, if_neg h2, g, hf j hj, e, pit_ix hi hj]
theorem pit_put {d : gDt} {i : Nat} {y z : Int32} {f : Nat → Int32} (hi : i < 4) (hf : ∀ j, j < 7 → f j = d 4 (8 * i + j + 1)) (r : ¬ f_in y 1 7 = 0) : (∀ j, j < 7 → f_pput f y z j = upd (d 4) ((8 : Int32) * nI i + y).toNatClampNeg z (8 * i + j + 1)) ∧ (∀ s j, s ≠ i → j < 7 → upd (d 4) ((8 : Int32) * nI i + y).toNatClampNeg z (8 * s + j + 1) = d 4 (8 * s + j + 1)) := by
  obtain ⟨q, hq, e, g, h1, h2⟩ := in7 r
  unfold f_pput
  rw [if_neg h1, if_neg h2, g, e, pit_ix hi hq]
  constructor
  · intro j hj
    by_cases hjq : j = q
    · subst hjq; rw [upd_e, upd_e]
    · rw [upd_n hjq, upd_n (by omega)]; exact hf j hj
  · intro s j h1 h2
    exact upd_n (by omega)
theorem cW_pit {tc : Nat → ClassId} {w w' : gW} {ca : Nat → Nat} {d : gDt} {tk : Int64} {st : Nat → Int64} {i : Nat} {f' p' : Nat → Int32} (hC : cW tc w ca d tk st) (hOk : mOk d) (hi : i < 4) (hf : ∀ j, j < 7 → f' j = p' (8 * i + j + 1)) (ho : ∀ s j, s ≠ i → j < 7 → p' (8 * s + j + 1) = d 4 (8 * s + j + 1)) (ew : w' = gU w (70 + i) (ca (70 + i), .inl (tc 0, 7, .inl f'))) : cW tc w' ca (gD d 4 p') tk st := by
  obtain ⟨⟨z0, z1, z2, z5, z6⟩, ⟨cy, ge, sf, z3, z4, hsf, hce, hcy⟩, zP, zS, zU, zV, zN1, zN2, zN3⟩ := hC
  have b1 := hOk.1.2.1
  have b2 := hOk.1.2.2
  refine ⟨⟨by rw [gU_at ew (by omega)]; exact z0, by rw [gU_at ew (by omega)]; exact z1, by rw [gU_at ew (by omega)]; exact z2, by rw [gU_at ew (by omega)]; exact z5, by rw [gU_at ew (by omega)]; exact z6⟩, ⟨cy, ge, sf, by rw [gU_at ew (by omega)]; exact z3, by rw [gU_at ew (by omega)]; exact z4, hsf, hce, hcy⟩, ?_, ?_, ?_, ?_, ?_, ?_, ?_⟩
  · intro j hj
    have hj : j < nP d := hj
    exact cP_fr (zP j hj) (gU_at ew (by omega)) (gU_at ew (by omega)) (gU_at ew (by omega)) rfl rfl rfl
  · intro j hj
    by_cases hji : j = i
    · subst hji
      obtain ⟨a, f, e, g⟩ := zS j hj
      exact ⟨by rw [gU_at ew (by omega)]; exact a, f', gU_s ew, hf⟩
    · obtain ⟨a, f, e, g⟩ := zS j hj
      exact ⟨by rw [gU_at ew (by omega)]; exact a, f, by rw [gU_at ew (by omega)]; exact e, fun q hq => (g q hq).trans (ho j q hji hq).symm⟩
  · intro u hu
    have hu : u < nU d := hu
    exact cU_fr (zU u hu) (gU_at ew (by omega)) (gU_at ew (by omega)) rfl rfl
  · intro u j hu hj hk
    obtain ⟨a1, a2, a3⟩ := zV u j hu hj hk
    exact ⟨a1, a2, cV_fr a3 (gU_at ew (by omega)) (gU_at ew (by omega)) rfl rfl⟩
  · intro j h1 h9
    rw [gU_at ew (by omega), gU_at ew (by omega), gU_at ew (by omega)]
    exact zN1 j h1 h9
  · intro u h1 h9
    rw [gU_at ew (by omega), gU_at ew (by omega)]
    exact zN2 u h1 h9
  · intro u j hu hj h9
    rw [gU_at ew (by omega), gU_at ew (by omega)]
    exact zN3 u j hu hj h9
abbrev rm_X5_pitch : Room := { frames := 7, cells := 8, slots := 48, locals := 266 }
theorem nm_X5_pitch : gNm yX5_pitch 3 := ⟨by decide +kernel, by decide +kernel, by decide +kernel⟩
set_option maxHeartbeats 4000000 in
set_option maxRecDepth 100000 in
theorem c_X5_pitch (l : Launch) (hfl : l.stackTraces = false) (D : va_G) (tc : Nat → ClassId) (A : Nat → Prop) (w : gW) (ca : Nat → Nat) (d : gDt) (tk : Int64) (st : Nat → Int64) (x : Int32) (y : Int32) (z : Int32) (hC : cW tc w ca d tk st) (hOk : mOk d) : gM l yX5_pitch cX5_pitch 5 (some .int) rm_X5_pitch D tc A [.ref (ca 0), .int x, .int y, .int z] w (fun v w' => ¬ m_go (ga_pitch d x y z) (gb_pitch d x y z) (gc_pitch d x y z) = 0 ∧ v = some (.int (d 4 (8 * x + y).toNatClampNeg)) ∧ (∃ ca' : Nat → Nat, ca' 0 = ca 0 ∧ cW tc w' ca' (sL (gD d 4 (upd (d 4) (8 * x + y).toNatClampNeg z)) 0) tk st) ∧ gK w w') (c_thr gIO gIA gIS (ga_pitch d x y z) (gb_pitch d x y z) (gc_pitch d x y z)) := by
  refine gM_of (by decide +kernel) (Nat.le_of_ble_eq_true rfl) ?_
  intro p e s m args below meth c ls Q hQ hE hG hr hnt hnm hl
  have hx := hE.1
  have hb := hE.2.1
  have hl : lv_has ls 5 [(0, .ref (ca 0)), (1, .int x), (2, .int y), (3, .int z)] := hl
  obtain ⟨⟨z0, z1, z2, z5, z6⟩, ⟨cy, ge, sf, z3, z4, hsf, hce, hcy⟩, zP, zS, zU, zV, zN⟩ := id hC
  refine lv_aload_n hx hb dX5_pitch_0 rfl (lv_at hl 0 rfl) ?_
  refine lv_iload_n hx hb dX5_pitch_1 rfl (lv_at hl 1 rfl) ?_
  refine g_callV (rest := []) (As := [.int x]) hE hG hl.1 (c_X5_setAt l hfl D tc A w ca d tk st x hC hOk) z0 rfl mw2_187 mw2_189 mws_7 mw1_1 mw2_190 rfl nm_X5_setAt ⟨⟨Nat.le_of_ble_eq_true rfl, Nat.le_of_ble_eq_true rfl⟩, Nat.le_of_ble_eq_true rfl, Nat.le_of_ble_eq_true rfl⟩ rfl rfl (Nat.le_of_ble_eq_true rfl) dX5_pitch_2 (by subst hQ; exact g_out hE hnt rfl (fun E h => Or.inl ⟨by unfold ga_pitch; rw [if_pos h.1], h.2⟩) (Nat.le_of_ble_eq_true rfl) (Nat.le_of_ble_eq_true rfl)) ?_
  intro v9 w9 H locs h9 hG
  obtain ⟨e8, i_1, hi_1, hxi_1, e9⟩ := h9
  rw [e9]; clear e9
  rw [e8] at hG; clear e8
  show W p l e _ s m args below meth c H locs _ _ _ (F0 m 5 ls [.ref (ca (60 + i_1))])
  subst hxi_1
  obtain ⟨q1a, qfa, q3a, q4a⟩ := zS i_1 hi_1
  refine lv_astore (lv' := [(4, .ref (ca (60 + i_1))), (0, .ref (ca 0)), (1, .int (nI i_1)), (2, .int y), (3, .int z)]) hx hb dX5_pitch_5 hl (by decide) rfl (fun ls hl => ?_)
  refine lv_iload_n hx hb dX5_pitch_7 rfl (lv_at hl 3 rfl) ?_
  refine g_callS (rest := []) (As := [.int y]) hE hG hl.1 (c_X5_refuseNoTone l hfl D tc A w y ) mw2_192 mw2_193 mw1_1 mw2_194 nm_X5_refuseNoTone ⟨⟨Nat.le_of_ble_eq_true rfl, Nat.le_of_ble_eq_true rfl⟩, Nat.le_of_ble_eq_true rfl, Nat.le_of_ble_eq_true rfl⟩ rfl rfl (Nat.le_of_ble_eq_true rfl) dX5_pitch_8 (by subst hQ; exact g_out hE hnt rfl (fun E h => Or.inl ⟨by unfold ga_pitch; rw [if_neg (isSet_s hi_1), if_pos h.1], h.2⟩) (Nat.le_of_ble_eq_true rfl) (Nat.le_of_ble_eq_true rfl)) ?_
  intro v9 w9 H locs h9 hG
  obtain ⟨e9, e8, r_2⟩ := h9
  rw [e8] at hG; rw [e9]; clear e8 e9
  show W p l e _ s m args below meth c H locs _ _ _ (F0 m 11 ls [])
  refine lv_iload_n hx hb dX5_pitch_11 rfl (lv_at hl 4 rfl) ?_
  refine lv_sipush (v := 5000) hx hb dX5_pitch_12 (by decide) ?_
  refine lv_icmp_lt (tgt := 24) hx hb dX5_pitch_15 (by decide) (fun c_3 => ?_) (fun c_3 => ?_)
  · skip
    subst hQ
    exact g_thr (E := gIA) hfl hE hG hl.1 hnt gTgIA (List.mem_of_getElem? (i := 11) rfl) dX5_pitch_24 dX5_pitch_27 dX5_pitch_28 dX5_pitch_30 dX5_pitch_33 (by refine ⟨?_, ?_, ?_, ?_, ?_, ?_⟩ <;> exact Nat.le_of_ble_eq_true rfl) rfl (Or.inr (Or.inl ⟨(by unfold ga_pitch; rw [if_neg (isSet_s hi_1), if_neg r_2]; decide), rng_lo c_3, rfl⟩))
  · skip
    refine lv_iload_n hx hb dX5_pitch_18 rfl (lv_at hl 4 rfl) ?_
    refine lv_ldc (v := 200000) hx hb hE.2.2.2.1 (hE.2.2.2.2.1 _ mw2_196) dX5_pitch_19 ?_
    refine lv_icmp_le (tgt := 34) hx hb dX5_pitch_21 (by decide) (fun c_4 => ?_) (fun c_4 => ?_)
    · skip
      refine lv_aload hx hb dX5_pitch_34 (lv_at hl 0 rfl) ?_
      refine lv_iload_n hx hb dX5_pitch_36 rfl (lv_at hl 3 rfl) ?_
      refine lv_iload_n hx hb dX5_pitch_37 rfl (lv_at hl 4 rfl) ?_
      refine g_callV (rest := []) (As := [.int y, .int z]) hE hG hl.1 (c_X0_putPitch l hfl D tc A w (60 + i_1) (70 + i_1) (ca (60 + i_1)) (ca (70 + i_1)) (d 5 i_1) qfa y z q1a q3a ) q1a rfl mw2_198 mw2_199 mw2_200 mw1_3 mw2_201 rfl nm_X0_putPitch ⟨⟨Nat.le_of_ble_eq_true rfl, Nat.le_of_ble_eq_true rfl⟩, Nat.le_of_ble_eq_true rfl, Nat.le_of_ble_eq_true rfl⟩ rfl rfl (Nat.le_of_ble_eq_true rfl) dX5_pitch_38 (g_no) ?_
      intro v9 w9 H locs h9 hG
      obtain ⟨e9, ew_5⟩ := h9
      rw [e9]; clear e9; revert w9; intro w_5 hG ew_5
      show W p l e _ s m args below meth c H locs _ _ _ (F0 m 41 ls [.int (f_pit qfa y)])
      have h_6 : w_5 0 = some ((ca 0), .inr (5, [.ref (ca 1), .int (d 9 0), .ref (ca 2), .int (d 9 1), .ref (ca 3), .int (d 9 10), .int (d 9 11), .ref (ca 5), .int (d 9 12), .ref (ca 6), .int (d 9 13)])) := gU_n ew_5 (by omega) z0
      have h_7 : w_5 1 = some ((ca 1), .inl (tc 0, 4, .inl (d 0))) := gU_n ew_5 (by omega) z1
      have h_8 : w_5 2 = some ((ca 2), .inl (tc 3, 6, .inr (.inr (.inr (.inr (c_pf ca (nP d))))))) := gU_n ew_5 (by omega) z2
      have h_9 : w_5 5 = some ((ca 5), .inl (tc 4, 4, .inr (.inr (.inr (.inr (c_sf ca)))))) := gU_n ew_5 (by omega) z5
      have h_10 : w_5 6 = some ((ca 6), .inl (tc 5, 8, .inr (.inr (.inr (.inr (c_uf ca (nU d))))))) := gU_n ew_5 (by omega) z6
      have h_11 : w_5 3 = some ((ca 3), .inr (4, [.int (d 9 3), .int cy, .int (d 9 4), .int (d 9 5), .int (d 9 6), .int (d 9 7), .int (d 9 8), .int (d 9 2), .int ge, .long tk, .ref (ca 4)])) := gU_n ew_5 (by omega) z3
      have h_12 : w_5 4 = some ((ca 4), .inl (tc 1, 4, .inr (.inl sf))) := gU_n ew_5 (by omega) z4
      have h_13 : w_5 (60 + i_1) = some ((ca (60 + i_1)), .inr (0, [.ref (ca (70 + i_1)), .int (d 5 i_1)])) := gU_n ew_5 (by omega) q1a
      have h_14 : w_5 (70 + i_1) = some ((ca (70 + i_1)), .inl (tc 0, 7, .inl (f_pput qfa y z))) := gU_s ew_5
      subst hQ
      exact g_iret hE hG hr (Nat.le_of_ble_eq_true rfl) (Nat.le_of_ble_eq_true rfl) dX5_pitch_41 ⟨m_go_i (by unfold ga_pitch; rw [if_neg (isSet_s hi_1), if_neg r_2]; decide) (f_in_ok c_3 (Int32.not_lt.mpr c_4)) one_nz, congrArg (fun a => some (Value.int a)) (pit_at hi_1 q4a r_2), ⟨ca, rfl, cW_l (cW_pit hC hOk hi_1 (pit_put hi_1 q4a r_2).1 (pit_put hi_1 q4a r_2).2 ew_5) 0⟩, gK_u (gK_rf w) ew_5 (by omega)⟩
    · skip
      subst hQ
      exact g_thr (E := gIA) hfl hE hG hl.1 hnt gTgIA (List.mem_of_getElem? (i := 11) rfl) dX5_pitch_24 dX5_pitch_27 dX5_pitch_28 dX5_pitch_30 dX5_pitch_33 (by refine ⟨?_, ?_, ?_, ?_, ?_, ?_⟩ <;> exact Nat.le_of_ble_eq_true rfl) rfl (Or.inr (Or.inl ⟨(by unfold ga_pitch; rw [if_neg (isSet_s hi_1), if_neg r_2]; decide), rng_hi (Int32.not_le.mp c_4), rfl⟩))
abbrev rm_X5_beat : Room := { frames := 7, cells := 8, slots := 48, locals := 266 }
theorem nm_X5_beat : gNm yX5_beat 3 := ⟨by decide +kernel, by decide +kernel, by decide +kernel⟩
set_option maxHeartbeats 4000000 in
set_option maxRecDepth 100000 in
theorem c_X5_beat (l : Launch) (hfl : l.stackTraces = false) (D : va_G) (tc : Nat → ClassId) (A : Nat → Prop) (w : gW) (ca : Nat → Nat) (d : gDt) (tk : Int64) (st : Nat → Int64) (x : Int32) (y : Int32) (z : Int32) (hC : cW tc w ca d tk st) (hOk : mOk d) : gM l yX5_beat cX5_beat 6 (some .int) rm_X5_beat D tc A [.ref (ca 0), .int x, .int y, .int z] w (fun v w' => ¬ m_go (ga_beat d x y z) (gb_beat d x y z) (gc_beat d x y z) = 0 ∧ v = some (.int (m_beat d x y z)) ∧ (∃ ca' : Nat → Nat, ca' 0 = ca 0 ∧ cW tc w' ca' (sL d 0) tk st) ∧ gK w w') (c_thr gIO gIS gIS (ga_beat d x y z) (gb_beat d x y z) (gc_beat d x y z)) := by
  refine gM_of (by decide +kernel) (Nat.le_of_ble_eq_true rfl) ?_
  intro p e s m args below meth c ls Q hQ hE hG hr hnt hnm hl
  have hx := hE.1
  have hb := hE.2.1
  have hl : lv_has ls 6 [(0, .ref (ca 0)), (1, .int x), (2, .int y), (3, .int z)] := hl
  obtain ⟨⟨z0, z1, z2, z5, z6⟩, ⟨cy, ge, sf, z3, z4, hsf, hce, hcy⟩, zP, zS, zU, zV, zN⟩ := id hC
  refine lv_aload_n hx hb dX5_beat_0 rfl (lv_at hl 0 rfl) ?_
  refine lv_iload_n hx hb dX5_beat_1 rfl (lv_at hl 1 rfl) ?_
  refine g_callV (rest := []) (As := [.int x]) hE hG hl.1 (c_X5_setAt l hfl D tc A w ca d tk st x hC hOk) z0 rfl mw2_187 mw2_189 mws_7 mw1_1 mw2_190 rfl nm_X5_setAt ⟨⟨Nat.le_of_ble_eq_true rfl, Nat.le_of_ble_eq_true rfl⟩, Nat.le_of_ble_eq_true rfl, Nat.le_of_ble_eq_true rfl⟩ rfl rfl (Nat.le_of_ble_eq_true rfl) dX5_beat_2 (by subst hQ; exact g_out hE hnt rfl (fun E h => Or.inl ⟨by unfold ga_beat; rw [if_pos h.1], h.2⟩) (Nat.le_of_ble_eq_true rfl) (Nat.le_of_ble_eq_true rfl)) ?_
  intro v9 w9 H locs h9 hG
  obtain ⟨e8, i_1, hi_1, hxi_1, e9⟩ := h9
  rw [e9]; clear e9
  rw [e8] at hG; clear e8
  show W p l e _ s m args below meth c H locs _ _ _ (F0 m 5 ls [.ref (ca (60 + i_1))])
  subst hxi_1
  obtain ⟨q1a, qfa, q3a, q4a⟩ := zS i_1 hi_1
  refine lv_astore (lv' := [(4, .ref (ca (60 + i_1))), (0, .ref (ca 0)), (1, .int (nI i_1)), (2, .int y), (3, .int z)]) hx hb dX5_beat_5 hl (by decide) rfl (fun ls hl => ?_)
  refine lv_aload_n hx hb dX5_beat_7 rfl (lv_at hl 1 rfl) ?_
  refine lv_iload_n hx hb dX5_beat_8 rfl (lv_at hl 3 rfl) ?_
  refine g_callV (rest := []) (As := [.int y]) hE hG hl.1 (c_X5_setAt l hfl D tc A w ca d tk st y hC hOk) z0 rfl mw2_187 mw2_189 mws_7 mw1_1 mw2_190 rfl nm_X5_setAt ⟨⟨Nat.le_of_ble_eq_true rfl, Nat.le_of_ble_eq_true rfl⟩, Nat.le_of_ble_eq_true rfl, Nat.le_of_ble_eq_true rfl⟩ rfl rfl (Nat.le_of_ble_eq_true rfl) dX5_beat_9 (by subst hQ; exact g_out hE hnt rfl (fun E h => Or.inl ⟨by unfold ga_beat; rw [if_neg (isSet_s hi_1), if_pos h.1], h.2⟩) (Nat.le_of_ble_eq_true rfl) (Nat.le_of_ble_eq_true rfl)) ?_
  intro v9 w9 H locs h9 hG
  obtain ⟨e8, i_2, hi_2, hxi_2, e9⟩ := h9
  rw [e9]; clear e9
  rw [e8] at hG; clear e8
  show W p l e _ s m args below meth c H locs _ _ _ (F0 m 12 ls [.ref (ca (60 + i_2))])
  subst hxi_2
  obtain ⟨q1b, qfb, q3b, q4b⟩ := zS i_2 hi_2
  refine lv_astore (lv' := [(5, .ref (ca (60 + i_2))), (4, .ref (ca (60 + i_1))), (0, .ref (ca 0)), (1, .int (nI i_1)), (2, .int (nI i_2)), (3, .int z)]) hx hb dX5_beat_12 hl (by decide) rfl (fun ls hl => ?_)
  refine lv_iload_n hx hb dX5_beat_14 rfl (lv_at hl 5 rfl) ?_
  refine g_callS (rest := []) (As := [.int z]) hE hG hl.1 (c_X5_refuseNoTone l hfl D tc A w z ) mw2_192 mw2_193 mw1_1 mw2_194 nm_X5_refuseNoTone ⟨⟨Nat.le_of_ble_eq_true rfl, Nat.le_of_ble_eq_true rfl⟩, Nat.le_of_ble_eq_true rfl, Nat.le_of_ble_eq_true rfl⟩ rfl rfl (Nat.le_of_ble_eq_true rfl) dX5_beat_15 (by subst hQ; exact g_out hE hnt rfl (fun E h => Or.inl ⟨by unfold ga_beat; rw [if_neg (isSet_s hi_1), if_neg (isSet_s hi_2), if_pos h.1], h.2⟩) (Nat.le_of_ble_eq_true rfl) (Nat.le_of_ble_eq_true rfl)) ?_
  intro v9 w9 H locs h9 hG
  obtain ⟨e9, e8, r_3⟩ := h9
  rw [e8] at hG; rw [e9]; clear e8 e9
  show W p l e _ s m args below meth c H locs _ _ _ (F0 m 18 ls [])
  refine lv_aload hx hb dX5_beat_18 (lv_at hl 1 rfl) ?_
  refine lv_iload_n hx hb dX5_beat_20 rfl (lv_at hl 5 rfl) ?_
  refine g_callV (rest := []) (As := [.int z]) hE hG hl.1 (c_X0_pitchOf l hfl D tc A w (60 + i_1) (70 + i_1) (ca (60 + i_1)) (ca (70 + i_1)) (d 5 i_1) qfa z q1a q3a ) q1a rfl mw2_229 mw2_203 mw2_204 mw1_3 mw2_205 rfl nm_X0_pitchOf ⟨⟨Nat.le_of_ble_eq_true rfl, Nat.le_of_ble_eq_true rfl⟩, Nat.le_of_ble_eq_true rfl, Nat.le_of_ble_eq_true rfl⟩ rfl rfl (Nat.le_of_ble_eq_true rfl) dX5_beat_21 (g_no) ?_
  intro v9 w9 H locs h9 hG
  obtain ⟨e9, f9⟩ := h9
  rw [f9] at hG; rw [e9]; clear e9 f9
  show W p l e _ s m args below meth c H locs _ _ _ (F0 m 24 ls [.int (f_pit qfa z)])
  refine lv_aload hx hb dX5_beat_24 (lv_at hl 0 rfl) ?_
  refine lv_iload_n hx hb dX5_beat_26 rfl (lv_at hl 5 rfl) ?_
  refine g_callV (rest := [.int (f_pit qfa z)]) (As := [.int z]) hE hG hl.1 (c_X0_pitchOf l hfl D tc A w (60 + i_2) (70 + i_2) (ca (60 + i_2)) (ca (70 + i_2)) (d 5 i_2) qfb z q1b q3b ) q1b rfl mw2_229 mw2_203 mw2_204 mw1_3 mw2_205 rfl nm_X0_pitchOf ⟨⟨Nat.le_of_ble_eq_true rfl, Nat.le_of_ble_eq_true rfl⟩, Nat.le_of_ble_eq_true rfl, Nat.le_of_ble_eq_true rfl⟩ rfl rfl (Nat.le_of_ble_eq_true rfl) dX5_beat_27 (g_no) ?_
  intro v9 w9 H locs h9 hG
  obtain ⟨e9, f9⟩ := h9
  rw [f9] at hG; rw [e9]; clear e9 f9
  show W p l e _ s m args below meth c H locs _ _ _ (F0 m 30 ls [.int (f_pit qfb z), .int (f_pit qfa z)])
  refine lv_isub hx hb dX5_beat_30 ?_
  refine va_mabs hx hb (hE.2.2.1.trans hl.1.symm) hE.2.2.2.1 (hE.2.2.2.2.1 _ mw3_113) (hE.2.2.2.2.1 _ mw3_114) (hE.2.2.2.2.1 _ mw1_12) (hE.2.2.2.2.1 _ mw3_115) (Nat.le_of_ble_eq_true rfl) (Nat.le_of_ble_eq_true rfl) (Nat.le_of_ble_eq_true rfl) (Nat.le_of_ble_eq_true rfl) dX5_beat_31 ?_
  subst hQ
  exact g_iret hE hG hr (Nat.le_of_ble_eq_true rfl) (Nat.le_of_ble_eq_true rfl) dX5_beat_34 ⟨m_go_i (by unfold ga_beat; rw [if_neg (isSet_s hi_1), if_neg (isSet_s hi_2), if_neg r_3]; decide) one_nz one_nz, (by rw [pit_at hi_1 q4a r_3, pit_at hi_2 q4b r_3, Int32.zero_sub]; rfl), ⟨ca, rfl, cW_l hC 0⟩, gK_rf w⟩
theorem tun_eq (q : Int32) (o : Int64) (p : Int32) : f_tun q o p = m_tun o q.toInt64 p := by
  unfold f_tun m_tun
  generalize p.toInt64 * q.toInt64 / o = v
  by_cases h1 : 200000 < v
  · rw [if_pos h1, if_neg (by decide), if_pos ((lg_cmp_ge v 5000).mpr (Int64.le_of_lt (Int64.lt_of_le_of_lt (by decide) h1))), if_neg (fun h => Int64.not_le.mpr h1 ((lg_cmp_le v 200000).mp h))]
    rfl
  · rw [if_neg h1]
    by_cases h2 : v < 5000
    · rw [if_pos h2, if_neg (fun h => Int64.not_le.mpr h2 ((lg_cmp_ge v 5000).mp h))]
      rfl
    · rw [if_neg h2, if_pos ((lg_cmp_ge v 5000).mpr (Int64.not_lt.mp h2)), if_pos ((lg_cmp_le v 200000).mpr (Int64.not_lt.mp h1))]
theorem pit_1 {d : gDt} {i : Nat} {f : Nat → Int32} (hf : ∀ j, j < 7 → f j = d 4 (8 * i + j + 1)) : f_pit f 1 = d 4 (8 * i + 1) := hf 0 (by decide)
theorem tun_hp {p : Nat} (h1 : 5000 ≤ p) (h2 : p ≤ 200000) : ¬ lg_cmp (nI p).toInt64 0 ≤ 0 ∧ ¬ (nI p).toInt64 = 0 := by
  have e : (nI p).toInt64.toInt = (p : Int) := by rw [Int32.toInt_toInt64, nI_toInt (by omega)]
  have e0 : (0 : Int64).toInt = 0 := by decide
  constructor
  · intro h
    have := (lg_cmp_le _ _).mp h
    rw [Int64.le_iff_toInt_le, e, e0] at this
    omega
  · intro h
    rw [h, e0] at e
    omega
theorem tun_D {d : gDt} {i j : Nat} {f g : Nat → Int32} (hi : i < 4) (hj : j < 4) (hf : ∀ k, k < 7 → f k = d 4 (8 * i + k + 1)) (hg : ∀ k, k < 7 → g k = d 4 (8 * j + k + 1)) : (∀ k, k < 7 → f_cp 7 f (fun j => f_tun (f_pit g 1) (f_pit f 1).toInt64 (f j)) k = m_tunD d (nI i) (nI j) (8 * i + k + 1)) ∧ (∀ s k, s ≠ i → k < 7 → m_tunD d (nI i) (nI j) (8 * s + k + 1) = d 4 (8 * s + k + 1)) := by
  unfold m_tunD f_cpO f_cp
  rw [nI_clamp (by omega), nI_clamp (by omega)]
  constructor
  · intro k hk
    show (if k < 7 then f_tun (f_pit g 1) (f_pit f 1).toInt64 (f k) else f k) = (if 8 * i + 1 ≤ 8 * i + k + 1 ∧ 8 * i + k + 1 < 8 * i + 1 + 7 then m_tun (d 4 (8 * i + 1)).toInt64 (d 4 (8 * j + 1)).toInt64 (d 4 (8 * i + k + 1)) else d 4 (8 * i + k + 1))
    rw [if_pos hk, if_pos (by omega), tun_eq, pit_1 hf, pit_1 hg, hf k hk]
  · intro s k hs hk
    show (if 8 * i + 1 ≤ 8 * s + k + 1 ∧ 8 * s + k + 1 < 8 * i + 1 + 7 then _ else d 4 (8 * s + k + 1)) = _
    rw [if_neg (by omega)]
abbrev rm_X5_tune : Room := { frames := 7, cells := 8, slots := 48, locals := 266 }
theorem nm_X5_tune : gNm yX5_tune 2 := ⟨by decide +kernel, by decide +kernel, by decide +kernel⟩
set_option maxHeartbeats 4000000 in
set_option maxRecDepth 100000 in
theorem c_X5_tune (l : Launch) (hfl : l.stackTraces = false) (D : va_G) (tc : Nat → ClassId) (A : Nat → Prop) (w : gW) (ca : Nat → Nat) (d : gDt) (tk : Int64) (st : Nat → Int64) (x : Int32) (y : Int32) (hC : cW tc w ca d tk st) (hOk : mOk d) (hpO : pOk d) : gM l yX5_tune cX5_tune 5 (some .int) rm_X5_tune D tc A [.ref (ca 0), .int x, .int y] w (fun v w' => ¬ m_go (ga_tune d x y) (gb_tune d x y) (gc_tune d x y) = 0 ∧ v = some (.int ((m_tunD d x y) (8 * x + 1).toNatClampNeg)) ∧ (∃ ca' : Nat → Nat, ca' 0 = ca 0 ∧ cW tc w' ca' (sL (gD d 4 (m_tunD d x y)) 0) tk st) ∧ gK w w') (c_thr gIO gIA gIS (ga_tune d x y) (gb_tune d x y) (gc_tune d x y)) := by
  refine gM_of (by decide +kernel) (Nat.le_of_ble_eq_true rfl) ?_
  intro p e s m args below meth c ls Q hQ hE hG hr hnt hnm hl
  have hx := hE.1
  have hb := hE.2.1
  have hl : lv_has ls 5 [(0, .ref (ca 0)), (1, .int x), (2, .int y)] := hl
  obtain ⟨⟨z0, z1, z2, z5, z6⟩, ⟨cy, ge, sf, z3, z4, hsf, hce, hcy⟩, zP, zS, zU, zV, zN⟩ := id hC
  refine lv_aload_n hx hb dX5_tune_0 rfl (lv_at hl 0 rfl) ?_
  refine lv_iload_n hx hb dX5_tune_1 rfl (lv_at hl 1 rfl) ?_
  refine g_callV (rest := []) (As := [.int x]) hE hG hl.1 (c_X5_setAt l hfl D tc A w ca d tk st x hC hOk) z0 rfl mw2_187 mw2_189 mws_7 mw1_1 mw2_190 rfl nm_X5_setAt ⟨⟨Nat.le_of_ble_eq_true rfl, Nat.le_of_ble_eq_true rfl⟩, Nat.le_of_ble_eq_true rfl, Nat.le_of_ble_eq_true rfl⟩ rfl rfl (Nat.le_of_ble_eq_true rfl) dX5_tune_2 (by subst hQ; exact g_out hE hnt rfl (fun E h => Or.inl ⟨by unfold ga_tune; rw [if_pos h.1], h.2⟩) (Nat.le_of_ble_eq_true rfl) (Nat.le_of_ble_eq_true rfl)) ?_
  intro v9 w9 H locs h9 hG
  obtain ⟨e8, i_1, hi_1, hxi_1, e9⟩ := h9
  rw [e9]; clear e9
  rw [e8] at hG; clear e8
  show W p l e _ s m args below meth c H locs _ _ _ (F0 m 5 ls [.ref (ca (60 + i_1))])
  subst hxi_1
  obtain ⟨q1a, qfa, q3a, q4a⟩ := zS i_1 hi_1
  refine lv_astore_n (lv' := [(3, .ref (ca (60 + i_1))), (0, .ref (ca 0)), (1, .int (nI i_1)), (2, .int y)]) hx hb dX5_tune_5 rfl hl (by decide) rfl (fun ls hl => ?_)
  refine lv_aload_n hx hb dX5_tune_6 rfl (lv_at hl 1 rfl) ?_
  refine lv_iload_n hx hb dX5_tune_7 rfl (lv_at hl 3 rfl) ?_
  refine g_callV (rest := []) (As := [.int y]) hE hG hl.1 (c_X5_setAt l hfl D tc A w ca d tk st y hC hOk) z0 rfl mw2_187 mw2_189 mws_7 mw1_1 mw2_190 rfl nm_X5_setAt ⟨⟨Nat.le_of_ble_eq_true rfl, Nat.le_of_ble_eq_true rfl⟩, Nat.le_of_ble_eq_true rfl, Nat.le_of_ble_eq_true rfl⟩ rfl rfl (Nat.le_of_ble_eq_true rfl) dX5_tune_8 (by subst hQ; exact g_out hE hnt rfl (fun E h => Or.inl ⟨by unfold ga_tune; rw [if_neg (isSet_s hi_1), if_pos h.1], h.2⟩) (Nat.le_of_ble_eq_true rfl) (Nat.le_of_ble_eq_true rfl)) ?_
  intro v9 w9 H locs h9 hG
  obtain ⟨e8, i_2, hi_2, hxi_2, e9⟩ := h9
  rw [e9]; clear e9
  rw [e8] at hG; clear e8
  show W p l e _ s m args below meth c H locs _ _ _ (F0 m 11 ls [.ref (ca (60 + i_2))])
  subst hxi_2
  obtain ⟨q1b, qfb, q3b, q4b⟩ := zS i_2 hi_2
  refine lv_astore (lv' := [(4, .ref (ca (60 + i_2))), (3, .ref (ca (60 + i_1))), (0, .ref (ca 0)), (1, .int (nI i_1)), (2, .int (nI i_2))]) hx hb dX5_tune_11 hl (by decide) rfl (fun ls hl => ?_)
  refine lv_iload_n hx hb dX5_tune_13 rfl (lv_at hl 3 rfl) ?_
  refine lv_iload_n hx hb dX5_tune_14 rfl (lv_at hl 4 rfl) ?_
  refine lv_icmp_ne (tgt := 28) hx hb dX5_tune_15 (by decide) (fun c_3 => ?_) (fun c_3 => ?_)
  · skip
    refine lv_aload_n hx hb dX5_tune_28 rfl (lv_at hl 1 rfl) ?_
    refine lv_aload hx hb dX5_tune_29 (lv_at hl 0 rfl) ?_
    refine lv_iconst (v := 1) hx hb dX5_tune_31 (by decide) ?_
    refine g_callV (rest := [.ref (ca (60 + i_1))]) (As := [.int 1]) hE hG hl.1 (c_X0_pitchOf l hfl D tc A w (60 + i_2) (70 + i_2) (ca (60 + i_2)) (ca (70 + i_2)) (d 5 i_2) qfb 1 q1b q3b ) q1b rfl mw2_229 mw2_203 mw2_204 mw1_3 mw2_205 rfl nm_X0_pitchOf ⟨⟨Nat.le_of_ble_eq_true rfl, Nat.le_of_ble_eq_true rfl⟩, Nat.le_of_ble_eq_true rfl, Nat.le_of_ble_eq_true rfl⟩ rfl rfl (Nat.le_of_ble_eq_true rfl) dX5_tune_32 (g_no) ?_
    intro v9 w9 H locs h9 hG
    obtain ⟨e9, f9⟩ := h9
    rw [f9] at hG; rw [e9]; clear e9 f9
    show W p l e _ s m args below meth c H locs _ _ _ (F0 m 35 ls [.int (f_pit qfb 1), .ref (ca (60 + i_1))])
    obtain ⟨p9, hp1, hp2, hp3⟩ := hpO i_1 1 hi_1 (by decide) (by decide)
    have hp4 : f_pit qfa 1 = nI p9 := (pit_1 q4a).trans hp3
    refine g_callV (rest := []) (As := [.int (f_pit qfb 1)]) hE hG hl.1 (c_X0_tuneTo l hfl D tc A w (60 + i_1) (70 + i_1) (ca (60 + i_1)) (ca (70 + i_1)) (d 5 i_1) qfa (f_pit qfb 1) q1a q3a (by rw [hp4]; exact (tun_hp hp1 hp2).1) (by rw [hp4]; exact (tun_hp hp1 hp2).2)) q1a rfl mw2_230 mw2_231 mw2_232 mw1_3 mw2_233 rfl nm_X0_tuneTo ⟨⟨Nat.le_of_ble_eq_true rfl, Nat.le_of_ble_eq_true rfl⟩, Nat.le_of_ble_eq_true rfl, Nat.le_of_ble_eq_true rfl⟩ rfl rfl (Nat.le_of_ble_eq_true rfl) dX5_tune_35 (g_no) ?_
    intro v9 w9 H locs h9 hG
    obtain ⟨e9, ew_4⟩ := h9
    rw [e9]; clear e9; revert w9; intro w_4 hG ew_4
    show W p l e _ s m args below meth c H locs _ _ _ (F0 m 38 ls [])
    have h_5 : w_4 0 = some ((ca 0), .inr (5, [.ref (ca 1), .int (d 9 0), .ref (ca 2), .int (d 9 1), .ref (ca 3), .int (d 9 10), .int (d 9 11), .ref (ca 5), .int (d 9 12), .ref (ca 6), .int (d 9 13)])) := gU_n ew_4 (by omega) z0
    have h_6 : w_4 1 = some ((ca 1), .inl (tc 0, 4, .inl (d 0))) := gU_n ew_4 (by omega) z1
    have h_7 : w_4 2 = some ((ca 2), .inl (tc 3, 6, .inr (.inr (.inr (.inr (c_pf ca (nP d))))))) := gU_n ew_4 (by omega) z2
    have h_8 : w_4 5 = some ((ca 5), .inl (tc 4, 4, .inr (.inr (.inr (.inr (c_sf ca)))))) := gU_n ew_4 (by omega) z5
    have h_9 : w_4 6 = some ((ca 6), .inl (tc 5, 8, .inr (.inr (.inr (.inr (c_uf ca (nU d))))))) := gU_n ew_4 (by omega) z6
    have h_10 : w_4 3 = some ((ca 3), .inr (4, [.int (d 9 3), .int cy, .int (d 9 4), .int (d 9 5), .int (d 9 6), .int (d 9 7), .int (d 9 8), .int (d 9 2), .int ge, .long tk, .ref (ca 4)])) := gU_n ew_4 (by omega) z3
    have h_11 : w_4 4 = some ((ca 4), .inl (tc 1, 4, .inr (.inl sf))) := gU_n ew_4 (by omega) z4
    have h_12 : w_4 (60 + i_1) = some ((ca (60 + i_1)), .inr (0, [.ref (ca (70 + i_1)), .int (d 5 i_1)])) := gU_n ew_4 (by omega) q1a
    have h_13 : w_4 (70 + i_1) = some ((ca (70 + i_1)), .inl (tc 0, 7, .inl (f_cp 7 qfa (fun j => f_tun (f_pit qfb 1) (f_pit qfa 1).toInt64 (qfa j))))) := gU_s ew_4
    refine lv_aload_n hx hb dX5_tune_38 rfl (lv_at hl 1 rfl) ?_
    refine lv_iconst (v := 1) hx hb dX5_tune_39 (by decide) ?_
    refine g_callV (rest := []) (As := [.int 1]) hE hG hl.1 (c_X0_pitchOf l hfl D tc A w_4 (60 + i_1) (70 + i_1) (ca (60 + i_1)) (ca (70 + i_1)) (d 5 i_1) (f_cp 7 qfa (fun j => f_tun (f_pit qfb 1) (f_pit qfa 1).toInt64 (qfa j))) 1 h_12 h_13 ) h_12 rfl mw2_229 mw2_203 mw2_204 mw1_3 mw2_205 rfl nm_X0_pitchOf ⟨⟨Nat.le_of_ble_eq_true rfl, Nat.le_of_ble_eq_true rfl⟩, Nat.le_of_ble_eq_true rfl, Nat.le_of_ble_eq_true rfl⟩ rfl rfl (Nat.le_of_ble_eq_true rfl) dX5_tune_40 (g_no) ?_
    intro v9 w9 H locs h9 hG
    obtain ⟨e9, f9⟩ := h9
    rw [f9] at hG; rw [e9]; clear e9 f9
    show W p l e _ s m args below meth c H locs _ _ _ (F0 m 43 ls [.int (f_pit (f_cp 7 qfa (fun j => f_tun (f_pit qfb 1) (f_pit qfa 1).toInt64 (qfa j))) 1)])
    subst hQ
    exact g_iret hE hG hr (Nat.le_of_ble_eq_true rfl) (Nat.le_of_ble_eq_true rfl) dX5_tune_43 ⟨m_go_i (by unfold ga_tune; rw [if_neg (isSet_s hi_1), if_neg (isSet_s hi_2)]; decide) (by unfold gb_tune; rw [if_neg c_3]; decide) one_nz, congrArg (fun a => some (Value.int a)) (by rw [show (8 : Int32) * nI i_1 + 1 = (8 : Int32) * nI i_1 + nI (0 + 1) from rfl, pit_ix hi_1 (by decide)]; exact (tun_D hi_1 hi_2 q4a q4b).1 0 (by decide)), ⟨ca, rfl, cW_l (cW_pit hC hOk hi_1 (tun_D hi_1 hi_2 q4a q4b).1 (tun_D hi_1 hi_2 q4a q4b).2 ew_4) 0⟩, gK_u (gK_rf w) ew_4 (by omega)⟩
  · skip
    subst hQ
    exact g_thr (E := gIA) hfl hE hG hl.1 hnt gTgIA (List.mem_of_getElem? (i := 15) rfl) dX5_tune_18 dX5_tune_21 dX5_tune_22 dX5_tune_24 dX5_tune_27 (by refine ⟨?_, ?_, ?_, ?_, ?_, ?_⟩ <;> exact Nat.le_of_ble_eq_true rfl) rfl (Or.inr (Or.inl ⟨(by unfold ga_tune; rw [if_neg (isSet_s hi_1), if_neg (isSet_s hi_2)]; decide), by unfold gb_tune; rw [if_pos c_3], rfl⟩))
theorem yr_D {d : gDt} {k n : Nat} {f : Nat → Int32} (hk : k < 4) (hf : ∀ j, j < 7 → f j = gD d 4 (f_cp (8 * k) (d 4) (fun j => f_ags (d 5 (j / 8)) n (d 4 j))) 4 (8 * k + j + 1)) : (∀ j, j < 7 → f_cp 7 f (fun j => f_ags (d 5 k) n (f j)) j = f_cp (8 * (k + 1)) (d 4) (fun j => f_ags (d 5 (j / 8)) n (d 4 j)) (8 * k + j + 1)) ∧ (∀ s j, s ≠ k → j < 7 → f_cp (8 * (k + 1)) (d 4) (fun j => f_ags (d 5 (j / 8)) n (d 4 j)) (8 * s + j + 1) = gD d 4 (f_cp (8 * k) (d 4) (fun j => f_ags (d 5 (j / 8)) n (d 4 j))) 4 (8 * s + j + 1)) := by
  constructor
  · intro j hj
    have h9 := hf j hj
    rw [gD_s] at h9
    unfold f_cp at h9 ⊢
    rw [if_neg (by omega)] at h9
    show (if j < 7 then f_ags (d 5 k) n (f j) else f j) = (if 8 * k + j + 1 < 8 * (k + 1) then f_ags (d 5 ((8 * k + j + 1) / 8)) n (d 4 (8 * k + j + 1)) else d 4 (8 * k + j + 1))
    rw [if_pos hj, if_pos (by omega), show (8 * k + j + 1) / 8 = k by omega, h9]
  · intro s j hs hj
    rw [gD_s]
    unfold f_cp
    by_cases h : s < k
    · rw [if_pos (by omega), if_pos (by omega)]
    · rw [if_neg (by omega), if_neg (by omega)]
theorem yr_0 (d : gDt) (y : Nat) : gD d 4 (f_cp (8 * (4 - 4)) (d 4) (fun j => f_ags (d 5 (j / 8)) y (d 4 j))) = d := by
  funext k
  unfold gD
  by_cases h : k = 4
  · subst h
    rw [if_pos rfl]
    funext j
    exact if_neg (by omega)
  · rw [if_neg h]
abbrev rm_X5_years : Room := { frames := 7, cells := 8, slots := 48, locals := 266 }
theorem nm_X5_years : gNm yX5_years 1 := ⟨by decide +kernel, by decide +kernel, by decide +kernel⟩
set_option maxHeartbeats 4000000 in
set_option maxRecDepth 100000 in
theorem c_X5_years (l : Launch) (hfl : l.stackTraces = false) (D : va_G) (tc : Nat → ClassId) (A : Nat → Prop) (w : gW) (ca : Nat → Nat) (d : gDt) (tk : Int64) (st : Nat → Int64) (x : Int32) (hC : cW tc w ca d tk st) (hOk : mOk d) : gM l yX5_years cX5_years 3 (some .int) rm_X5_years D tc A [.ref (ca 0), .int x] w (fun v w' => ¬ m_go (ga_years d x) (gb_years d x) (gc_years d x) = 0 ∧ v = some (.int (d 9 12 + x)) ∧ (∃ ca' : Nat → Nat, ca' 0 = ca 0 ∧ cW tc w' ca' (sL (gD (gD d 4 (m_yrs d x.toNatClampNeg)) 9 (upd (d 9) 12 (d 9 12 + x))) 0) tk st) ∧ gK w w') (c_thr gIA gIS gIS (ga_years d x) (gb_years d x) (gc_years d x)) := by
  refine gM_of (by decide +kernel) (Nat.le_of_ble_eq_true rfl) ?_
  intro p e s m args below meth c ls Q hQ hE hG hr hnt hnm hl
  have hx := hE.1
  have hb := hE.2.1
  have hl : lv_has ls 3 [(0, .ref (ca 0)), (1, .int x)] := hl
  obtain ⟨⟨z0, z1, z2, z5, z6⟩, ⟨cy, ge, sf, z3, z4, hsf, hce, hcy⟩, zP, zS, zU, zV, zN⟩ := id hC
  refine lv_iload_n hx hb dX5_years_0 rfl (lv_at hl 1 rfl) ?_
  refine lv_iconst (v := 1) hx hb dX5_years_1 (by decide) ?_
  refine lv_icmp_lt (tgt := 11) hx hb dX5_years_2 (by decide) (fun c_1 => ?_) (fun c_1 => ?_)
  · skip
    subst hQ
    exact g_thr (E := gIA) hfl hE hG hl.1 hnt gTgIA (List.mem_of_getElem? (i := 13) rfl) dX5_years_11 dX5_years_14 dX5_years_15 dX5_years_17 dX5_years_20 (by refine ⟨?_, ?_, ?_, ?_, ?_, ?_⟩ <;> exact Nat.le_of_ble_eq_true rfl) rfl (Or.inl ⟨rng_lo c_1, rfl⟩)
  · skip
    refine lv_iload_n hx hb dX5_years_5 rfl (lv_at hl 1 rfl) ?_
    refine lv_bipush (v := 30) hx hb dX5_years_6 (by decide) ?_
    refine lv_icmp_le (tgt := 21) hx hb dX5_years_8 (by decide) (fun c_2 => ?_) (fun c_2 => ?_)
    · skip
      refine lv_aload_n hx hb dX5_years_21 rfl (lv_at hl 0 rfl) ?_
      refine g_get hE hG z0 rfl inG5 8 (by decide) mw1_109 rfl dX5_years_22 ?_
      refine lv_iload_n hx hb dX5_years_25 rfl (lv_at hl 1 rfl) ?_
      refine lv_iadd hx hb dX5_years_26 ?_
      refine lv_sipush (v := 300) hx hb dX5_years_27 (by decide) ?_
      refine lv_icmp_le (tgt := 43) hx hb dX5_years_30 (by decide) (fun c_3 => ?_) (fun c_3 => ?_)
      · skip
        refine lv_iconst (v := 0) hx hb dX5_years_43 (by decide) ?_
        refine lv_istore_n (lv' := [(2, .int 0), (0, .ref (ca 0)), (1, .int x)]) hx hb dX5_years_44 rfl hl (by decide) rfl (fun ls hl => ?_)
        have hin := f_in_ok c_1 (Int32.not_lt.mpr c_2)
        have hgb : ¬ gb_years d x = 0 := by unfold gb_years; rw [if_neg hin, if_neg (Int32.not_lt.mpr c_3)]; decide
        obtain ⟨y, hy1, hy2, hxy⟩ := nI_bet (a := 1) (b := 30) (by decide) (f_in_ne hin).1 (f_in_ne hin).2 (by decide)
        subst hxy
        have hl : lv_has ls 3 [(2, .int (nI 0)), (0, .ref (ca 0)), (1, .int (nI y))] := hl
        have hloop : ∀ (k : Nat) (w8 : gW) (H : Heap) (locs : List Loc) (ls : Array Slot), k ≤ 4 → cW tc w8 ca (gD d 4 (f_cp (8 * (4 - k)) (d 4) (fun j => f_ags (d 5 (j / 8)) y (d 4 j)))) tk st → gK w w8 → gS D A s.heap w8 H locs → lv_has ls 3 [(2, .int (nI (4 - k))), (0, .ref (ca 0)), (1, .int (nI y))] → W p l e rm_X5_years s m args below meth c H locs 0 0 Q (F0 m 45 ls []) := by
          intro k
          induction k with
          | zero =>
            intro w8 H locs ls hk4 hC8 hF8 hG hl
            obtain ⟨⟨y0, y1, y2, y5, y6⟩, ⟨cy9, ge9, sf9, y3, y4, hsf9, hce9, hcy9⟩, -, yS, -⟩ := id hC8
            have hl : lv_has ls 3 [(2, .int (nI 4)), (0, .ref (ca 0)), (1, .int (nI y))] := hl
            refine lv_iload_n hx hb dX5_years_45 rfl (lv_at hl 0 rfl) ?_
            refine lv_iconst (v := 4) hx hb dX5_years_46 (by decide) ?_
            refine lv_icmp_ge (tgt := 65) hx hb dX5_years_47 (by decide) (fun c9 => ?_) (fun c9 => (c9 (by decide)).elim)
            refine lv_aload_n hx hb dX5_years_65 rfl (lv_at hl 1 rfl) ?_
            refine lv_dup hx hb dX5_years_66 rfl ?_
            refine g_get hE hG y0 rfl inG5 8 (by decide) mw1_109 rfl dX5_years_67 ?_
            refine lv_iload_n hx hb dX5_years_70 rfl (lv_at hl 2 rfl) ?_
            refine lv_iadd hx hb dX5_years_71 ?_
            refine g_put hE hG y0 rfl inG5 tyX5 tyX5_ok nmX5 8 (by decide) mw1_109 rfl rfl rfl (Nat.le_of_ble_eq_true rfl) dX5_years_72 (fun H locs w_4 ew_4 hG => ?_)
            have h_5 : w_4 1 = some ((ca 1), .inl (tc 0, 4, .inl (d 0))) := gU_n ew_4 (by decide) y1
            have h_6 : w_4 2 = some ((ca 2), .inl (tc 3, 6, .inr (.inr (.inr (.inr (c_pf ca (nP d))))))) := gU_n ew_4 (by decide) y2
            have h_7 : w_4 5 = some ((ca 5), .inl (tc 4, 4, .inr (.inr (.inr (.inr (c_sf ca)))))) := gU_n ew_4 (by decide) y5
            have h_8 : w_4 6 = some ((ca 6), .inl (tc 5, 8, .inr (.inr (.inr (.inr (c_uf ca (nU d))))))) := gU_n ew_4 (by decide) y6
            have h_9 : w_4 3 = some ((ca 3), .inr (4, [.int (d 9 3), .int cy9, .int (d 9 4), .int (d 9 5), .int (d 9 6), .int (d 9 7), .int (d 9 8), .int (d 9 2), .int ge9, .long tk, .ref (ca 4)])) := gU_n ew_4 (by decide) y3
            have h_10 : w_4 4 = some ((ca 4), .inl (tc 1, 4, .inr (.inl sf9))) := gU_n ew_4 (by decide) y4
            have h_11 : w_4 0 = some ((ca 0), .inr (5, [.ref (ca 1), .int (d 9 0), .ref (ca 2), .int (d 9 1), .ref (ca 3), .int (d 9 10), .int (d 9 11), .ref (ca 5), .int ((d 9 12) + (nI y)), .ref (ca 6), .int (d 9 13)])) := gU_s ew_4
            refine lv_aload_n hx hb dX5_years_75 rfl (lv_at hl 1 rfl) ?_
            refine g_get hE hG h_11 rfl inG5 8 (by decide) mw1_109 rfl dX5_years_76 ?_
            subst hQ
            exact g_iret hE hG hr (Nat.le_of_ble_eq_true rfl) (Nat.le_of_ble_eq_true rfl) dX5_years_79 ⟨m_go_i hin hgb one_nz, rfl, ⟨ca, rfl, (by rw [nI_clamp (by omega)]; exact cW_hd hC8 (fun k h1 h2 => by rw [ew_4, gU_ne _ _ (by omega)]) rfl rfl (fun _ _ => rfl) rfl rfl rfl rfl rfl rfl rfl h_11 h_5 h_6 h_7 h_8 ⟨cy9, ge9, sf9, h_9, h_10, hsf9, hce9, hcy9⟩ hOk)⟩, gK_u hF8 ew_4 (by omega)⟩
          | succ k ih =>
            intro w8 H locs ls hk4 hC8 hF8 hG hl
            obtain ⟨⟨y0, y1, y2, y5, y6⟩, ⟨cy9, ge9, sf9, y3, y4, hsf9, hce9, hcy9⟩, -, yS, -⟩ := id hC8
            refine lv_iload_n hx hb dX5_years_45 rfl (lv_at hl 0 rfl) ?_
            refine lv_iconst (v := 4) hx hb dX5_years_46 (by decide) ?_
            refine lv_icmp_ge (tgt := 65) hx hb dX5_years_47 (by decide) (fun c9 => absurd c9 (nI_ge (b := 4) (by omega) (by omega))) (fun c9 => ?_)
            refine lv_aload_n hx hb dX5_years_50 rfl (lv_at hl 1 rfl) ?_
            refine lv_iload_n hx hb dX5_years_51 rfl (lv_at hl 0 rfl) ?_
            refine g_callV (rest := []) (As := [.int (nI (4 - (k + 1)))]) hE hG hl.1 (c_X5_setAt_ok l hfl D tc A w8 ca (gD d 4 (f_cp (8 * (4 - (k + 1))) (d 4) (fun j => f_ags (d 5 (j / 8)) y (d 4 j)))) tk st (4 - (k + 1)) hC8 hOk (by omega)) y0 rfl mw2_187 mw2_189 mws_7 mw1_1 mw2_190 rfl nm_X5_setAt ⟨⟨Nat.le_of_ble_eq_true rfl, Nat.le_of_ble_eq_true rfl⟩, Nat.le_of_ble_eq_true rfl, Nat.le_of_ble_eq_true rfl⟩ rfl rfl (Nat.le_of_ble_eq_true rfl) dX5_years_52 (g_no) ?_
            intro v9 w9 H locs h9 hG
            obtain ⟨e8, e9⟩ := h9
            rw [e9]; clear e9
            rw [e8] at hG; clear e8
            show W p l e _ s m args below meth c H locs _ _ _ (F0 m 55 ls [.ref (ca (60 + (4 - (k + 1))))])
            obtain ⟨qg1, qg, qg3, qg4⟩ := yS (4 - (k + 1)) (by omega)
            refine lv_iload_n hx hb dX5_years_55 rfl (lv_at hl 2 rfl) ?_
            refine g_callV (rest := []) (As := [.int (nI y)]) hE hG hl.1 (c_X0_ageBy l hfl D tc A w8 (60 + (4 - (k + 1))) (70 + (4 - (k + 1))) (ca (60 + (4 - (k + 1)))) (ca (70 + (4 - (k + 1)))) (d 5 (4 - (k + 1))) qg y qg1 qg3 hy2) qg1 rfl mw2_217 mw2_218 mw2_219 mw1_3 mw2_220 rfl nm_X0_ageBy ⟨⟨Nat.le_of_ble_eq_true rfl, Nat.le_of_ble_eq_true rfl⟩, Nat.le_of_ble_eq_true rfl, Nat.le_of_ble_eq_true rfl⟩ rfl rfl (Nat.le_of_ble_eq_true rfl) dX5_years_56 (g_no) ?_
            intro v9 w9 H locs h9 hG
            obtain ⟨e9, ew_12⟩ := h9
            rw [e9]; clear e9; revert w9; intro w_12 hG ew_12
            show W p l e _ s m args below meth c H locs _ _ _ (F0 m 59 ls [])
            have h_13 : w_12 0 = some ((ca 0), .inr (5, [.ref (ca 1), .int (d 9 0), .ref (ca 2), .int (d 9 1), .ref (ca 3), .int (d 9 10), .int (d 9 11), .ref (ca 5), .int (d 9 12), .ref (ca 6), .int (d 9 13)])) := gU_n ew_12 (by omega) y0
            have h_14 : w_12 1 = some ((ca 1), .inl (tc 0, 4, .inl (d 0))) := gU_n ew_12 (by omega) y1
            have h_15 : w_12 2 = some ((ca 2), .inl (tc 3, 6, .inr (.inr (.inr (.inr (c_pf ca (nP d))))))) := gU_n ew_12 (by omega) y2
            have h_16 : w_12 5 = some ((ca 5), .inl (tc 4, 4, .inr (.inr (.inr (.inr (c_sf ca)))))) := gU_n ew_12 (by omega) y5
            have h_17 : w_12 6 = some ((ca 6), .inl (tc 5, 8, .inr (.inr (.inr (.inr (c_uf ca (nU d))))))) := gU_n ew_12 (by omega) y6
            have h_18 : w_12 3 = some ((ca 3), .inr (4, [.int (d 9 3), .int cy9, .int (d 9 4), .int (d 9 5), .int (d 9 6), .int (d 9 7), .int (d 9 8), .int (d 9 2), .int ge9, .long tk, .ref (ca 4)])) := gU_n ew_12 (by omega) y3
            have h_19 : w_12 4 = some ((ca 4), .inl (tc 1, 4, .inr (.inl sf9))) := gU_n ew_12 (by omega) y4
            have h_20 : w_12 (60 + (4 - (k + 1))) = some ((ca (60 + (4 - (k + 1)))), .inr (0, [.ref (ca (70 + (4 - (k + 1)))), .int (d 5 (4 - (k + 1)))])) := gU_n ew_12 (by omega) qg1
            have h_21 : w_12 (70 + (4 - (k + 1))) = some ((ca (70 + (4 - (k + 1)))), .inl (tc 0, 7, .inl (f_cp 7 qg (fun j => f_ags (d 5 (4 - (k + 1))) y (qg j))))) := gU_s ew_12
            refine lv_iinc (v := (nI (4 - k))) (lv' := [(2, .int (nI (4 - k))), (0, .ref (ca 0)), (1, .int (nI y))]) hx hb dX5_years_59 hl (k := 0) rfl (by rw [show 4 - k = (4 - (k + 1)) + 1 by omega]; exact nI_1 _) (by decide) rfl (fun ls hl => ?_)
            refine lv_goto (tgt := 45) hx hb dX5_years_62 (by decide) ?_
            exact ih w_12 _ _ _ (by omega) (by rw [show 4 - k = 4 - (k + 1) + 1 by omega, ← gD_gD]; exact cW_pit hC8 hOk (by omega) (yr_D (by omega) qg4).1 (yr_D (by omega) qg4).2 ew_12) (gK_u hF8 ew_12 (by omega)) hG (lv_sub hl [0, 1, 2] rfl)
        exact hloop 4 w _ _ _ (Nat.le_refl _) (by rw [show (gD d 4 (f_cp (8 * (4 - 4)) (d 4) (fun j => f_ags (d 5 (j / 8)) y (d 4 j)))) = d from yr_0 d y]; exact hC) (gK_rf w) hG (lv_sub hl [0, 1, 2] rfl)
      · skip
        subst hQ
        exact g_thr (E := gIS) hfl hE hG hl.1 hnt gTgIS (List.mem_of_getElem? (i := 14) rfl) dX5_years_33 dX5_years_36 dX5_years_37 dX5_years_39 dX5_years_42 (by refine ⟨?_, ?_, ?_, ?_, ?_, ?_⟩ <;> exact Nat.le_of_ble_eq_true rfl) rfl (Or.inr (Or.inl ⟨f_in_ok c_1 (Int32.not_lt.mpr c_2), by unfold gb_years; rw [if_neg (f_in_ok c_1 (Int32.not_lt.mpr c_2)), if_pos (Int32.not_le.mp c_3)], rfl⟩))
    · skip
      subst hQ
      exact g_thr (E := gIA) hfl hE hG hl.1 hnt gTgIA (List.mem_of_getElem? (i := 13) rfl) dX5_years_11 dX5_years_14 dX5_years_15 dX5_years_17 dX5_years_20 (by refine ⟨?_, ?_, ?_, ?_, ?_, ?_⟩ <;> exact Nat.le_of_ble_eq_true rfl) rfl (Or.inl ⟨rng_hi (Int32.not_le.mp c_2), rfl⟩)
