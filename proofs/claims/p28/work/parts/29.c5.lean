/-! GongCycles: forbid, drift -/
theorem gU_at {w w' : gW} {k : Nat} {x : Nat × va_E} (e : w' = gU w k x) {j : Nat} (h : j ≠ k) : w' j = w j := by rw [e, gU_ne _ _ h]
theorem upd_n {f : Nat → Int32} {k j : Nat} {x : Int32} (h : j ≠ k) : upd f k x j = f j := if_neg h
theorem upd_e {f : Nat → Int32} {k : Nat} {x : Int32} : upd f k x k = x := if_pos rfl
theorem cW_forbid {tc : Nat → ClassId} {w w' : gW} {ca : Nat → Nat} {d : gDt} {tk : Int64} {st : Nat → Int64} {i : Nat} {y : Int32} (hC : cW tc w ca d tk st) (hOk : mOk d) (hi : i < nP d) (ew : w' = gU w (10 + i) (ca (10 + i), .inr (2, [.ref (ca (20 + i)), .int y]))) : cW tc w' ca (gD d 2 (upd (d 2) i y)) tk st := by
  obtain ⟨⟨z0, z1, z2, z5, z6⟩, ⟨cy, ge, sf, z3, z4, hsf, hce, hcy⟩, zP, zS, zU, zV, zN1, zN2, zN3⟩ := hC
  have b1 := hOk.1.2.1
  have b2 := hOk.1.2.2
  refine ⟨⟨by rw [gU_at ew (by omega)]; exact z0, by rw [gU_at ew (by omega)]; exact z1, by rw [gU_at ew (by omega)]; exact z2, by rw [gU_at ew (by omega)]; exact z5, by rw [gU_at ew (by omega)]; exact z6⟩, ⟨cy, ge, sf, by rw [gU_at ew (by omega)]; exact z3, by rw [gU_at ew (by omega)]; exact z4, hsf, hce, hcy⟩, ?_, ?_, ?_, ?_, ?_, ?_, ?_⟩
  · intro j hj
    have hj : j < nP d := hj
    by_cases hji : j = i
    · subst hji
      obtain ⟨a, b, f, e, g⟩ := zP j hj
      refine ⟨?_, by rw [gU_at ew (by omega)]; exact b, f, by rw [gU_at ew (by omega)]; exact e, g⟩
      rw [gU_s ew]
      exact congrArg (fun v => some (ca (10 + j), (Sum.inr (2, [Value.ref (ca (20 + j)), Value.int v]) : va_E))) upd_e.symm
    · exact cP_fr (zP j hj) (gU_at ew (by omega)) (gU_at ew (by omega)) (gU_at ew (by omega)) rfl (upd_n hji) rfl
  · intro s hs
    exact cS_fr (zS s hs) (gU_at ew (by omega)) (gU_at ew (by omega)) rfl rfl
  · intro u hu
    have hu : u < nU d := hu
    exact cU_fr (zU u hu) (gU_at ew (by omega)) (gU_at ew (by omega)) rfl rfl
  · intro u j hu hj hk
    obtain ⟨a1, a2, a3⟩ := zV u j hu hj hk
    exact ⟨a1, a2, cV_fr a3 (gU_at ew (by omega)) (gU_at ew (by omega)) rfl rfl⟩
  · intro j h1 h9
    have h1 : nP d ≤ j := h1
    rw [gU_at ew (by omega), gU_at ew (by omega), gU_at ew (by omega)]
    exact zN1 j h1 h9
  · intro u h1 h9
    rw [gU_at ew (by omega), gU_at ew (by omega)]
    exact zN2 u h1 h9
  · intro u j hu hj h9
    rw [gU_at ew (by omega), gU_at ew (by omega)]
    exact zN3 u j hu hj h9
theorem cW_drift {tc : Nat → ClassId} {w w' : gW} {ca : Nat → Nat} {d : gDt} {tk : Int64} {st : Nat → Int64} {i : Nat} {y : Int32} (hC : cW tc w ca d tk st) (hOk : mOk d) (hi : i < 4) (ew : w' = gU w (60 + i) (ca (60 + i), .inr (0, [.ref (ca (70 + i)), .int y]))) : cW tc w' ca (gD d 5 (upd (d 5) i y)) tk st := by
  obtain ⟨⟨z0, z1, z2, z5, z6⟩, ⟨cy, ge, sf, z3, z4, hsf, hce, hcy⟩, zP, zS, zU, zV, zN1, zN2, zN3⟩ := hC
  have b1 := hOk.1.2.1
  have b2 := hOk.1.2.2
  refine ⟨⟨by rw [gU_at ew (by omega)]; exact z0, by rw [gU_at ew (by omega)]; exact z1, by rw [gU_at ew (by omega)]; exact z2, by rw [gU_at ew (by omega)]; exact z5, by rw [gU_at ew (by omega)]; exact z6⟩, ⟨cy, ge, sf, by rw [gU_at ew (by omega)]; exact z3, by rw [gU_at ew (by omega)]; exact z4, hsf, hce, hcy⟩, ?_, ?_, ?_, ?_, ?_, ?_, ?_⟩
  · intro j hj
    have hj : j < nP d := hj
    exact cP_fr (zP j hj) (gU_at ew (by omega)) (gU_at ew (by omega)) (gU_at ew (by omega)) rfl rfl rfl
  · intro j hj
    by_cases hji : j = i
    · subst hji
      obtain ⟨a, f, e, g⟩ := zS j hj
      refine ⟨?_, f, by rw [gU_at ew (by omega)]; exact e, g⟩
      rw [gU_s ew]
      exact congrArg (fun v => some (ca (60 + j), (Sum.inr (0, [Value.ref (ca (70 + j)), Value.int v]) : va_E))) upd_e.symm
    · exact cS_fr (zS j hj) (gU_at ew (by omega)) (gU_at ew (by omega)) rfl (upd_n hji)
  · intro u hu
    have hu : u < nU d := hu
    exact cU_fr (zU u hu) (gU_at ew (by omega)) (gU_at ew (by omega)) rfl rfl
  · intro u j hu hj hk
    obtain ⟨a1, a2, a3⟩ := zV u j hu hj hk
    exact ⟨a1, a2, cV_fr a3 (gU_at ew (by omega)) (gU_at ew (by omega)) rfl rfl⟩
  · intro j h1 h9
    rw [gU_at ew (by omega), gU_at ew (by omega), gU_at ew (by omega)]
    exact zN1 j h1 h9
  · intro u h1 h9
    rw [gU_at ew (by omega), gU_at ew (by omega)]
    exact zN2 u h1 h9
  · intro u j hu hj h9
    rw [gU_at ew (by omega), gU_at ew (by omega)]
    exact zN3 u j hu hj h9
theorem isPiece_s {d : gDt} {i : Nat} (hOk : mOk d) (hi : i < nP d) : ¬ m_isPiece d (nI i) = 0 := by
  unfold m_isPiece
  have := hOk.1.2.1
  rw [hOk.2.1.2.1]
  refine f_in_ok (nI_pos (by omega)) ?_
  rw [Int32.lt_iff_toInt_lt, nI_prd (by omega), nI_toInt (by omega)]
  omega
theorem isSet_s {i : Nat} (hi : i < 4) : ¬ m_isSet (nI i) = 0 := by
  unfold m_isSet
  refine f_in_ok (nI_pos (by omega)) ?_
  rw [Int32.lt_iff_toInt_lt, nI_toInt (by omega)]
  have e3 : (3 : Int32).toInt = 3 := by decide
  omega
abbrev rm_X5_forbid : Room := { frames := 7, cells := 8, slots := 48, locals := 266 }
theorem nm_X5_forbid : gNm yX5_forbid 2 := ⟨by decide +kernel, by decide +kernel, by decide +kernel⟩
set_option maxHeartbeats 4000000 in
set_option maxRecDepth 100000 in
theorem c_X5_forbid (l : Launch) (hfl : l.stackTraces = false) (D : va_G) (tc : Nat → ClassId) (A : Nat → Prop) (w : gW) (ca : Nat → Nat) (d : gDt) (tk : Int64) (st : Nat → Int64) (x : Int32) (y : Int32) (hC : cW tc w ca d tk st) (hOk : mOk d) : gM l yX5_forbid cX5_forbid 5 (some .int) rm_X5_forbid D tc A [.ref (ca 0), .int x, .int y] w (fun v w' => ¬ m_go (ga_forbid d x y) (gb_forbid d x y) (gc_forbid d x y) = 0 ∧ v = some (.int (d 2 x.toNatClampNeg)) ∧ (∃ ca' : Nat → Nat, ca' 0 = ca 0 ∧ cW tc w' ca' (sL (gD d 2 (upd (d 2) x.toNatClampNeg y)) 0) tk st) ∧ gK w w') (c_thr gIO gIA gIS (ga_forbid d x y) (gb_forbid d x y) (gc_forbid d x y)) := by
  refine gM_of (by decide +kernel) (Nat.le_of_ble_eq_true rfl) ?_
  intro p e s m args below meth c ls Q hQ hE hG hr hnt hnm hl
  have hx := hE.1
  have hb := hE.2.1
  have hl : lv_has ls 5 [(0, .ref (ca 0)), (1, .int x), (2, .int y)] := hl
  obtain ⟨⟨z0, z1, z2, z5, z6⟩, ⟨cy, ge, sf, z3, z4, hsf, hce, hcy⟩, zP, zS, zU, zV, zN⟩ := id hC
  refine lv_aload_n hx hb dX5_forbid_0 rfl (lv_at hl 0 rfl) ?_
  refine lv_iload_n hx hb dX5_forbid_1 rfl (lv_at hl 1 rfl) ?_
  refine g_callV (rest := []) (As := [.int x]) hE hG hl.1 (c_X5_pieceAt l hfl D tc A w ca d tk st x hC hOk) z0 rfl mw2_57 mw2_59 mws_2 mw1_1 mw2_60 rfl nm_X5_pieceAt ⟨⟨Nat.le_of_ble_eq_true rfl, Nat.le_of_ble_eq_true rfl⟩, Nat.le_of_ble_eq_true rfl, Nat.le_of_ble_eq_true rfl⟩ rfl rfl (Nat.le_of_ble_eq_true rfl) dX5_forbid_2 (by subst hQ; exact g_out hE hnt rfl (fun E h => Or.inl h) (Nat.le_of_ble_eq_true rfl) (Nat.le_of_ble_eq_true rfl)) ?_
  intro v9 w9 H locs h9 hG
  obtain ⟨e8, i_1, hi_1, hxi_1, e9⟩ := h9
  rw [e9]; clear e9
  rw [e8] at hG; clear e8
  show W p l e _ s m args below meth c H locs _ _ _ (F0 m 5 ls [.ref (ca (10 + i_1))])
  subst hxi_1
  have b9 := hOk.1.2.1
  obtain ⟨q1, q2, qf, q3, q4⟩ := zP i_1 hi_1
  refine lv_astore_n (lv' := [(3, .ref (ca (10 + i_1))), (0, .ref (ca 0)), (1, .int (nI i_1)), (2, .int y)]) hx hb dX5_forbid_5 rfl hl (by decide) rfl (fun ls hl => ?_)
  refine lv_iload_n hx hb dX5_forbid_6 rfl (lv_at hl 3 rfl) ?_
  refine lv_if_lt (tgt := 16) hx hb dX5_forbid_7 (by decide) (fun c_2 => ?_) (fun c_2 => ?_)
  · skip
    subst hQ
    exact g_thr (E := gIA) hfl hE hG hl.1 hnt gTgIA (List.mem_of_getElem? (i := 4) rfl) dX5_forbid_16 dX5_forbid_19 dX5_forbid_20 dX5_forbid_22 dX5_forbid_25 (by refine ⟨?_, ?_, ?_, ?_, ?_, ?_⟩ <;> exact Nat.le_of_ble_eq_true rfl) rfl (Or.inr (Or.inl ⟨isPiece_s hOk hi_1, rng_lo c_2, rfl⟩))
  · skip
    refine lv_iload_n hx hb dX5_forbid_10 rfl (lv_at hl 3 rfl) ?_
    refine lv_bipush (v := 31) hx hb dX5_forbid_11 (by decide) ?_
    refine lv_icmp_le (tgt := 26) hx hb dX5_forbid_13 (by decide) (fun c_3 => ?_) (fun c_3 => ?_)
    · skip
      refine lv_aload_n hx hb dX5_forbid_26 rfl (lv_at hl 0 rfl) ?_
      refine g_getN hE hG q1 rfl inG2 1 (by decide) (List.mem_of_getElem? (i := 9) rfl) rfl dX5_forbid_27 ?_
      refine lv_istore (lv' := [(4, .int (d 2 i_1)), (3, .ref (ca (10 + i_1))), (0, .ref (ca 0)), (1, .int (nI i_1)), (2, .int y)]) hx hb dX5_forbid_30 hl (by decide) rfl (fun ls hl => ?_)
      refine lv_aload_n hx hb dX5_forbid_32 rfl (lv_at hl 1 rfl) ?_
      refine lv_iload_n hx hb dX5_forbid_33 rfl (lv_at hl 4 rfl) ?_
      refine g_putN hE hG q1 rfl inG2 tyX2 tyX2_ok nmX2 1 (by decide) (List.mem_of_getElem? (i := 9) rfl) rfl rfl rfl (Nat.le_of_ble_eq_true rfl) dX5_forbid_34 (fun H locs w_4 ew_4 hG => ?_)
      have h_5 : w_4 0 = some ((ca 0), .inr (5, [.ref (ca 1), .int (d 9 0), .ref (ca 2), .int (d 9 1), .ref (ca 3), .int (d 9 10), .int (d 9 11), .ref (ca 5), .int (d 9 12), .ref (ca 6), .int (d 9 13)])) := gU_n ew_4 (by omega) z0
      have h_6 : w_4 1 = some ((ca 1), .inl (tc 0, 4, .inl (d 0))) := gU_n ew_4 (by omega) z1
      have h_7 : w_4 2 = some ((ca 2), .inl (tc 3, 6, .inr (.inr (.inr (.inr (c_pf ca (nP d))))))) := gU_n ew_4 (by omega) z2
      have h_8 : w_4 5 = some ((ca 5), .inl (tc 4, 4, .inr (.inr (.inr (.inr (c_sf ca)))))) := gU_n ew_4 (by omega) z5
      have h_9 : w_4 6 = some ((ca 6), .inl (tc 5, 8, .inr (.inr (.inr (.inr (c_uf ca (nU d))))))) := gU_n ew_4 (by omega) z6
      have h_10 : w_4 3 = some ((ca 3), .inr (4, [.int (d 9 3), .int cy, .int (d 9 4), .int (d 9 5), .int (d 9 6), .int (d 9 7), .int (d 9 8), .int (d 9 2), .int ge, .long tk, .ref (ca 4)])) := gU_n ew_4 (by omega) z3
      have h_11 : w_4 4 = some ((ca 4), .inl (tc 1, 4, .inr (.inl sf))) := gU_n ew_4 (by omega) z4
      have h_12 : w_4 (10 + i_1) = some ((ca (10 + i_1)), .inr (2, [.ref (ca (20 + i_1)), .int y])) := gU_s ew_4
      refine lv_iload hx hb dX5_forbid_37 (lv_at hl 0 rfl) ?_
      subst hQ
      exact g_iret hE hG hr (Nat.le_of_ble_eq_true rfl) (Nat.le_of_ble_eq_true rfl) dX5_forbid_39 ⟨m_go_i (isPiece_s hOk hi_1) (f_in_ok c_2 (Int32.not_lt.mpr c_3)) one_nz, by rw [nI_clamp (by omega)], ⟨ca, rfl, by rw [nI_clamp (by omega)]; exact cW_l (cW_forbid hC hOk hi_1 ew_4) 0⟩, gK_u (gK_rf w) ew_4 (by omega)⟩
    · skip
      subst hQ
      exact g_thr (E := gIA) hfl hE hG hl.1 hnt gTgIA (List.mem_of_getElem? (i := 4) rfl) dX5_forbid_16 dX5_forbid_19 dX5_forbid_20 dX5_forbid_22 dX5_forbid_25 (by refine ⟨?_, ?_, ?_, ?_, ?_, ?_⟩ <;> exact Nat.le_of_ble_eq_true rfl) rfl (Or.inr (Or.inl ⟨isPiece_s hOk hi_1, rng_hi (Int32.not_le.mp c_3), rfl⟩))
abbrev rm_X5_drift : Room := { frames := 7, cells := 8, slots := 48, locals := 266 }
theorem nm_X5_drift : gNm yX5_drift 2 := ⟨by decide +kernel, by decide +kernel, by decide +kernel⟩
set_option maxHeartbeats 4000000 in
set_option maxRecDepth 100000 in
theorem c_X5_drift (l : Launch) (hfl : l.stackTraces = false) (D : va_G) (tc : Nat → ClassId) (A : Nat → Prop) (w : gW) (ca : Nat → Nat) (d : gDt) (tk : Int64) (st : Nat → Int64) (x : Int32) (y : Int32) (hC : cW tc w ca d tk st) (hOk : mOk d) : gM l yX5_drift cX5_drift 5 (some .int) rm_X5_drift D tc A [.ref (ca 0), .int x, .int y] w (fun v w' => ¬ m_go (ga_drift d x y) (gb_drift d x y) (gc_drift d x y) = 0 ∧ v = some (.int (d 5 x.toNatClampNeg)) ∧ (∃ ca' : Nat → Nat, ca' 0 = ca 0 ∧ cW tc w' ca' (sL (gD d 5 (upd (d 5) x.toNatClampNeg y)) 0) tk st) ∧ gK w w') (c_thr gIO gIA gIS (ga_drift d x y) (gb_drift d x y) (gc_drift d x y)) := by
  refine gM_of (by decide +kernel) (Nat.le_of_ble_eq_true rfl) ?_
  intro p e s m args below meth c ls Q hQ hE hG hr hnt hnm hl
  have hx := hE.1
  have hb := hE.2.1
  have hl : lv_has ls 5 [(0, .ref (ca 0)), (1, .int x), (2, .int y)] := hl
  obtain ⟨⟨z0, z1, z2, z5, z6⟩, ⟨cy, ge, sf, z3, z4, hsf, hce, hcy⟩, zP, zS, zU, zV, zN⟩ := id hC
  refine lv_aload_n hx hb dX5_drift_0 rfl (lv_at hl 0 rfl) ?_
  refine lv_iload_n hx hb dX5_drift_1 rfl (lv_at hl 1 rfl) ?_
  refine g_callV (rest := []) (As := [.int x]) hE hG hl.1 (c_X5_setAt l hfl D tc A w ca d tk st x hC hOk) z0 rfl mw2_187 mw2_189 mws_7 mw1_1 mw2_190 rfl nm_X5_setAt ⟨⟨Nat.le_of_ble_eq_true rfl, Nat.le_of_ble_eq_true rfl⟩, Nat.le_of_ble_eq_true rfl, Nat.le_of_ble_eq_true rfl⟩ rfl rfl (Nat.le_of_ble_eq_true rfl) dX5_drift_2 (by subst hQ; exact g_out hE hnt rfl (fun E h => Or.inl h) (Nat.le_of_ble_eq_true rfl) (Nat.le_of_ble_eq_true rfl)) ?_
  intro v9 w9 H locs h9 hG
  obtain ⟨e8, i_1, hi_1, hxi_1, e9⟩ := h9
  rw [e9]; clear e9
  rw [e8] at hG; clear e8
  show W p l e _ s m args below meth c H locs _ _ _ (F0 m 5 ls [.ref (ca (60 + i_1))])
  subst hxi_1
  obtain ⟨q1, qf, q3, q4⟩ := zS i_1 hi_1
  refine lv_astore_n (lv' := [(3, .ref (ca (60 + i_1))), (0, .ref (ca 0)), (1, .int (nI i_1)), (2, .int y)]) hx hb dX5_drift_5 rfl hl (by decide) rfl (fun ls hl => ?_)
  refine lv_iload_n hx hb dX5_drift_6 rfl (lv_at hl 3 rfl) ?_
  refine lv_if_lt (tgt := 16) hx hb dX5_drift_7 (by decide) (fun c_2 => ?_) (fun c_2 => ?_)
  · skip
    subst hQ
    exact g_thr (E := gIA) hfl hE hG hl.1 hnt gTgIA (List.mem_of_getElem? (i := 12) rfl) dX5_drift_16 dX5_drift_19 dX5_drift_20 dX5_drift_22 dX5_drift_25 (by refine ⟨?_, ?_, ?_, ?_, ?_, ?_⟩ <;> exact Nat.le_of_ble_eq_true rfl) rfl (Or.inr (Or.inl ⟨isSet_s hi_1, rng_lo c_2, rfl⟩))
  · skip
    refine lv_iload_n hx hb dX5_drift_10 rfl (lv_at hl 3 rfl) ?_
    refine lv_bipush (v := 50) hx hb dX5_drift_11 (by decide) ?_
    refine lv_icmp_le (tgt := 26) hx hb dX5_drift_13 (by decide) (fun c_3 => ?_) (fun c_3 => ?_)
    · skip
      refine lv_aload_n hx hb dX5_drift_26 rfl (lv_at hl 0 rfl) ?_
      refine g_getN hE hG q1 rfl inG0 1 (by decide) (List.mem_of_getElem? (i := 7) rfl) rfl dX5_drift_27 ?_
      refine lv_istore (lv' := [(4, .int (d 5 i_1)), (3, .ref (ca (60 + i_1))), (0, .ref (ca 0)), (1, .int (nI i_1)), (2, .int y)]) hx hb dX5_drift_30 hl (by decide) rfl (fun ls hl => ?_)
      refine lv_aload_n hx hb dX5_drift_32 rfl (lv_at hl 1 rfl) ?_
      refine lv_iload_n hx hb dX5_drift_33 rfl (lv_at hl 4 rfl) ?_
      refine g_putN hE hG q1 rfl inG0 tyX0 tyX0_ok nmX0 1 (by decide) (List.mem_of_getElem? (i := 7) rfl) rfl rfl rfl (Nat.le_of_ble_eq_true rfl) dX5_drift_34 (fun H locs w_4 ew_4 hG => ?_)
      have h_5 : w_4 0 = some ((ca 0), .inr (5, [.ref (ca 1), .int (d 9 0), .ref (ca 2), .int (d 9 1), .ref (ca 3), .int (d 9 10), .int (d 9 11), .ref (ca 5), .int (d 9 12), .ref (ca 6), .int (d 9 13)])) := gU_n ew_4 (by omega) z0
      have h_6 : w_4 1 = some ((ca 1), .inl (tc 0, 4, .inl (d 0))) := gU_n ew_4 (by omega) z1
      have h_7 : w_4 2 = some ((ca 2), .inl (tc 3, 6, .inr (.inr (.inr (.inr (c_pf ca (nP d))))))) := gU_n ew_4 (by omega) z2
      have h_8 : w_4 5 = some ((ca 5), .inl (tc 4, 4, .inr (.inr (.inr (.inr (c_sf ca)))))) := gU_n ew_4 (by omega) z5
      have h_9 : w_4 6 = some ((ca 6), .inl (tc 5, 8, .inr (.inr (.inr (.inr (c_uf ca (nU d))))))) := gU_n ew_4 (by omega) z6
      have h_10 : w_4 3 = some ((ca 3), .inr (4, [.int (d 9 3), .int cy, .int (d 9 4), .int (d 9 5), .int (d 9 6), .int (d 9 7), .int (d 9 8), .int (d 9 2), .int ge, .long tk, .ref (ca 4)])) := gU_n ew_4 (by omega) z3
      have h_11 : w_4 4 = some ((ca 4), .inl (tc 1, 4, .inr (.inl sf))) := gU_n ew_4 (by omega) z4
      have h_12 : w_4 (60 + i_1) = some ((ca (60 + i_1)), .inr (0, [.ref (ca (70 + i_1)), .int y])) := gU_s ew_4
      refine lv_iload hx hb dX5_drift_37 (lv_at hl 0 rfl) ?_
      subst hQ
      exact g_iret hE hG hr (Nat.le_of_ble_eq_true rfl) (Nat.le_of_ble_eq_true rfl) dX5_drift_39 ⟨m_go_i (isSet_s hi_1) (f_in_ok c_2 (Int32.not_lt.mpr c_3)) one_nz, by rw [nI_clamp (by omega)], ⟨ca, rfl, by rw [nI_clamp (by omega)]; exact cW_l (cW_drift hC hOk hi_1 ew_4) 0⟩, gK_u (gK_rf w) ew_4 (by omega)⟩
    · skip
      subst hQ
      exact g_thr (E := gIA) hfl hE hG hl.1 hnt gTgIA (List.mem_of_getElem? (i := 12) rfl) dX5_drift_16 dX5_drift_19 dX5_drift_20 dX5_drift_22 dX5_drift_25 (by refine ⟨?_, ?_, ?_, ?_, ?_, ?_⟩ <;> exact Nat.le_of_ble_eq_true rfl) rfl (Or.inr (Or.inl ⟨isSet_s hi_1, rng_hi (Int32.not_le.mp c_3), rfl⟩))
