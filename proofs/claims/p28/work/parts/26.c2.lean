/-! GongCycles: its helpers that refuse -/
abbrev rm_X5_pieceAt : Room := { frames := 6, cells := 1, slots := 6, locals := 230 }
theorem nm_X5_pieceAt : gNm yX5_pieceAt 1 := ⟨by decide +kernel, by decide +kernel, by decide +kernel⟩
set_option maxHeartbeats 200000 in
set_option maxRecDepth 100000 in
theorem c_X5_pieceAt (l : Launch) (hfl : l.stackTraces = false) (D : va_G) (tc : Nat → ClassId) (A : Nat → Prop) (w : gW) (ca : Nat → Nat) (d : gDt) (tk : Int64) (st : Nat → Int64) (x : Int32) (hC : cW tc w ca d tk st) (hOk : mOk d) : gM l yX5_pieceAt cX5_pieceAt 3 (some (.object "GongCycles$Piece")) rm_X5_pieceAt D tc A [.ref (ca 0), .int x] w (fun v w' => w' = w ∧ ∃ i, i < nP d ∧ x = nI i ∧ v = some (.ref (ca (10 + i)))) (fun E => m_isPiece d x = 0 ∧ E = gIO) := by
  refine gM_of (by decide +kernel) (Nat.le_of_ble_eq_true rfl) ?_
  intro p e s m args below meth c ls Q hQ hE hG hr hnt hnm hl
  have hx := hE.1
  have hb := hE.2.1
  have hl : lv_has ls 3 [(0, .ref (ca 0)), (1, .int x)] := hl
  obtain ⟨⟨z0, z1, z2, z5, z6⟩, ⟨cy, ge, sf, z3, z4, hsf, hce, hcy⟩, zP, zS, zU, zV, zN⟩ := id hC
  by_cases hq : m_isPiece d x = 0
  · skip
    refine lv_iload_n hx hb dX5_pieceAt_0 rfl (lv_at hl 1 rfl) ?_
    refine lv_if_lt (tgt := 22) hx hb dX5_pieceAt_1 (by decide) (fun c_1 => ?_) (fun c_1 => ?_)
    · skip
      refine lv_null hx hb dX5_pieceAt_22 ?_
      refine lv_astore_nN (lv' := [(2, .null), (0, .ref (ca 0)), (1, .int x)]) hx hb dX5_pieceAt_23 rfl hl (by decide) rfl (fun ls hl => ?_)
      refine lv_aload_nN hx hb dX5_pieceAt_24 rfl (lv_at hl 0 rfl) ?_
      refine lv_ifnonnullN hx hb dX5_pieceAt_25 ?_
      subst hQ
      exact g_thrW (E := gIO) hfl hE hG hl.1 hnt gTgIO (List.mem_of_getElem? (i := 22) rfl) dX5_pieceAt_28 dX5_pieceAt_31 dX5_pieceAt_32 dX5_pieceAt_35 dX5_pieceAt_38 (by refine ⟨?_, ?_, ?_, ?_, ?_, ?_⟩ <;> exact Nat.le_of_ble_eq_true rfl) rfl ⟨hq, rfl⟩
    · skip
      refine lv_iload_n hx hb dX5_pieceAt_4 rfl (lv_at hl 1 rfl) ?_
      refine lv_aload_n hx hb dX5_pieceAt_5 rfl (lv_at hl 0 rfl) ?_
      refine g_get hE hG z0 rfl inG5 2 (by decide) mw1_103 rfl dX5_pieceAt_6 ?_
      refine g_alen (t0 := 3) (v := 6) hE hG z2 rfl rfl dX5_pieceAt_9 ?_
      refine lv_icmp_ge (tgt := 22) hx hb dX5_pieceAt_10 (by decide) (fun c_2 => ?_) (fun c_2 => ?_)
      · skip
        refine lv_null hx hb dX5_pieceAt_22 ?_
        refine lv_astore_nN (lv' := [(2, .null), (0, .ref (ca 0)), (1, .int x)]) hx hb dX5_pieceAt_23 rfl hl (by decide) rfl (fun ls hl => ?_)
        refine lv_aload_nN hx hb dX5_pieceAt_24 rfl (lv_at hl 0 rfl) ?_
        refine lv_ifnonnullN hx hb dX5_pieceAt_25 ?_
        subst hQ
        exact g_thrW (E := gIO) hfl hE hG hl.1 hnt gTgIO (List.mem_of_getElem? (i := 22) rfl) dX5_pieceAt_28 dX5_pieceAt_31 dX5_pieceAt_32 dX5_pieceAt_35 dX5_pieceAt_38 (by refine ⟨?_, ?_, ?_, ?_, ?_, ?_⟩ <;> exact Nat.le_of_ble_eq_true rfl) rfl ⟨hq, rfl⟩
      · skip
        refine lv_aload_n hx hb dX5_pieceAt_13 rfl (lv_at hl 0 rfl) ?_
        refine g_get hE hG z0 rfl inG5 2 (by decide) mw1_103 rfl dX5_pieceAt_14 ?_
        refine lv_iload_n hx hb dX5_pieceAt_17 rfl (lv_at hl 1 rfl) ?_
        refine g_aald (t0 := 3) hE hG z2 rfl (arr_in (n := 6) (by decide) c_1 c_2) dX5_pieceAt_18 ?_
        rw [pf_z hOk c_1 hq]
        show W p l e _ s m args below meth c s.heap [] _ _ _ (F0 m 19 ls [.null])
        refine lv_goto (tgt := 23) hx hb dX5_pieceAt_19 (by decide) ?_
        refine lv_astore_nN (lv' := [(2, .null), (0, .ref (ca 0)), (1, .int x)]) hx hb dX5_pieceAt_23 rfl hl (by decide) rfl (fun ls hl => ?_)
        refine lv_aload_nN hx hb dX5_pieceAt_24 rfl (lv_at hl 0 rfl) ?_
        refine lv_ifnonnullN hx hb dX5_pieceAt_25 ?_
        subst hQ
        exact g_thrW (E := gIO) hfl hE hG hl.1 hnt gTgIO (List.mem_of_getElem? (i := 22) rfl) dX5_pieceAt_28 dX5_pieceAt_31 dX5_pieceAt_32 dX5_pieceAt_35 dX5_pieceAt_38 (by refine ⟨?_, ?_, ?_, ?_, ?_, ?_⟩ <;> exact Nat.le_of_ble_eq_true rfl) rfl ⟨hq, rfl⟩
  · skip
    obtain ⟨i, hi, hxi⟩ := m_isPiece_ne hOk hq
    subst hxi
    refine lv_iload_n hx hb dX5_pieceAt_0 rfl (lv_at hl 1 rfl) ?_
    refine lv_if_lt (tgt := 22) hx hb dX5_pieceAt_1 (by decide) (fun c9 => absurd c9 (nI_pos (by have := hOk.1.2.1; omega))) (fun c9 => ?_)
    refine lv_iload_n hx hb dX5_pieceAt_4 rfl (lv_at hl 1 rfl) ?_
    refine lv_aload_n hx hb dX5_pieceAt_5 rfl (lv_at hl 0 rfl) ?_
    refine g_get hE hG z0 rfl inG5 2 (by decide) mw1_103 rfl dX5_pieceAt_6 ?_
    refine g_alen (t0 := 3) (v := 6) hE hG z2 rfl rfl dX5_pieceAt_9 ?_
    refine lv_icmp_ge (tgt := 22) hx hb dX5_pieceAt_10 (by decide) (fun c9 => absurd c9 (nI_ge (b := 6) (by have := hOk.1.2.1; omega) (by have := hOk.1.2.1; omega))) (fun c9 => ?_)
    refine lv_aload_n hx hb dX5_pieceAt_13 rfl (lv_at hl 0 rfl) ?_
    refine g_get hE hG z0 rfl inG5 2 (by decide) mw1_103 rfl dX5_pieceAt_14 ?_
    refine lv_iload_n hx hb dX5_pieceAt_17 rfl (lv_at hl 1 rfl) ?_
    refine g_aald (t0 := 3) hE hG z2 rfl (vp_in_nI (by have := hOk.1.2.1; omega) (by decide)) dX5_pieceAt_18 ?_
    rw [pf_s hi hOk.1.2.1]
    show W p l e _ s m args below meth c s.heap [] _ _ _ (F0 m 19 ls [.ref (ca (10 + i))])
    refine lv_goto (tgt := 23) hx hb dX5_pieceAt_19 (by decide) ?_
    refine lv_astore_n (lv' := [(2, .ref (ca (10 + i))), (0, .ref (ca 0)), (1, .int (nI i))]) hx hb dX5_pieceAt_23 rfl hl (by decide) rfl (fun ls hl => ?_)
    refine lv_aload_n hx hb dX5_pieceAt_24 rfl (lv_at hl 0 rfl) ?_
    refine lv_ifnonnull (tgt := 39) hx hb dX5_pieceAt_25 (by decide) ?_
    refine lv_aload_n hx hb dX5_pieceAt_39 rfl (lv_at hl 0 rfl) ?_
    subst hQ
    exact g_aret hE hG hr (Or.inr ⟨_, rfl⟩) (Nat.le_of_ble_eq_true rfl) (Nat.le_of_ble_eq_true rfl) dX5_pieceAt_40 ⟨rfl, i, hi, rfl, rfl⟩
abbrev rm_X5_pieceAt_ok : Room := { frames := 1, cells := 0, slots := 0, locals := 50 }
set_option maxHeartbeats 200000 in
set_option maxRecDepth 100000 in
theorem c_X5_pieceAt_ok (l : Launch) (hfl : l.stackTraces = false) (D : va_G) (tc : Nat → ClassId) (A : Nat → Prop) (w : gW) (ca : Nat → Nat) (d : gDt) (tk : Int64) (st : Nat → Int64) (i : Nat) (hC : cW tc w ca d tk st) (hOk : mOk d) (hi : i < nP d) : gM l yX5_pieceAt cX5_pieceAt 3 (some (.object "GongCycles$Piece")) rm_X5_pieceAt_ok D tc A [.ref (ca 0), .int (nI i)] w (fun v w' => w' = w ∧ v = some (.ref (ca (10 + i)))) (fun _ => False) := by
  refine gM_of (by decide +kernel) (Nat.le_of_ble_eq_true rfl) ?_
  intro p e s m args below meth c ls Q hQ hE hG hr hnt hnm hl
  have hx := hE.1
  have hb := hE.2.1
  have hl : lv_has ls 3 [(0, .ref (ca 0)), (1, .int (nI i))] := hl
  obtain ⟨⟨z0, z1, z2, z5, z6⟩, ⟨cy, ge, sf, z3, z4, hsf, hce, hcy⟩, zP, zS, zU, zV, zN⟩ := id hC
  refine lv_iload_n hx hb dX5_pieceAt_0 rfl (lv_at hl 1 rfl) ?_
  refine lv_if_lt (tgt := 22) hx hb dX5_pieceAt_1 (by decide) (fun c9 => absurd c9 (nI_pos (by have := hOk.1.2.1; omega))) (fun c9 => ?_)
  refine lv_iload_n hx hb dX5_pieceAt_4 rfl (lv_at hl 1 rfl) ?_
  refine lv_aload_n hx hb dX5_pieceAt_5 rfl (lv_at hl 0 rfl) ?_
  refine g_get hE hG z0 rfl inG5 2 (by decide) mw1_103 rfl dX5_pieceAt_6 ?_
  refine g_alen (t0 := 3) (v := 6) hE hG z2 rfl rfl dX5_pieceAt_9 ?_
  refine lv_icmp_ge (tgt := 22) hx hb dX5_pieceAt_10 (by decide) (fun c9 => absurd c9 (nI_ge (b := 6) (by have := hOk.1.2.1; omega) (by have := hOk.1.2.1; omega))) (fun c9 => ?_)
  refine lv_aload_n hx hb dX5_pieceAt_13 rfl (lv_at hl 0 rfl) ?_
  refine g_get hE hG z0 rfl inG5 2 (by decide) mw1_103 rfl dX5_pieceAt_14 ?_
  refine lv_iload_n hx hb dX5_pieceAt_17 rfl (lv_at hl 1 rfl) ?_
  refine g_aald (t0 := 3) hE hG z2 rfl (vp_in_nI (by have := hOk.1.2.1; omega) (by decide)) dX5_pieceAt_18 ?_
  rw [pf_s hi hOk.1.2.1]
  show W p l e _ s m args below meth c s.heap [] _ _ _ (F0 m 19 ls [.ref (ca (10 + i))])
  refine lv_goto (tgt := 23) hx hb dX5_pieceAt_19 (by decide) ?_
  refine lv_astore_n (lv' := [(2, .ref (ca (10 + i))), (0, .ref (ca 0)), (1, .int (nI i))]) hx hb dX5_pieceAt_23 rfl hl (by decide) rfl (fun ls hl => ?_)
  refine lv_aload_n hx hb dX5_pieceAt_24 rfl (lv_at hl 0 rfl) ?_
  refine lv_ifnonnull (tgt := 39) hx hb dX5_pieceAt_25 (by decide) ?_
  refine lv_aload_n hx hb dX5_pieceAt_39 rfl (lv_at hl 0 rfl) ?_
  subst hQ
  exact g_aret hE hG hr (Or.inr ⟨_, rfl⟩) (Nat.le_of_ble_eq_true rfl) (Nat.le_of_ble_eq_true rfl) dX5_pieceAt_40 ⟨rfl, rfl⟩
abbrev rm_X5_playerAt : Room := { frames := 6, cells := 1, slots := 6, locals := 230 }
theorem nm_X5_playerAt : gNm yX5_playerAt 1 := ⟨by decide +kernel, by decide +kernel, by decide +kernel⟩
set_option maxHeartbeats 200000 in
set_option maxRecDepth 100000 in
theorem c_X5_playerAt (l : Launch) (hfl : l.stackTraces = false) (D : va_G) (tc : Nat → ClassId) (A : Nat → Prop) (w : gW) (ca : Nat → Nat) (d : gDt) (tk : Int64) (st : Nat → Int64) (x : Int32) (hC : cW tc w ca d tk st) (hOk : mOk d) : gM l yX5_playerAt cX5_playerAt 3 (some (.object "GongCycles$Player")) rm_X5_playerAt D tc A [.ref (ca 0), .int x] w (fun v w' => w' = w ∧ ∃ i, i < nU d ∧ x = nI i ∧ v = some (.ref (ca (40 + i)))) (fun E => m_isPlayer d x = 0 ∧ E = gIO) := by
  refine gM_of (by decide +kernel) (Nat.le_of_ble_eq_true rfl) ?_
  intro p e s m args below meth c ls Q hQ hE hG hr hnt hnm hl
  have hx := hE.1
  have hb := hE.2.1
  have hl : lv_has ls 3 [(0, .ref (ca 0)), (1, .int x)] := hl
  obtain ⟨⟨z0, z1, z2, z5, z6⟩, ⟨cy, ge, sf, z3, z4, hsf, hce, hcy⟩, zP, zS, zU, zV, zN⟩ := id hC
  by_cases hq : m_isPlayer d x = 0
  · skip
    refine lv_iload_n hx hb dX5_playerAt_0 rfl (lv_at hl 1 rfl) ?_
    refine lv_if_lt (tgt := 22) hx hb dX5_playerAt_1 (by decide) (fun c_1 => ?_) (fun c_1 => ?_)
    · skip
      refine lv_null hx hb dX5_playerAt_22 ?_
      refine lv_astore_nN (lv' := [(2, .null), (0, .ref (ca 0)), (1, .int x)]) hx hb dX5_playerAt_23 rfl hl (by decide) rfl (fun ls hl => ?_)
      refine lv_aload_nN hx hb dX5_playerAt_24 rfl (lv_at hl 0 rfl) ?_
      refine lv_ifnonnullN hx hb dX5_playerAt_25 ?_
      subst hQ
      exact g_thrW (E := gIO) hfl hE hG hl.1 hnt gTgIO (List.mem_of_getElem? (i := 24) rfl) dX5_playerAt_28 dX5_playerAt_31 dX5_playerAt_32 dX5_playerAt_35 dX5_playerAt_38 (by refine ⟨?_, ?_, ?_, ?_, ?_, ?_⟩ <;> exact Nat.le_of_ble_eq_true rfl) rfl ⟨hq, rfl⟩
    · skip
      refine lv_iload_n hx hb dX5_playerAt_4 rfl (lv_at hl 1 rfl) ?_
      refine lv_aload_n hx hb dX5_playerAt_5 rfl (lv_at hl 0 rfl) ?_
      refine g_get hE hG z0 rfl inG5 9 (by decide) mw1_110 rfl dX5_playerAt_6 ?_
      refine g_alen (t0 := 5) (v := 8) hE hG z6 rfl rfl dX5_playerAt_9 ?_
      refine lv_icmp_ge (tgt := 22) hx hb dX5_playerAt_10 (by decide) (fun c_2 => ?_) (fun c_2 => ?_)
      · skip
        refine lv_null hx hb dX5_playerAt_22 ?_
        refine lv_astore_nN (lv' := [(2, .null), (0, .ref (ca 0)), (1, .int x)]) hx hb dX5_playerAt_23 rfl hl (by decide) rfl (fun ls hl => ?_)
        refine lv_aload_nN hx hb dX5_playerAt_24 rfl (lv_at hl 0 rfl) ?_
        refine lv_ifnonnullN hx hb dX5_playerAt_25 ?_
        subst hQ
        exact g_thrW (E := gIO) hfl hE hG hl.1 hnt gTgIO (List.mem_of_getElem? (i := 24) rfl) dX5_playerAt_28 dX5_playerAt_31 dX5_playerAt_32 dX5_playerAt_35 dX5_playerAt_38 (by refine ⟨?_, ?_, ?_, ?_, ?_, ?_⟩ <;> exact Nat.le_of_ble_eq_true rfl) rfl ⟨hq, rfl⟩
      · skip
        refine lv_aload_n hx hb dX5_playerAt_13 rfl (lv_at hl 0 rfl) ?_
        refine g_get hE hG z0 rfl inG5 9 (by decide) mw1_110 rfl dX5_playerAt_14 ?_
        refine lv_iload_n hx hb dX5_playerAt_17 rfl (lv_at hl 1 rfl) ?_
        refine g_aald (t0 := 5) hE hG z6 rfl (arr_in (n := 8) (by decide) c_1 c_2) dX5_playerAt_18 ?_
        rw [uf_z hOk c_1 hq]
        show W p l e _ s m args below meth c s.heap [] _ _ _ (F0 m 19 ls [.null])
        refine lv_goto (tgt := 23) hx hb dX5_playerAt_19 (by decide) ?_
        refine lv_astore_nN (lv' := [(2, .null), (0, .ref (ca 0)), (1, .int x)]) hx hb dX5_playerAt_23 rfl hl (by decide) rfl (fun ls hl => ?_)
        refine lv_aload_nN hx hb dX5_playerAt_24 rfl (lv_at hl 0 rfl) ?_
        refine lv_ifnonnullN hx hb dX5_playerAt_25 ?_
        subst hQ
        exact g_thrW (E := gIO) hfl hE hG hl.1 hnt gTgIO (List.mem_of_getElem? (i := 24) rfl) dX5_playerAt_28 dX5_playerAt_31 dX5_playerAt_32 dX5_playerAt_35 dX5_playerAt_38 (by refine ⟨?_, ?_, ?_, ?_, ?_, ?_⟩ <;> exact Nat.le_of_ble_eq_true rfl) rfl ⟨hq, rfl⟩
  · skip
    obtain ⟨i, hi, hxi⟩ := m_isPlayer_ne hOk hq
    subst hxi
    refine lv_iload_n hx hb dX5_playerAt_0 rfl (lv_at hl 1 rfl) ?_
    refine lv_if_lt (tgt := 22) hx hb dX5_playerAt_1 (by decide) (fun c9 => absurd c9 (nI_pos (by have := hOk.1.2.2; omega))) (fun c9 => ?_)
    refine lv_iload_n hx hb dX5_playerAt_4 rfl (lv_at hl 1 rfl) ?_
    refine lv_aload_n hx hb dX5_playerAt_5 rfl (lv_at hl 0 rfl) ?_
    refine g_get hE hG z0 rfl inG5 9 (by decide) mw1_110 rfl dX5_playerAt_6 ?_
    refine g_alen (t0 := 5) (v := 8) hE hG z6 rfl rfl dX5_playerAt_9 ?_
    refine lv_icmp_ge (tgt := 22) hx hb dX5_playerAt_10 (by decide) (fun c9 => absurd c9 (nI_ge (b := 8) (by have := hOk.1.2.2; omega) (by have := hOk.1.2.2; omega))) (fun c9 => ?_)
    refine lv_aload_n hx hb dX5_playerAt_13 rfl (lv_at hl 0 rfl) ?_
    refine g_get hE hG z0 rfl inG5 9 (by decide) mw1_110 rfl dX5_playerAt_14 ?_
    refine lv_iload_n hx hb dX5_playerAt_17 rfl (lv_at hl 1 rfl) ?_
    refine g_aald (t0 := 5) hE hG z6 rfl (vp_in_nI (by have := hOk.1.2.2; omega) (by decide)) dX5_playerAt_18 ?_
    rw [uf_s hi hOk.1.2.2]
    show W p l e _ s m args below meth c s.heap [] _ _ _ (F0 m 19 ls [.ref (ca (40 + i))])
    refine lv_goto (tgt := 23) hx hb dX5_playerAt_19 (by decide) ?_
    refine lv_astore_n (lv' := [(2, .ref (ca (40 + i))), (0, .ref (ca 0)), (1, .int (nI i))]) hx hb dX5_playerAt_23 rfl hl (by decide) rfl (fun ls hl => ?_)
    refine lv_aload_n hx hb dX5_playerAt_24 rfl (lv_at hl 0 rfl) ?_
    refine lv_ifnonnull (tgt := 39) hx hb dX5_playerAt_25 (by decide) ?_
    refine lv_aload_n hx hb dX5_playerAt_39 rfl (lv_at hl 0 rfl) ?_
    subst hQ
    exact g_aret hE hG hr (Or.inr ⟨_, rfl⟩) (Nat.le_of_ble_eq_true rfl) (Nat.le_of_ble_eq_true rfl) dX5_playerAt_40 ⟨rfl, i, hi, rfl, rfl⟩
abbrev rm_X5_playerAt_ok : Room := { frames := 1, cells := 0, slots := 0, locals := 50 }
set_option maxHeartbeats 200000 in
set_option maxRecDepth 100000 in
theorem c_X5_playerAt_ok (l : Launch) (hfl : l.stackTraces = false) (D : va_G) (tc : Nat → ClassId) (A : Nat → Prop) (w : gW) (ca : Nat → Nat) (d : gDt) (tk : Int64) (st : Nat → Int64) (i : Nat) (hC : cW tc w ca d tk st) (hOk : mOk d) (hi : i < nU d) : gM l yX5_playerAt cX5_playerAt 3 (some (.object "GongCycles$Player")) rm_X5_playerAt_ok D tc A [.ref (ca 0), .int (nI i)] w (fun v w' => w' = w ∧ v = some (.ref (ca (40 + i)))) (fun _ => False) := by
  refine gM_of (by decide +kernel) (Nat.le_of_ble_eq_true rfl) ?_
  intro p e s m args below meth c ls Q hQ hE hG hr hnt hnm hl
  have hx := hE.1
  have hb := hE.2.1
  have hl : lv_has ls 3 [(0, .ref (ca 0)), (1, .int (nI i))] := hl
  obtain ⟨⟨z0, z1, z2, z5, z6⟩, ⟨cy, ge, sf, z3, z4, hsf, hce, hcy⟩, zP, zS, zU, zV, zN⟩ := id hC
  refine lv_iload_n hx hb dX5_playerAt_0 rfl (lv_at hl 1 rfl) ?_
  refine lv_if_lt (tgt := 22) hx hb dX5_playerAt_1 (by decide) (fun c9 => absurd c9 (nI_pos (by have := hOk.1.2.2; omega))) (fun c9 => ?_)
  refine lv_iload_n hx hb dX5_playerAt_4 rfl (lv_at hl 1 rfl) ?_
  refine lv_aload_n hx hb dX5_playerAt_5 rfl (lv_at hl 0 rfl) ?_
  refine g_get hE hG z0 rfl inG5 9 (by decide) mw1_110 rfl dX5_playerAt_6 ?_
  refine g_alen (t0 := 5) (v := 8) hE hG z6 rfl rfl dX5_playerAt_9 ?_
  refine lv_icmp_ge (tgt := 22) hx hb dX5_playerAt_10 (by decide) (fun c9 => absurd c9 (nI_ge (b := 8) (by have := hOk.1.2.2; omega) (by have := hOk.1.2.2; omega))) (fun c9 => ?_)
  refine lv_aload_n hx hb dX5_playerAt_13 rfl (lv_at hl 0 rfl) ?_
  refine g_get hE hG z0 rfl inG5 9 (by decide) mw1_110 rfl dX5_playerAt_14 ?_
  refine lv_iload_n hx hb dX5_playerAt_17 rfl (lv_at hl 1 rfl) ?_
  refine g_aald (t0 := 5) hE hG z6 rfl (vp_in_nI (by have := hOk.1.2.2; omega) (by decide)) dX5_playerAt_18 ?_
  rw [uf_s hi hOk.1.2.2]
  show W p l e _ s m args below meth c s.heap [] _ _ _ (F0 m 19 ls [.ref (ca (40 + i))])
  refine lv_goto (tgt := 23) hx hb dX5_playerAt_19 (by decide) ?_
  refine lv_astore_n (lv' := [(2, .ref (ca (40 + i))), (0, .ref (ca 0)), (1, .int (nI i))]) hx hb dX5_playerAt_23 rfl hl (by decide) rfl (fun ls hl => ?_)
  refine lv_aload_n hx hb dX5_playerAt_24 rfl (lv_at hl 0 rfl) ?_
  refine lv_ifnonnull (tgt := 39) hx hb dX5_playerAt_25 (by decide) ?_
  refine lv_aload_n hx hb dX5_playerAt_39 rfl (lv_at hl 0 rfl) ?_
  subst hQ
  exact g_aret hE hG hr (Or.inr ⟨_, rfl⟩) (Nat.le_of_ble_eq_true rfl) (Nat.le_of_ble_eq_true rfl) dX5_playerAt_40 ⟨rfl, rfl⟩
theorem sf_z {ca : Nat → Nat} {x : Int32} (h0 : ¬ x < 0) (h : m_isSet x = 0) : c_sf ca x.toNatClampNeg = none := by
  unfold c_sf
  refine if_neg (fun hc => f_in_z h ⟨Int32.not_lt.mp h0, ?_⟩)
  have e3 : (3 : Int32).toInt = 3 := by decide
  rw [Int32.le_iff_toInt_le, e3]
  have e9 : x.toNatClampNeg = x.toInt.toNat := rfl
  omega
abbrev rm_X5_setAt : Room := { frames := 6, cells := 1, slots := 6, locals := 230 }
theorem nm_X5_setAt : gNm yX5_setAt 1 := ⟨by decide +kernel, by decide +kernel, by decide +kernel⟩
set_option maxHeartbeats 200000 in
set_option maxRecDepth 100000 in
theorem c_X5_setAt (l : Launch) (hfl : l.stackTraces = false) (D : va_G) (tc : Nat → ClassId) (A : Nat → Prop) (w : gW) (ca : Nat → Nat) (d : gDt) (tk : Int64) (st : Nat → Int64) (x : Int32) (hC : cW tc w ca d tk st) (hOk : mOk d) : gM l yX5_setAt cX5_setAt 3 (some (.object "GongCycles$BronzeSet")) rm_X5_setAt D tc A [.ref (ca 0), .int x] w (fun v w' => w' = w ∧ ∃ i, i < 4 ∧ x = nI i ∧ v = some (.ref (ca (60 + i)))) (fun E => m_isSet x = 0 ∧ E = gIO) := by
  refine gM_of (by decide +kernel) (Nat.le_of_ble_eq_true rfl) ?_
  intro p e s m args below meth c ls Q hQ hE hG hr hnt hnm hl
  have hx := hE.1
  have hb := hE.2.1
  have hl : lv_has ls 3 [(0, .ref (ca 0)), (1, .int x)] := hl
  obtain ⟨⟨z0, z1, z2, z5, z6⟩, ⟨cy, ge, sf, z3, z4, hsf, hce, hcy⟩, zP, zS, zU, zV, zN⟩ := id hC
  by_cases hq : m_isSet x = 0
  · skip
    refine lv_iload_n hx hb dX5_setAt_0 rfl (lv_at hl 1 rfl) ?_
    refine lv_if_lt (tgt := 22) hx hb dX5_setAt_1 (by decide) (fun c_1 => ?_) (fun c_1 => ?_)
    · skip
      refine lv_null hx hb dX5_setAt_22 ?_
      refine lv_astore_nN (lv' := [(2, .null), (0, .ref (ca 0)), (1, .int x)]) hx hb dX5_setAt_23 rfl hl (by decide) rfl (fun ls hl => ?_)
      refine lv_aload_nN hx hb dX5_setAt_24 rfl (lv_at hl 0 rfl) ?_
      refine lv_ifnonnullN hx hb dX5_setAt_25 ?_
      subst hQ
      exact g_thrW (E := gIO) hfl hE hG hl.1 hnt gTgIO (List.mem_of_getElem? (i := 23) rfl) dX5_setAt_28 dX5_setAt_31 dX5_setAt_32 dX5_setAt_35 dX5_setAt_38 (by refine ⟨?_, ?_, ?_, ?_, ?_, ?_⟩ <;> exact Nat.le_of_ble_eq_true rfl) rfl ⟨hq, rfl⟩
    · skip
      refine lv_iload_n hx hb dX5_setAt_4 rfl (lv_at hl 1 rfl) ?_
      refine lv_aload_n hx hb dX5_setAt_5 rfl (lv_at hl 0 rfl) ?_
      refine g_get hE hG z0 rfl inG5 7 (by decide) mw1_108 rfl dX5_setAt_6 ?_
      refine g_alen (t0 := 4) (v := 4) hE hG z5 rfl rfl dX5_setAt_9 ?_
      refine lv_icmp_ge (tgt := 22) hx hb dX5_setAt_10 (by decide) (fun c_2 => ?_) (fun c_2 => ?_)
      · skip
        refine lv_null hx hb dX5_setAt_22 ?_
        refine lv_astore_nN (lv' := [(2, .null), (0, .ref (ca 0)), (1, .int x)]) hx hb dX5_setAt_23 rfl hl (by decide) rfl (fun ls hl => ?_)
        refine lv_aload_nN hx hb dX5_setAt_24 rfl (lv_at hl 0 rfl) ?_
        refine lv_ifnonnullN hx hb dX5_setAt_25 ?_
        subst hQ
        exact g_thrW (E := gIO) hfl hE hG hl.1 hnt gTgIO (List.mem_of_getElem? (i := 23) rfl) dX5_setAt_28 dX5_setAt_31 dX5_setAt_32 dX5_setAt_35 dX5_setAt_38 (by refine ⟨?_, ?_, ?_, ?_, ?_, ?_⟩ <;> exact Nat.le_of_ble_eq_true rfl) rfl ⟨hq, rfl⟩
      · skip
        refine lv_aload_n hx hb dX5_setAt_13 rfl (lv_at hl 0 rfl) ?_
        refine g_get hE hG z0 rfl inG5 7 (by decide) mw1_108 rfl dX5_setAt_14 ?_
        refine lv_iload_n hx hb dX5_setAt_17 rfl (lv_at hl 1 rfl) ?_
        refine g_aald (t0 := 4) hE hG z5 rfl (arr_in (n := 4) (by decide) c_1 c_2) dX5_setAt_18 ?_
        rw [sf_z c_1 hq]
        show W p l e _ s m args below meth c s.heap [] _ _ _ (F0 m 19 ls [.null])
        refine lv_goto (tgt := 23) hx hb dX5_setAt_19 (by decide) ?_
        refine lv_astore_nN (lv' := [(2, .null), (0, .ref (ca 0)), (1, .int x)]) hx hb dX5_setAt_23 rfl hl (by decide) rfl (fun ls hl => ?_)
        refine lv_aload_nN hx hb dX5_setAt_24 rfl (lv_at hl 0 rfl) ?_
        refine lv_ifnonnullN hx hb dX5_setAt_25 ?_
        subst hQ
        exact g_thrW (E := gIO) hfl hE hG hl.1 hnt gTgIO (List.mem_of_getElem? (i := 23) rfl) dX5_setAt_28 dX5_setAt_31 dX5_setAt_32 dX5_setAt_35 dX5_setAt_38 (by refine ⟨?_, ?_, ?_, ?_, ?_, ?_⟩ <;> exact Nat.le_of_ble_eq_true rfl) rfl ⟨hq, rfl⟩
  · skip
    obtain ⟨i, hi, hxi⟩ := isSet_ne hq
    subst hxi
    refine lv_iload_n hx hb dX5_setAt_0 rfl (lv_at hl 1 rfl) ?_
    refine lv_if_lt (tgt := 22) hx hb dX5_setAt_1 (by decide) (fun c9 => absurd c9 (nI_pos (by omega))) (fun c9 => ?_)
    refine lv_iload_n hx hb dX5_setAt_4 rfl (lv_at hl 1 rfl) ?_
    refine lv_aload_n hx hb dX5_setAt_5 rfl (lv_at hl 0 rfl) ?_
    refine g_get hE hG z0 rfl inG5 7 (by decide) mw1_108 rfl dX5_setAt_6 ?_
    refine g_alen (t0 := 4) (v := 4) hE hG z5 rfl rfl dX5_setAt_9 ?_
    refine lv_icmp_ge (tgt := 22) hx hb dX5_setAt_10 (by decide) (fun c9 => absurd c9 (nI_ge (b := 4) (by omega) (by omega))) (fun c9 => ?_)
    refine lv_aload_n hx hb dX5_setAt_13 rfl (lv_at hl 0 rfl) ?_
    refine g_get hE hG z0 rfl inG5 7 (by decide) mw1_108 rfl dX5_setAt_14 ?_
    refine lv_iload_n hx hb dX5_setAt_17 rfl (lv_at hl 1 rfl) ?_
    refine g_aald (t0 := 4) hE hG z5 rfl (vp_in_nI (by omega) (by decide)) dX5_setAt_18 ?_
    rw [sf_s hi]
    show W p l e _ s m args below meth c s.heap [] _ _ _ (F0 m 19 ls [.ref (ca (60 + i))])
    refine lv_goto (tgt := 23) hx hb dX5_setAt_19 (by decide) ?_
    refine lv_astore_n (lv' := [(2, .ref (ca (60 + i))), (0, .ref (ca 0)), (1, .int (nI i))]) hx hb dX5_setAt_23 rfl hl (by decide) rfl (fun ls hl => ?_)
    refine lv_aload_n hx hb dX5_setAt_24 rfl (lv_at hl 0 rfl) ?_
    refine lv_ifnonnull (tgt := 39) hx hb dX5_setAt_25 (by decide) ?_
    refine lv_aload_n hx hb dX5_setAt_39 rfl (lv_at hl 0 rfl) ?_
    subst hQ
    exact g_aret hE hG hr (Or.inr ⟨_, rfl⟩) (Nat.le_of_ble_eq_true rfl) (Nat.le_of_ble_eq_true rfl) dX5_setAt_40 ⟨rfl, i, hi, rfl, rfl⟩
abbrev rm_X5_setAt_ok : Room := { frames := 1, cells := 0, slots := 0, locals := 50 }
set_option maxHeartbeats 200000 in
set_option maxRecDepth 100000 in
theorem c_X5_setAt_ok (l : Launch) (hfl : l.stackTraces = false) (D : va_G) (tc : Nat → ClassId) (A : Nat → Prop) (w : gW) (ca : Nat → Nat) (d : gDt) (tk : Int64) (st : Nat → Int64) (i : Nat) (hC : cW tc w ca d tk st) (hOk : mOk d) (hi : i < 4) : gM l yX5_setAt cX5_setAt 3 (some (.object "GongCycles$BronzeSet")) rm_X5_setAt_ok D tc A [.ref (ca 0), .int (nI i)] w (fun v w' => w' = w ∧ v = some (.ref (ca (60 + i)))) (fun _ => False) := by
  refine gM_of (by decide +kernel) (Nat.le_of_ble_eq_true rfl) ?_
  intro p e s m args below meth c ls Q hQ hE hG hr hnt hnm hl
  have hx := hE.1
  have hb := hE.2.1
  have hl : lv_has ls 3 [(0, .ref (ca 0)), (1, .int (nI i))] := hl
  obtain ⟨⟨z0, z1, z2, z5, z6⟩, ⟨cy, ge, sf, z3, z4, hsf, hce, hcy⟩, zP, zS, zU, zV, zN⟩ := id hC
  refine lv_iload_n hx hb dX5_setAt_0 rfl (lv_at hl 1 rfl) ?_
  refine lv_if_lt (tgt := 22) hx hb dX5_setAt_1 (by decide) (fun c9 => absurd c9 (nI_pos (by omega))) (fun c9 => ?_)
  refine lv_iload_n hx hb dX5_setAt_4 rfl (lv_at hl 1 rfl) ?_
  refine lv_aload_n hx hb dX5_setAt_5 rfl (lv_at hl 0 rfl) ?_
  refine g_get hE hG z0 rfl inG5 7 (by decide) mw1_108 rfl dX5_setAt_6 ?_
  refine g_alen (t0 := 4) (v := 4) hE hG z5 rfl rfl dX5_setAt_9 ?_
  refine lv_icmp_ge (tgt := 22) hx hb dX5_setAt_10 (by decide) (fun c9 => absurd c9 (nI_ge (b := 4) (by omega) (by omega))) (fun c9 => ?_)
  refine lv_aload_n hx hb dX5_setAt_13 rfl (lv_at hl 0 rfl) ?_
  refine g_get hE hG z0 rfl inG5 7 (by decide) mw1_108 rfl dX5_setAt_14 ?_
  refine lv_iload_n hx hb dX5_setAt_17 rfl (lv_at hl 1 rfl) ?_
  refine g_aald (t0 := 4) hE hG z5 rfl (vp_in_nI (by omega) (by decide)) dX5_setAt_18 ?_
  rw [sf_s hi]
  show W p l e _ s m args below meth c s.heap [] _ _ _ (F0 m 19 ls [.ref (ca (60 + i))])
  refine lv_goto (tgt := 23) hx hb dX5_setAt_19 (by decide) ?_
  refine lv_astore_n (lv' := [(2, .ref (ca (60 + i))), (0, .ref (ca 0)), (1, .int (nI i))]) hx hb dX5_setAt_23 rfl hl (by decide) rfl (fun ls hl => ?_)
  refine lv_aload_n hx hb dX5_setAt_24 rfl (lv_at hl 0 rfl) ?_
  refine lv_ifnonnull (tgt := 39) hx hb dX5_setAt_25 (by decide) ?_
  refine lv_aload_n hx hb dX5_setAt_39 rfl (lv_at hl 0 rfl) ?_
  subst hQ
  exact g_aret hE hG hr (Or.inr ⟨_, rfl⟩) (Nat.le_of_ble_eq_true rfl) (Nat.le_of_ble_eq_true rfl) dX5_setAt_40 ⟨rfl, rfl⟩
