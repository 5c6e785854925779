/-! the law: its wrappers of the calls -/
abbrev rm_L_form : Room := { frames := 12, cells := 40, slots := 400, locals := 446 }
theorem nm_L_form : gNm yL_form 3 := ⟨by decide +kernel, by decide +kernel, by decide +kernel⟩
set_option maxHeartbeats 4000000 in
set_option maxRecDepth 100000 in
theorem c_L_form (l : Launch) (hfl : l.stackTraces = false) (D : va_G) (tc : Nat → ClassId) (A : Nat → Prop) (w : gW) (ca : Nat → Nat) (d : gDt) (tk : Int64) (st : Nat → Int64) (x : Int32) (oa : Nat) (of : Nat → Int64) (B : Nat) (hC : cW tc w ca d tk st) (hI : iOk d B) (hB : B ≤ 60000) (h7 : w 7 = some (oa, .inl (tc 1, 1, .inr (.inl of)))) : gMH l yL_form cL_form 4 (some .int) [(0, 9, 12, 13), (0, 9, 15, 15)] rm_L_form D tc A [.ref (ca 0), .int x, .ref oa] w (fun v w' => gL w w' ∧ ∃ of' : Nat → Int64, w' 7 = some (oa, .inl (tc 1, 1, .inr (.inl of'))) ∧ ((m_go (ga_form d x) (gb_form d x) (gc_form d x) = 0 ∧ v = some (.int (m_la (ga_form d x) (gb_form d x) (gc_form d x))) ∧ cW tc w' ca d tk st) ∨ (¬ m_go (ga_form d x) (gb_form d x) (gc_form d x) = 0 ∧ v = some (.int 0) ∧ of' 0 = (d 9 0 + 1 - 1).toInt64 ∧ ∃ ca' : Nat → Nat, ca' 0 = ca 0 ∧ cW tc w' ca' (sL (gD (gD d 0 (upd (d 0) (d 9 0).toNatClampNeg x)) 9 (upd (d 9) 0 (d 9 0 + 1))) 0) tk st))) (fun _ => False) := by
  refine gMH_of (by decide +kernel) (Nat.le_of_ble_eq_true rfl) ?_
  intro p e s m args below meth c ls Q hQ hE hG hr htab hl
  have hx := hE.1
  have hb := hE.2.1
  have hl : lv_has ls 4 [(0, .ref (ca 0)), (1, .int x), (2, .ref oa)] := hl
  have hG := hG.sw
  obtain ⟨hOk, hF, hT, hpO, hrO, hj⟩ := id hI
  have hC0 : cW tc (gSw w) ca d tk st := cW_cg hC hOk (fun k h1 h2 => gSw_o w h2 (by omega))
  have z0 := hC0.1.1
  have z8 : gSw w 2000 = some (oa, .inl (tc 1, 1, .inr (.inl of))) := h7
  refine lv_aload_n hx hb dL_form_0 rfl (lv_at hl 2 rfl) ?_
  refine lv_iconst (v := 0) hx hb dL_form_1 (by decide) ?_
  refine lv_aload_n hx hb dL_form_2 rfl (lv_at hl 0 rfl) ?_
  refine lv_iload_n hx hb dL_form_3 rfl (lv_at hl 1 rfl) ?_
  refine g_callV (rest := [.int 0, .ref oa]) (As := [.int x]) hE hG hl.1 (c_X5_form l hfl D tc A (gSw w) ca d tk st x hC0 hOk) z0 rfl mw1_136 mw1_137 mw1_138 mw1_1 mw1_139 rfl nm_X5_form ⟨⟨Nat.le_of_ble_eq_true rfl, Nat.le_of_ble_eq_true rfl⟩, Nat.le_of_ble_eq_true rfl, Nat.le_of_ble_eq_true rfl⟩ rfl rfl (Nat.le_of_ble_eq_true rfl) dL_form_4 (fun E ce q9 H1 locs1 hthr hG1 hcell hvm hcl => ?_) ?_
  · skip
    rcases hthr with ⟨ha, hE9⟩ | ⟨ha, hb9, hE9⟩ | ⟨ha, hb9, hc9, hE9⟩
    · skip
      refine g_catch1 hE htab rfl (by decide) mw1_134 (List.mem_of_getElem? (i := 0) rfl) hE9 hcell hvm hcl ?_
      have hG := hG1.sw
      rw [gSw_sw] at hG
      refine lv_astore_n (lv' := [(3, .ref q9), (0, .ref (ca 0)), (1, .int x), (2, .ref oa)]) hx hb dL_form_12 rfl hl (by decide) rfl (fun ls hl => ?_)
      refine lv_iconst (v := 1) hx hb dL_form_13 (by decide) ?_
      subst hQ
      exact g_iret hE hG hr (Nat.le_of_ble_eq_true rfl) (Nat.le_of_ble_eq_true rfl) dL_form_14 ⟨fun _ _ _ => rfl, of, h7, Or.inl ⟨by unfold m_go; rw [if_pos ha], by unfold m_la; rw [if_pos ha], hC⟩⟩
    · skip
      refine g_catch2 hE htab (by decide) mw1_134 (List.mem_of_getElem? (i := 2) rfl) rfl (by decide) mw1_135 (List.mem_of_getElem? (i := 1) rfl) hE9 hcell hvm hcl ?_
      have hG := hG1.sw
      rw [gSw_sw] at hG
      refine lv_astore_n (lv' := [(3, .ref q9), (0, .ref (ca 0)), (1, .int x), (2, .ref oa)]) hx hb dL_form_15 rfl hl (by decide) rfl (fun ls hl => ?_)
      refine lv_iconst (v := 2) hx hb dL_form_16 (by decide) ?_
      subst hQ
      exact g_iret hE hG hr (Nat.le_of_ble_eq_true rfl) (Nat.le_of_ble_eq_true rfl) dL_form_17 ⟨fun _ _ _ => rfl, of, h7, Or.inl ⟨by unfold m_go; rw [if_neg ha, if_pos hb9], by unfold m_la; rw [if_neg ha, if_pos hb9], hC⟩⟩
    · skip
      exact absurd hc9 one_nz
  intro v9 w9 H locs h9 hG
  obtain ⟨hgo, e9, ⟨ca2, hca0, hC2⟩, hK9⟩ := h9
  rw [e9]; clear e9
  have z9 : w9 2000 = some (oa, .inl (tc 1, 1, .inr (.inl of))) := (hK9 2000 (by omega)).trans z8
  show W p l e _ s m args below meth c H locs _ _ _ (F0 m 7 ls [.int (d 9 0 + 1 - 1), .int 0, .ref oa])
  refine lv_i2l (v := (d 9 0 + 1 - 1).toInt64) hx hb dL_form_7 rfl ?_
  refine g_last hE hG z9 (vp_in_nI (n := 0) (N := 1) (by decide) (by decide)) dL_form_8 (fun H locs w_1 ew_1 hG => ?_)
  have h_2 : w_1 2000 = some (oa, .inl (tc 1, 1, .inr (.inl (vp_updL of (0 : Int32).toNatClampNeg ((d 9 0 + 1 - 1).toInt64))))) := gU_s ew_1
  refine lv_goto (tgt := 18) hx hb dL_form_9 (by decide) ?_
  refine lv_iconst (v := 0) hx hb dL_form_18 (by decide) ?_
  subst hQ
  have hID : iOk (sL (gD (gD d 0 (upd (d 0) (d 9 0).toNatClampNeg x)) 9 (upd (d 9) 0 (d 9 0 + 1))) 0) (B + 100) := I_form hI hgo
  have hOkD := hID.1
  exact g_iret hE hG.sw hr (Nat.le_of_ble_eq_true rfl) (Nat.le_of_ble_eq_true rfl) dL_form_19 ⟨fun k k1 k2 => by rw [gSw_o _ (by omega) (by omega), ew_1, gU_ne _ _ (by omega), hK9 k (by omega), gSw_o _ (by omega) (by omega)], _, h_2, Or.inr ⟨hgo, rfl, pk_uLs (k := 0), ca2, hca0, cW_cg hC2 hOkD (fun k h1 h2 => (gSw_o _ h2 (by omega)).trans (gU_at ew_1 (by omega)))⟩⟩
abbrev rm_L_depth : Room := { frames := 12, cells := 40, slots := 400, locals := 446 }
theorem nm_L_depth : gNm yL_depth 4 := ⟨by decide +kernel, by decide +kernel, by decide +kernel⟩
set_option maxHeartbeats 4000000 in
set_option maxRecDepth 100000 in
theorem c_L_depth (l : Launch) (hfl : l.stackTraces = false) (D : va_G) (tc : Nat → ClassId) (A : Nat → Prop) (w : gW) (ca : Nat → Nat) (d : gDt) (tk : Int64) (st : Nat → Int64) (x : Int32) (y : Int32) (oa : Nat) (of : Nat → Int64) (B : Nat) (hC : cW tc w ca d tk st) (hI : iOk d B) (hB : B ≤ 60000) (h7 : w 7 = some (oa, .inl (tc 1, 1, .inr (.inl of)))) : gMH l yL_depth cL_depth 5 (some .int) [(0, 10, 13, 21)] rm_L_depth D tc A [.ref (ca 0), .int x, .int y, .ref oa] w (fun v w' => gL w w' ∧ ∃ of' : Nat → Int64, w' 7 = some (oa, .inl (tc 1, 1, .inr (.inl of'))) ∧ ((m_go (ga_depth d x y) (gb_depth d x y) (gc_depth d x y) = 0 ∧ v = some (.int (m_la (ga_depth d x y) (gb_depth d x y) (gc_depth d x y))) ∧ cW tc w' ca d tk st) ∨ (¬ m_go (ga_depth d x y) (gb_depth d x y) (gc_depth d x y) = 0 ∧ v = some (.int 0) ∧ of' 0 = (m_depth d x y).toInt64 ∧ ∃ ca' : Nat → Nat, ca' 0 = ca 0 ∧ cW tc w' ca' (sL d 0) tk st))) (fun _ => False) := by
  refine gMH_of (by decide +kernel) (Nat.le_of_ble_eq_true rfl) ?_
  intro p e s m args below meth c ls Q hQ hE hG hr htab hl
  have hx := hE.1
  have hb := hE.2.1
  have hl : lv_has ls 5 [(0, .ref (ca 0)), (1, .int x), (2, .int y), (3, .ref oa)] := hl
  have hG := hG.sw
  obtain ⟨hOk, hF, hT, hpO, hrO, hj⟩ := id hI
  have hC0 : cW tc (gSw w) ca d tk st := cW_cg hC hOk (fun k h1 h2 => gSw_o w h2 (by omega))
  have z0 := hC0.1.1
  have z8 : gSw w 2000 = some (oa, .inl (tc 1, 1, .inr (.inl of))) := h7
  refine lv_aload_n hx hb dL_depth_0 rfl (lv_at hl 3 rfl) ?_
  refine lv_iconst (v := 0) hx hb dL_depth_1 (by decide) ?_
  refine lv_aload_n hx hb dL_depth_2 rfl (lv_at hl 0 rfl) ?_
  refine lv_iload_n hx hb dL_depth_3 rfl (lv_at hl 1 rfl) ?_
  refine lv_iload_n hx hb dL_depth_4 rfl (lv_at hl 2 rfl) ?_
  refine g_callV (rest := [.int 0, .ref oa]) (As := [.int x, .int y]) hE hG hl.1 (c_X5_depth l hfl D tc A (gSw w) ca d tk st x y hC0 hOk) z0 rfl mw1_228 mw1_229 mw1_230 mw1_1 mw1_231 rfl nm_X5_depth ⟨⟨Nat.le_of_ble_eq_true rfl, Nat.le_of_ble_eq_true rfl⟩, Nat.le_of_ble_eq_true rfl, Nat.le_of_ble_eq_true rfl⟩ rfl rfl (Nat.le_of_ble_eq_true rfl) dL_depth_5 (fun E ce q9 H1 locs1 hthr hG1 hcell hvm hcl => ?_) ?_
  · skip
    rcases hthr with ⟨ha, hE9⟩ | ⟨ha, hb9, hE9⟩ | ⟨ha, hb9, hc9, hE9⟩
    · skip
      refine g_catch1 hE htab rfl (by decide) mw1_227 (List.mem_of_getElem? (i := 2) rfl) hE9 hcell hvm hcl ?_
      have hG := hG1.sw
      rw [gSw_sw] at hG
      refine lv_astore (lv' := [(4, .ref q9), (0, .ref (ca 0)), (1, .int x), (2, .int y), (3, .ref oa)]) hx hb dL_depth_13 hl (by decide) rfl (fun ls hl => ?_)
      refine lv_iconst (v := 1) hx hb dL_depth_15 (by decide) ?_
      subst hQ
      exact g_iret hE hG hr (Nat.le_of_ble_eq_true rfl) (Nat.le_of_ble_eq_true rfl) dL_depth_16 ⟨fun _ _ _ => rfl, of, h7, Or.inl ⟨by unfold m_go; rw [if_pos ha], by unfold m_la; rw [if_pos ha], hC⟩⟩
    · skip
      exact absurd hb9 one_nz
    · skip
      exact absurd hc9 one_nz
  intro v9 w9 H locs h9 hG
  obtain ⟨hgo, e9, ⟨ca2, hca0, hC2⟩, hK9⟩ := h9
  rw [e9]; clear e9
  have z9 : w9 2000 = some (oa, .inl (tc 1, 1, .inr (.inl of))) := (hK9 2000 (by omega)).trans z8
  show W p l e _ s m args below meth c H locs _ _ _ (F0 m 8 ls [.int (m_depth d x y), .int 0, .ref oa])
  refine lv_i2l (v := (m_depth d x y).toInt64) hx hb dL_depth_8 rfl ?_
  refine g_last hE hG z9 (vp_in_nI (n := 0) (N := 1) (by decide) (by decide)) dL_depth_9 (fun H locs w_1 ew_1 hG => ?_)
  have h_2 : w_1 2000 = some (oa, .inl (tc 1, 1, .inr (.inl (vp_updL of (0 : Int32).toNatClampNeg ((m_depth d x y).toInt64))))) := gU_s ew_1
  refine lv_goto (tgt := 17) hx hb dL_depth_10 (by decide) ?_
  refine lv_iconst (v := 0) hx hb dL_depth_17 (by decide) ?_
  subst hQ
  have hID : iOk (sL d 0) (B + 100) := iOk_l hI 0
  have hOkD := hID.1
  exact g_iret hE hG.sw hr (Nat.le_of_ble_eq_true rfl) (Nat.le_of_ble_eq_true rfl) dL_depth_18 ⟨fun k k1 k2 => by rw [gSw_o _ (by omega) (by omega), ew_1, gU_ne _ _ (by omega), hK9 k (by omega), gSw_o _ (by omega) (by omega)], _, h_2, Or.inr ⟨hgo, rfl, pk_uLs (k := 0), ca2, hca0, cW_cg hC2 hOkD (fun k h1 h2 => (gSw_o _ h2 (by omega)).trans (gU_at ew_1 (by omega)))⟩⟩
abbrev rm_L_piece : Room := { frames := 12, cells := 40, slots := 400, locals := 446 }
theorem nm_L_piece : gNm yL_piece 3 := ⟨by decide +kernel, by decide +kernel, by decide +kernel⟩
set_option maxHeartbeats 4000000 in
set_option maxRecDepth 100000 in
theorem c_L_piece (l : Launch) (hfl : l.stackTraces = false) (D : va_G) (tc : Nat → ClassId) (A : Nat → Prop) (w : gW) (ca : Nat → Nat) (d : gDt) (tk : Int64) (st : Nat → Int64) (x : Int32) (oa : Nat) (of : Nat → Int64) (B : Nat) (hC : cW tc w ca d tk st) (hI : iOk d B) (hB : B ≤ 60000) (h7 : w 7 = some (oa, .inl (tc 1, 1, .inr (.inl of)))) : gMH l yL_piece cL_piece 4 (some .int) [(0, 9, 12, 21), (0, 9, 15, 15)] rm_L_piece D tc A [.ref (ca 0), .int x, .ref oa] w (fun v w' => gL w w' ∧ ∃ of' : Nat → Int64, w' 7 = some (oa, .inl (tc 1, 1, .inr (.inl of'))) ∧ ((m_go (ga_piece d x) (gb_piece d x) (gc_piece d x) = 0 ∧ v = some (.int (m_la (ga_piece d x) (gb_piece d x) (gc_piece d x))) ∧ cW tc w' ca d tk st) ∨ (¬ m_go (ga_piece d x) (gb_piece d x) (gc_piece d x) = 0 ∧ v = some (.int 0) ∧ of' 0 = (d 9 1 + 1 - 1).toInt64 ∧ ∃ ca' : Nat → Nat, ca' 0 = ca 0 ∧ cW tc w' ca' (sL (gD (gD d 1 (upd (d 1) (d 9 1).toNatClampNeg x)) 9 (upd (d 9) 1 (d 9 1 + 1))) 0) tk st))) (fun _ => False) := by
  refine gMH_of (by decide +kernel) (Nat.le_of_ble_eq_true rfl) ?_
  intro p e s m args below meth c ls Q hQ hE hG hr htab hl
  have hx := hE.1
  have hb := hE.2.1
  have hl : lv_has ls 4 [(0, .ref (ca 0)), (1, .int x), (2, .ref oa)] := hl
  have hG := hG.sw
  obtain ⟨hOk, hF, hT, hpO, hrO, hj⟩ := id hI
  have hC0 : cW tc (gSw w) ca d tk st := cW_cg hC hOk (fun k h1 h2 => gSw_o w h2 (by omega))
  have z0 := hC0.1.1
  have z8 : gSw w 2000 = some (oa, .inl (tc 1, 1, .inr (.inl of))) := h7
  refine lv_aload_n hx hb dL_piece_0 rfl (lv_at hl 2 rfl) ?_
  refine lv_iconst (v := 0) hx hb dL_piece_1 (by decide) ?_
  refine lv_aload_n hx hb dL_piece_2 rfl (lv_at hl 0 rfl) ?_
  refine lv_iload_n hx hb dL_piece_3 rfl (lv_at hl 1 rfl) ?_
  refine g_callV (rest := [.int 0, .ref oa]) (As := [.int x]) hE hG hl.1 (c_X5_piece l hfl D tc A (gSw w) ca d tk st x hC0 hOk hF) z0 rfl mw2_16 mw2_17 mw2_18 mw1_1 mw2_19 rfl nm_X5_piece ⟨⟨Nat.le_of_ble_eq_true rfl, Nat.le_of_ble_eq_true rfl⟩, Nat.le_of_ble_eq_true rfl, Nat.le_of_ble_eq_true rfl⟩ rfl rfl (Nat.le_of_ble_eq_true rfl) dL_piece_4 (fun E ce q9 H1 locs1 hthr hG1 hcell hvm hcl => ?_) ?_
  · skip
    rcases hthr with ⟨ha, hE9⟩ | ⟨ha, hb9, hE9⟩ | ⟨ha, hb9, hc9, hE9⟩
    · skip
      refine g_catch1 hE htab rfl (by decide) mw1_227 (List.mem_of_getElem? (i := 2) rfl) hE9 hcell hvm hcl ?_
      have hG := hG1.sw
      rw [gSw_sw] at hG
      refine lv_astore_n (lv' := [(3, .ref q9), (0, .ref (ca 0)), (1, .int x), (2, .ref oa)]) hx hb dL_piece_12 rfl hl (by decide) rfl (fun ls hl => ?_)
      refine lv_iconst (v := 1) hx hb dL_piece_13 (by decide) ?_
      subst hQ
      exact g_iret hE hG hr (Nat.le_of_ble_eq_true rfl) (Nat.le_of_ble_eq_true rfl) dL_piece_14 ⟨fun _ _ _ => rfl, of, h7, Or.inl ⟨by unfold m_go; rw [if_pos ha], by unfold m_la; rw [if_pos ha], hC⟩⟩
    · skip
      refine g_catch2 hE htab (by decide) mw1_227 (List.mem_of_getElem? (i := 3) rfl) rfl (by decide) mw1_135 (List.mem_of_getElem? (i := 1) rfl) hE9 hcell hvm hcl ?_
      have hG := hG1.sw
      rw [gSw_sw] at hG
      refine lv_astore_n (lv' := [(3, .ref q9), (0, .ref (ca 0)), (1, .int x), (2, .ref oa)]) hx hb dL_piece_15 rfl hl (by decide) rfl (fun ls hl => ?_)
      refine lv_iconst (v := 2) hx hb dL_piece_16 (by decide) ?_
      subst hQ
      exact g_iret hE hG hr (Nat.le_of_ble_eq_true rfl) (Nat.le_of_ble_eq_true rfl) dL_piece_17 ⟨fun _ _ _ => rfl, of, h7, Or.inl ⟨by unfold m_go; rw [if_neg ha, if_pos hb9], by unfold m_la; rw [if_neg ha, if_pos hb9], hC⟩⟩
    · skip
      exact absurd hc9 one_nz
  intro v9 w9 H locs h9 hG
  obtain ⟨hgo, e9, ⟨ca2, hca0, hC2⟩, hK9⟩ := h9
  rw [e9]; clear e9
  have z9 : w9 2000 = some (oa, .inl (tc 1, 1, .inr (.inl of))) := (hK9 2000 (by omega)).trans z8
  show W p l e _ s m args below meth c H locs _ _ _ (F0 m 7 ls [.int (d 9 1 + 1 - 1), .int 0, .ref oa])
  refine lv_i2l (v := (d 9 1 + 1 - 1).toInt64) hx hb dL_piece_7 rfl ?_
  refine g_last hE hG z9 (vp_in_nI (n := 0) (N := 1) (by decide) (by decide)) dL_piece_8 (fun H locs w_1 ew_1 hG => ?_)
  have h_2 : w_1 2000 = some (oa, .inl (tc 1, 1, .inr (.inl (vp_updL of (0 : Int32).toNatClampNeg ((d 9 1 + 1 - 1).toInt64))))) := gU_s ew_1
  refine lv_goto (tgt := 18) hx hb dL_piece_9 (by decide) ?_
  refine lv_iconst (v := 0) hx hb dL_piece_18 (by decide) ?_
  subst hQ
  have hID : iOk (sL (gD (gD d 1 (upd (d 1) (d 9 1).toNatClampNeg x)) 9 (upd (d 9) 1 (d 9 1 + 1))) 0) (B + 100) := I_piece hI hgo
  have hOkD := hID.1
  exact g_iret hE hG.sw hr (Nat.le_of_ble_eq_true rfl) (Nat.le_of_ble_eq_true rfl) dL_piece_19 ⟨fun k k1 k2 => by rw [gSw_o _ (by omega) (by omega), ew_1, gU_ne _ _ (by omega), hK9 k (by omega), gSw_o _ (by omega) (by omega)], _, h_2, Or.inr ⟨hgo, rfl, pk_uLs (k := 0), ca2, hca0, cW_cg hC2 hOkD (fun k h1 h2 => (gSw_o _ h2 (by omega)).trans (gU_at ew_1 (by omega)))⟩⟩
abbrev rm_L_tone : Room := { frames := 12, cells := 40, slots := 400, locals := 446 }
theorem nm_L_tone : gNm yL_tone 5 := ⟨by decide +kernel, by decide +kernel, by decide +kernel⟩
set_option maxHeartbeats 4000000 in
set_option maxRecDepth 100000 in
theorem c_L_tone (l : Launch) (hfl : l.stackTraces = false) (D : va_G) (tc : Nat → ClassId) (A : Nat → Prop) (w : gW) (ca : Nat → Nat) (d : gDt) (tk : Int64) (st : Nat → Int64) (x : Int32) (y : Int32) (z : Int32) (oa : Nat) (of : Nat → Int64) (B : Nat) (hC : cW tc w ca d tk st) (hI : iOk d B) (hB : B ≤ 60000) (h7 : w 7 = some (oa, .inl (tc 1, 1, .inr (.inl of)))) : gMH l yL_tone cL_tone 6 (some .int) [(0, 12, 15, 21), (0, 12, 19, 13)] rm_L_tone D tc A [.ref (ca 0), .int x, .int y, .int z, .ref oa] w (fun v w' => gL w w' ∧ ∃ of' : Nat → Int64, w' 7 = some (oa, .inl (tc 1, 1, .inr (.inl of'))) ∧ ((m_go (ga_tone d x y z) (gb_tone d x y z) (gc_tone d x y z) = 0 ∧ v = some (.int (m_la (ga_tone d x y z) (gb_tone d x y z) (gc_tone d x y z))) ∧ cW tc w' ca d tk st) ∨ (¬ m_go (ga_tone d x y z) (gb_tone d x y z) (gc_tone d x y z) = 0 ∧ v = some (.int 0) ∧ of' 0 = (d 3 (65 * x + y).toNatClampNeg).toInt64 ∧ ∃ ca' : Nat → Nat, ca' 0 = ca 0 ∧ cW tc w' ca' (sL (gD d 3 (upd (d 3) (65 * x + y).toNatClampNeg z)) 0) tk st))) (fun _ => False) := by
  refine gMH_of (by decide +kernel) (Nat.le_of_ble_eq_true rfl) ?_
  intro p e s m args below meth c ls Q hQ hE hG hr htab hl
  have hx := hE.1
  have hb := hE.2.1
  have hl : lv_has ls 6 [(0, .ref (ca 0)), (1, .int x), (2, .int y), (3, .int z), (4, .ref oa)] := hl
  have hG := hG.sw
  obtain ⟨hOk, hF, hT, hpO, hrO, hj⟩ := id hI
  have hC0 : cW tc (gSw w) ca d tk st := cW_cg hC hOk (fun k h1 h2 => gSw_o w h2 (by omega))
  have z0 := hC0.1.1
  have z8 : gSw w 2000 = some (oa, .inl (tc 1, 1, .inr (.inl of))) := h7
  refine lv_aload hx hb dL_tone_0 (lv_at hl 4 rfl) ?_
  refine lv_iconst (v := 0) hx hb dL_tone_2 (by decide) ?_
  refine lv_aload_n hx hb dL_tone_3 rfl (lv_at hl 0 rfl) ?_
  refine lv_iload_n hx hb dL_tone_4 rfl (lv_at hl 1 rfl) ?_
  refine lv_iload_n hx hb dL_tone_5 rfl (lv_at hl 2 rfl) ?_
  refine lv_iload_n hx hb dL_tone_6 rfl (lv_at hl 3 rfl) ?_
  refine g_callV (rest := [.int 0, .ref oa]) (As := [.int x, .int y, .int z]) hE hG hl.1 (c_X5_tone l hfl D tc A (gSw w) ca d tk st x y z hC0 hOk) z0 rfl mw2_51 mw2_52 mw2_53 mw1_1 mw2_54 rfl nm_X5_tone ⟨⟨Nat.le_of_ble_eq_true rfl, Nat.le_of_ble_eq_true rfl⟩, Nat.le_of_ble_eq_true rfl, Nat.le_of_ble_eq_true rfl⟩ rfl rfl (Nat.le_of_ble_eq_true rfl) dL_tone_7 (fun E ce q9 H1 locs1 hthr hG1 hcell hvm hcl => ?_) ?_
  · skip
    rcases hthr with ⟨ha, hE9⟩ | ⟨ha, hb9, hE9⟩ | ⟨ha, hb9, hc9, hE9⟩
    · skip
      refine g_catch1 hE htab rfl (by decide) mw1_227 (List.mem_of_getElem? (i := 2) rfl) hE9 hcell hvm hcl ?_
      have hG := hG1.sw
      rw [gSw_sw] at hG
      refine lv_astore (lv' := [(5, .ref q9), (0, .ref (ca 0)), (1, .int x), (2, .int y), (3, .int z), (4, .ref oa)]) hx hb dL_tone_15 hl (by decide) rfl (fun ls hl => ?_)
      refine lv_iconst (v := 1) hx hb dL_tone_17 (by decide) ?_
      subst hQ
      exact g_iret hE hG hr (Nat.le_of_ble_eq_true rfl) (Nat.le_of_ble_eq_true rfl) dL_tone_18 ⟨fun _ _ _ => rfl, of, h7, Or.inl ⟨by unfold m_go; rw [if_pos ha], by unfold m_la; rw [if_pos ha], hC⟩⟩
    · skip
      refine g_catch2 hE htab (by decide) mw1_227 (List.mem_of_getElem? (i := 1) rfl) rfl (by decide) mw1_134 (List.mem_of_getElem? (i := 0) rfl) hE9 hcell hvm hcl ?_
      have hG := hG1.sw
      rw [gSw_sw] at hG
      refine lv_astore (lv' := [(5, .ref q9), (0, .ref (ca 0)), (1, .int x), (2, .int y), (3, .int z), (4, .ref oa)]) hx hb dL_tone_19 hl (by decide) rfl (fun ls hl => ?_)
      refine lv_iconst (v := 2) hx hb dL_tone_21 (by decide) ?_
      subst hQ
      exact g_iret hE hG hr (Nat.le_of_ble_eq_true rfl) (Nat.le_of_ble_eq_true rfl) dL_tone_22 ⟨fun _ _ _ => rfl, of, h7, Or.inl ⟨by unfold m_go; rw [if_neg ha, if_pos hb9], by unfold m_la; rw [if_neg ha, if_pos hb9], hC⟩⟩
    · skip
      exact absurd hc9 one_nz
  intro v9 w9 H locs h9 hG
  obtain ⟨hgo, e9, ⟨ca2, hca0, hC2⟩, hK9⟩ := h9
  rw [e9]; clear e9
  have z9 : w9 2000 = some (oa, .inl (tc 1, 1, .inr (.inl of))) := (hK9 2000 (by omega)).trans z8
  show W p l e _ s m args below meth c H locs _ _ _ (F0 m 10 ls [.int (d 3 (65 * x + y).toNatClampNeg), .int 0, .ref oa])
  refine lv_i2l (v := (d 3 (65 * x + y).toNatClampNeg).toInt64) hx hb dL_tone_10 rfl ?_
  refine g_last hE hG z9 (vp_in_nI (n := 0) (N := 1) (by decide) (by decide)) dL_tone_11 (fun H locs w_1 ew_1 hG => ?_)
  have h_2 : w_1 2000 = some (oa, .inl (tc 1, 1, .inr (.inl (vp_updL of (0 : Int32).toNatClampNeg ((d 3 (65 * x + y).toNatClampNeg).toInt64))))) := gU_s ew_1
  refine lv_goto (tgt := 23) hx hb dL_tone_12 (by decide) ?_
  refine lv_iconst (v := 0) hx hb dL_tone_23 (by decide) ?_
  subst hQ
  have hID : iOk (sL (gD d 3 (upd (d 3) (65 * x + y).toNatClampNeg z)) 0) (B + 100) := I_tone hI hgo
  have hOkD := hID.1
  exact g_iret hE hG.sw hr (Nat.le_of_ble_eq_true rfl) (Nat.le_of_ble_eq_true rfl) dL_tone_24 ⟨fun k k1 k2 => by rw [gSw_o _ (by omega) (by omega), ew_1, gU_ne _ _ (by omega), hK9 k (by omega), gSw_o _ (by omega) (by omega)], _, h_2, Or.inr ⟨hgo, rfl, pk_uLs (k := 0), ca2, hca0, cW_cg hC2 hOkD (fun k h1 h2 => (gSw_o _ h2 (by omega)).trans (gU_at ew_1 (by omega)))⟩⟩
abbrev rm_L_forbid : Room := { frames := 12, cells := 40, slots := 400, locals := 446 }
theorem nm_L_forbid : gNm yL_forbid 4 := ⟨by decide +kernel, by decide +kernel, by decide +kernel⟩
set_option maxHeartbeats 4000000 in
set_option maxRecDepth 100000 in
theorem c_L_forbid (l : Launch) (hfl : l.stackTraces = false) (D : va_G) (tc : Nat → ClassId) (A : Nat → Prop) (w : gW) (ca : Nat → Nat) (d : gDt) (tk : Int64) (st : Nat → Int64) (x : Int32) (y : Int32) (oa : Nat) (of : Nat → Int64) (B : Nat) (hC : cW tc w ca d tk st) (hI : iOk d B) (hB : B ≤ 60000) (h7 : w 7 = some (oa, .inl (tc 1, 1, .inr (.inl of)))) : gMH l yL_forbid cL_forbid 5 (some .int) [(0, 10, 13, 21), (0, 10, 17, 13)] rm_L_forbid D tc A [.ref (ca 0), .int x, .int y, .ref oa] w (fun v w' => gL w w' ∧ ∃ of' : Nat → Int64, w' 7 = some (oa, .inl (tc 1, 1, .inr (.inl of'))) ∧ ((m_go (ga_forbid d x y) (gb_forbid d x y) (gc_forbid d x y) = 0 ∧ v = some (.int (m_la (ga_forbid d x y) (gb_forbid d x y) (gc_forbid d x y))) ∧ cW tc w' ca d tk st) ∨ (¬ m_go (ga_forbid d x y) (gb_forbid d x y) (gc_forbid d x y) = 0 ∧ v = some (.int 0) ∧ of' 0 = (d 2 x.toNatClampNeg).toInt64 ∧ ∃ ca' : Nat → Nat, ca' 0 = ca 0 ∧ cW tc w' ca' (sL (gD d 2 (upd (d 2) x.toNatClampNeg y)) 0) tk st))) (fun _ => False) := by
  refine gMH_of (by decide +kernel) (Nat.le_of_ble_eq_true rfl) ?_
  intro p e s m args below meth c ls Q hQ hE hG hr htab hl
  have hx := hE.1
  have hb := hE.2.1
  have hl : lv_has ls 5 [(0, .ref (ca 0)), (1, .int x), (2, .int y), (3, .ref oa)] := hl
  have hG := hG.sw
  obtain ⟨hOk, hF, hT, hpO, hrO, hj⟩ := id hI
  have hC0 : cW tc (gSw w) ca d tk st := cW_cg hC hOk (fun k h1 h2 => gSw_o w h2 (by omega))
  have z0 := hC0.1.1
  have z8 : gSw w 2000 = some (oa, .inl (tc 1, 1, .inr (.inl of))) := h7
  refine lv_aload_n hx hb dL_forbid_0 rfl (lv_at hl 3 rfl) ?_
  refine lv_iconst (v := 0) hx hb dL_forbid_1 (by decide) ?_
  refine lv_aload_n hx hb dL_forbid_2 rfl (lv_at hl 0 rfl) ?_
  refine lv_iload_n hx hb dL_forbid_3 rfl (lv_at hl 1 rfl) ?_
  refine lv_iload_n hx hb dL_forbid_4 rfl (lv_at hl 2 rfl) ?_
  refine g_callV (rest := [.int 0, .ref oa]) (As := [.int x, .int y]) hE hG hl.1 (c_X5_forbid l hfl D tc A (gSw w) ca d tk st x y hC0 hOk) z0 rfl mw2_83 mw2_84 mw2_85 mw1_1 mw2_86 rfl nm_X5_forbid ⟨⟨Nat.le_of_ble_eq_true rfl, Nat.le_of_ble_eq_true rfl⟩, Nat.le_of_ble_eq_true rfl, Nat.le_of_ble_eq_true rfl⟩ rfl rfl (Nat.le_of_ble_eq_true rfl) dL_forbid_5 (fun E ce q9 H1 locs1 hthr hG1 hcell hvm hcl => ?_) ?_
  · skip
    rcases hthr with ⟨ha, hE9⟩ | ⟨ha, hb9, hE9⟩ | ⟨ha, hb9, hc9, hE9⟩
    · skip
      refine g_catch1 hE htab rfl (by decide) mw1_227 (List.mem_of_getElem? (i := 2) rfl) hE9 hcell hvm hcl ?_
      have hG := hG1.sw
      rw [gSw_sw] at hG
      refine lv_astore (lv' := [(4, .ref q9), (0, .ref (ca 0)), (1, .int x), (2, .int y), (3, .ref oa)]) hx hb dL_forbid_13 hl (by decide) rfl (fun ls hl => ?_)
      refine lv_iconst (v := 1) hx hb dL_forbid_15 (by decide) ?_
      subst hQ
      exact g_iret hE hG hr (Nat.le_of_ble_eq_true rfl) (Nat.le_of_ble_eq_true rfl) dL_forbid_16 ⟨fun _ _ _ => rfl, of, h7, Or.inl ⟨by unfold m_go; rw [if_pos ha], by unfold m_la; rw [if_pos ha], hC⟩⟩
    · skip
      refine g_catch2 hE htab (by decide) mw1_227 (List.mem_of_getElem? (i := 1) rfl) rfl (by decide) mw1_134 (List.mem_of_getElem? (i := 0) rfl) hE9 hcell hvm hcl ?_
      have hG := hG1.sw
      rw [gSw_sw] at hG
      refine lv_astore (lv' := [(4, .ref q9), (0, .ref (ca 0)), (1, .int x), (2, .int y), (3, .ref oa)]) hx hb dL_forbid_17 hl (by decide) rfl (fun ls hl => ?_)
      refine lv_iconst (v := 2) hx hb dL_forbid_19 (by decide) ?_
      subst hQ
      exact g_iret hE hG hr (Nat.le_of_ble_eq_true rfl) (Nat.le_of_ble_eq_true rfl) dL_forbid_20 ⟨fun _ _ _ => rfl, of, h7, Or.inl ⟨by unfold m_go; rw [if_neg ha, if_pos hb9], by unfold m_la; rw [if_neg ha, if_pos hb9], hC⟩⟩
    · skip
      exact absurd hc9 one_nz
  intro v9 w9 H locs h9 hG
  obtain ⟨hgo, e9, ⟨ca2, hca0, hC2⟩, hK9⟩ := h9
  rw [e9]; clear e9
  have z9 : w9 2000 = some (oa, .inl (tc 1, 1, .inr (.inl of))) := (hK9 2000 (by omega)).trans z8
  show W p l e _ s m args below meth c H locs _ _ _ (F0 m 8 ls [.int (d 2 x.toNatClampNeg), .int 0, .ref oa])
  refine lv_i2l (v := (d 2 x.toNatClampNeg).toInt64) hx hb dL_forbid_8 rfl ?_
  refine g_last hE hG z9 (vp_in_nI (n := 0) (N := 1) (by decide) (by decide)) dL_forbid_9 (fun H locs w_1 ew_1 hG => ?_)
  have h_2 : w_1 2000 = some (oa, .inl (tc 1, 1, .inr (.inl (vp_updL of (0 : Int32).toNatClampNeg ((d 2 x.toNatClampNeg).toInt64))))) := gU_s ew_1
  refine lv_goto (tgt := 21) hx hb dL_forbid_10 (by decide) ?_
  refine lv_iconst (v := 0) hx hb dL_forbid_21 (by decide) ?_
  subst hQ
  have hID : iOk (sL (gD d 2 (upd (d 2) x.toNatClampNeg y)) 0) (B + 100) := I_forbid hI hgo
  have hOkD := hID.1
  exact g_iret hE hG.sw hr (Nat.le_of_ble_eq_true rfl) (Nat.le_of_ble_eq_true rfl) dL_forbid_22 ⟨fun k k1 k2 => by rw [gSw_o _ (by omega) (by omega), ew_1, gU_ne _ _ (by omega), hK9 k (by omega), gSw_o _ (by omega) (by omega)], _, h_2, Or.inr ⟨hgo, rfl, pk_uLs (k := 0), ca2, hca0, cW_cg hC2 hOkD (fun k h1 h2 => (gSw_o _ h2 (by omega)).trans (gU_at ew_1 (by omega)))⟩⟩
abbrev rm_L_sounds : Room := { frames := 12, cells := 40, slots := 400, locals := 446 }
theorem nm_L_sounds : gNm yL_sounds 4 := ⟨by decide +kernel, by decide +kernel, by decide +kernel⟩
set_option maxHeartbeats 4000000 in
set_option maxRecDepth 100000 in
theorem c_L_sounds (l : Launch) (hfl : l.stackTraces = false) (D : va_G) (tc : Nat → ClassId) (A : Nat → Prop) (w : gW) (ca : Nat → Nat) (d : gDt) (tk : Int64) (st : Nat → Int64) (x : Int32) (y : Int32) (oa : Nat) (of : Nat → Int64) (B : Nat) (hC : cW tc w ca d tk st) (hI : iOk d B) (hB : B ≤ 60000) (h7 : w 7 = some (oa, .inl (tc 1, 1, .inr (.inl of)))) : gMH l yL_sounds cL_sounds 5 (some .int) [(0, 10, 13, 21)] rm_L_sounds D tc A [.ref (ca 0), .int x, .int y, .ref oa] w (fun v w' => gL w w' ∧ ∃ of' : Nat → Int64, w' 7 = some (oa, .inl (tc 1, 1, .inr (.inl of'))) ∧ ((m_go (ga_sounds d x y) (gb_sounds d x y) (gc_sounds d x y) = 0 ∧ v = some (.int (m_la (ga_sounds d x y) (gb_sounds d x y) (gc_sounds d x y))) ∧ cW tc w' ca d tk st) ∨ (¬ m_go (ga_sounds d x y) (gb_sounds d x y) (gc_sounds d x y) = 0 ∧ v = some (.int 0) ∧ of' 0 = (m_snd d x.toNatClampNeg y.toNatClampNeg).toInt64 ∧ ∃ ca' : Nat → Nat, ca' 0 = ca 0 ∧ cW tc w' ca' (sL d 0) tk st))) (fun _ => False) := by
  refine gMH_of (by decide +kernel) (Nat.le_of_ble_eq_true rfl) ?_
  intro p e s m args below meth c ls Q hQ hE hG hr htab hl
  have hx := hE.1
  have hb := hE.2.1
  have hl : lv_has ls 5 [(0, .ref (ca 0)), (1, .int x), (2, .int y), (3, .ref oa)] := hl
  have hG := hG.sw
  obtain ⟨hOk, hF, hT, hpO, hrO, hj⟩ := id hI
  have hC0 : cW tc (gSw w) ca d tk st := cW_cg hC hOk (fun k h1 h2 => gSw_o w h2 (by omega))
  have z0 := hC0.1.1
  have z8 : gSw w 2000 = some (oa, .inl (tc 1, 1, .inr (.inl of))) := h7
  refine lv_aload_n hx hb dL_sounds_0 rfl (lv_at hl 3 rfl) ?_
  refine lv_iconst (v := 0) hx hb dL_sounds_1 (by decide) ?_
  refine lv_aload_n hx hb dL_sounds_2 rfl (lv_at hl 0 rfl) ?_
  refine lv_iload_n hx hb dL_sounds_3 rfl (lv_at hl 1 rfl) ?_
  refine lv_iload_n hx hb dL_sounds_4 rfl (lv_at hl 2 rfl) ?_
  refine g_callV (rest := [.int 0, .ref oa]) (As := [.int x, .int y]) hE hG hl.1 (c_X5_sounds l hfl D tc A (gSw w) ca d tk st x y hC0 hOk) z0 rfl mw2_91 mw2_92 mw2_93 mw1_1 mw2_94 rfl nm_X5_sounds ⟨⟨Nat.le_of_ble_eq_true rfl, Nat.le_of_ble_eq_true rfl⟩, Nat.le_of_ble_eq_true rfl, Nat.le_of_ble_eq_true rfl⟩ rfl rfl (Nat.le_of_ble_eq_true rfl) dL_sounds_5 (fun E ce q9 H1 locs1 hthr hG1 hcell hvm hcl => ?_) ?_
  · skip
    rcases hthr with ⟨ha, hE9⟩ | ⟨ha, hb9, hE9⟩ | ⟨ha, hb9, hc9, hE9⟩
    · skip
      refine g_catch1 hE htab rfl (by decide) mw1_227 (List.mem_of_getElem? (i := 2) rfl) hE9 hcell hvm hcl ?_
      have hG := hG1.sw
      rw [gSw_sw] at hG
      refine lv_astore (lv' := [(4, .ref q9), (0, .ref (ca 0)), (1, .int x), (2, .int y), (3, .ref oa)]) hx hb dL_sounds_13 hl (by decide) rfl (fun ls hl => ?_)
      refine lv_iconst (v := 1) hx hb dL_sounds_15 (by decide) ?_
      subst hQ
      exact g_iret hE hG hr (Nat.le_of_ble_eq_true rfl) (Nat.le_of_ble_eq_true rfl) dL_sounds_16 ⟨fun _ _ _ => rfl, of, h7, Or.inl ⟨by unfold m_go; rw [if_pos ha], by unfold m_la; rw [if_pos ha], hC⟩⟩
    · skip
      exact absurd hb9 one_nz
    · skip
      exact absurd hc9 one_nz
  intro v9 w9 H locs h9 hG
  obtain ⟨hgo, e9, ⟨ca2, hca0, hC2⟩, hK9⟩ := h9
  rw [e9]; clear e9
  have z9 : w9 2000 = some (oa, .inl (tc 1, 1, .inr (.inl of))) := (hK9 2000 (by omega)).trans z8
  show W p l e _ s m args below meth c H locs _ _ _ (F0 m 8 ls [.int (m_snd d x.toNatClampNeg y.toNatClampNeg), .int 0, .ref oa])
  refine lv_i2l (v := (m_snd d x.toNatClampNeg y.toNatClampNeg).toInt64) hx hb dL_sounds_8 rfl ?_
  refine g_last hE hG z9 (vp_in_nI (n := 0) (N := 1) (by decide) (by decide)) dL_sounds_9 (fun H locs w_1 ew_1 hG => ?_)
  have h_2 : w_1 2000 = some (oa, .inl (tc 1, 1, .inr (.inl (vp_updL of (0 : Int32).toNatClampNeg ((m_snd d x.toNatClampNeg y.toNatClampNeg).toInt64))))) := gU_s ew_1
  refine lv_goto (tgt := 17) hx hb dL_sounds_10 (by decide) ?_
  refine lv_iconst (v := 0) hx hb dL_sounds_17 (by decide) ?_
  subst hQ
  have hID : iOk (sL d 0) (B + 100) := iOk_l hI 0
  have hOkD := hID.1
  exact g_iret hE hG.sw hr (Nat.le_of_ble_eq_true rfl) (Nat.le_of_ble_eq_true rfl) dL_sounds_18 ⟨fun k k1 k2 => by rw [gSw_o _ (by omega) (by omega), ew_1, gU_ne _ _ (by omega), hK9 k (by omega), gSw_o _ (by omega) (by omega)], _, h_2, Or.inr ⟨hgo, rfl, pk_uLs (k := 0), ca2, hca0, cW_cg hC2 hOkD (fun k h1 h2 => (gSw_o _ h2 (by omega)).trans (gU_at ew_1 (by omega)))⟩⟩
abbrev rm_L_stroke : Room := { frames := 12, cells := 40, slots := 400, locals := 446 }
theorem nm_L_stroke : gNm yL_stroke 7 := ⟨by decide +kernel, by decide +kernel, by decide +kernel⟩
set_option maxHeartbeats 4000000 in
set_option maxRecDepth 100000 in
theorem c_L_stroke (l : Launch) (hfl : l.stackTraces = false) (D : va_G) (tc : Nat → ClassId) (A : Nat → Prop) (w : gW) (ca : Nat → Nat) (d : gDt) (tk : Int64) (st : Nat → Int64) (x : Int32) (a : Int32) (y : Int32) (b : Int32) (t : Int32) (oa : Nat) (of : Nat → Int64) (B : Nat) (hC : cW tc w ca d tk st) (hI : iOk d B) (hB : B ≤ 60000) (h7 : w 7 = some (oa, .inl (tc 1, 1, .inr (.inl of)))) : gMH l yL_stroke cL_stroke 8 (some .int) [(0, 16, 19, 21), (0, 16, 23, 13)] rm_L_stroke D tc A [.ref (ca 0), .int x, .int a, .int y, .int b, .int t, .ref oa] w (fun v w' => gL w w' ∧ ∃ of' : Nat → Int64, w' 7 = some (oa, .inl (tc 1, 1, .inr (.inl of'))) ∧ ((m_go (ga_stroke d x a y b t) (gb_stroke d x a y b t) (gc_stroke d x a y b t) = 0 ∧ v = some (.int (m_la (ga_stroke d x a y b t) (gb_stroke d x a y b t) (gc_stroke d x a y b t))) ∧ cW tc w' ca d tk st) ∨ (¬ m_go (ga_stroke d x a y b t) (gb_stroke d x a y b t) (gc_stroke d x a y b t) = 0 ∧ v = some (.int 0) ∧ of' 0 = (m_stroke d x a y b t).toInt64 ∧ ∃ ca' : Nat → Nat, ca' 0 = ca 0 ∧ cW tc w' ca' (sL d 0) tk st))) (fun _ => False) := by
  refine gMH_of (by decide +kernel) (Nat.le_of_ble_eq_true rfl) ?_
  intro p e s m args below meth c ls Q hQ hE hG hr htab hl
  have hx := hE.1
  have hb := hE.2.1
  have hl : lv_has ls 8 [(0, .ref (ca 0)), (1, .int x), (2, .int a), (3, .int y), (4, .int b), (5, .int t), (6, .ref oa)] := hl
  have hG := hG.sw
  obtain ⟨hOk, hF, hT, hpO, hrO, hj⟩ := id hI
  have hC0 : cW tc (gSw w) ca d tk st := cW_cg hC hOk (fun k h1 h2 => gSw_o w h2 (by omega))
  have z0 := hC0.1.1
  have z8 : gSw w 2000 = some (oa, .inl (tc 1, 1, .inr (.inl of))) := h7
  refine lv_aload hx hb dL_stroke_0 (lv_at hl 6 rfl) ?_
  refine lv_iconst (v := 0) hx hb dL_stroke_2 (by decide) ?_
  refine lv_aload_n hx hb dL_stroke_3 rfl (lv_at hl 0 rfl) ?_
  refine lv_iload_n hx hb dL_stroke_4 rfl (lv_at hl 1 rfl) ?_
  refine lv_iload_n hx hb dL_stroke_5 rfl (lv_at hl 2 rfl) ?_
  refine lv_iload_n hx hb dL_stroke_6 rfl (lv_at hl 3 rfl) ?_
  refine lv_iload hx hb dL_stroke_7 (lv_at hl 4 rfl) ?_
  refine lv_iload hx hb dL_stroke_9 (lv_at hl 5 rfl) ?_
  refine g_callV (rest := [.int 0, .ref oa]) (As := [.int x, .int a, .int y, .int b, .int t]) hE hG hl.1 (c_X5_stroke l hfl D tc A (gSw w) ca d tk st x a y b t hC0 hOk hT) z0 rfl mw2_102 mw2_103 mw2_104 mw1_1 mw2_105 rfl nm_X5_stroke ⟨⟨Nat.le_of_ble_eq_true rfl, Nat.le_of_ble_eq_true rfl⟩, Nat.le_of_ble_eq_true rfl, Nat.le_of_ble_eq_true rfl⟩ rfl rfl (Nat.le_of_ble_eq_true rfl) dL_stroke_11 (fun E ce q9 H1 locs1 hthr hG1 hcell hvm hcl => ?_) ?_
  · skip
    rcases hthr with ⟨ha, hE9⟩ | ⟨ha, hb9, hE9⟩ | ⟨ha, hb9, hc9, hE9⟩
    · skip
      refine g_catch1 hE htab rfl (by decide) mw1_227 (List.mem_of_getElem? (i := 2) rfl) hE9 hcell hvm hcl ?_
      have hG := hG1.sw
      rw [gSw_sw] at hG
      refine lv_astore (lv' := [(7, .ref q9), (0, .ref (ca 0)), (1, .int x), (2, .int a), (3, .int y), (4, .int b), (5, .int t), (6, .ref oa)]) hx hb dL_stroke_19 hl (by decide) rfl (fun ls hl => ?_)
      refine lv_iconst (v := 1) hx hb dL_stroke_21 (by decide) ?_
      subst hQ
      exact g_iret hE hG hr (Nat.le_of_ble_eq_true rfl) (Nat.le_of_ble_eq_true rfl) dL_stroke_22 ⟨fun _ _ _ => rfl, of, h7, Or.inl ⟨by unfold m_go; rw [if_pos ha], by unfold m_la; rw [if_pos ha], hC⟩⟩
    · skip
      refine g_catch2 hE htab (by decide) mw1_227 (List.mem_of_getElem? (i := 1) rfl) rfl (by decide) mw1_134 (List.mem_of_getElem? (i := 0) rfl) hE9 hcell hvm hcl ?_
      have hG := hG1.sw
      rw [gSw_sw] at hG
      refine lv_astore (lv' := [(7, .ref q9), (0, .ref (ca 0)), (1, .int x), (2, .int a), (3, .int y), (4, .int b), (5, .int t), (6, .ref oa)]) hx hb dL_stroke_23 hl (by decide) rfl (fun ls hl => ?_)
      refine lv_iconst (v := 2) hx hb dL_stroke_25 (by decide) ?_
      subst hQ
      exact g_iret hE hG hr (Nat.le_of_ble_eq_true rfl) (Nat.le_of_ble_eq_true rfl) dL_stroke_26 ⟨fun _ _ _ => rfl, of, h7, Or.inl ⟨by unfold m_go; rw [if_neg ha, if_pos hb9], by unfold m_la; rw [if_neg ha, if_pos hb9], hC⟩⟩
    · skip
      exact absurd hc9 one_nz
  intro v9 w9 H locs h9 hG
  obtain ⟨hgo, e9, ⟨ca2, hca0, hC2⟩, hK9⟩ := h9
  rw [e9]; clear e9
  have z9 : w9 2000 = some (oa, .inl (tc 1, 1, .inr (.inl of))) := (hK9 2000 (by omega)).trans z8
  show W p l e _ s m args below meth c H locs _ _ _ (F0 m 14 ls [.int (m_stroke d x a y b t), .int 0, .ref oa])
  refine lv_i2l (v := (m_stroke d x a y b t).toInt64) hx hb dL_stroke_14 rfl ?_
  refine g_last hE hG z9 (vp_in_nI (n := 0) (N := 1) (by decide) (by decide)) dL_stroke_15 (fun H locs w_1 ew_1 hG => ?_)
  have h_2 : w_1 2000 = some (oa, .inl (tc 1, 1, .inr (.inl (vp_updL of (0 : Int32).toNatClampNeg ((m_stroke d x a y b t).toInt64))))) := gU_s ew_1
  refine lv_goto (tgt := 27) hx hb dL_stroke_16 (by decide) ?_
  refine lv_iconst (v := 0) hx hb dL_stroke_27 (by decide) ?_
  subst hQ
  have hID : iOk (sL d 0) (B + 100) := iOk_l hI 0
  have hOkD := hID.1
  exact g_iret hE hG.sw hr (Nat.le_of_ble_eq_true rfl) (Nat.le_of_ble_eq_true rfl) dL_stroke_28 ⟨fun k k1 k2 => by rw [gSw_o _ (by omega) (by omega), ew_1, gU_ne _ _ (by omega), hK9 k (by omega), gSw_o _ (by omega) (by omega)], _, h_2, Or.inr ⟨hgo, rfl, pk_uLs (k := 0), ca2, hca0, cW_cg hC2 hOkD (fun k h1 h2 => (gSw_o _ h2 (by omega)).trans (gU_at ew_1 (by omega)))⟩⟩
abbrev rm_L_strokeAnew : Room := { frames := 12, cells := 40, slots := 400, locals := 446 }
theorem nm_L_strokeAnew : gNm yL_strokeAnew 7 := ⟨by decide +kernel, by decide +kernel, by decide +kernel⟩
set_option maxHeartbeats 4000000 in
set_option maxRecDepth 100000 in
theorem c_L_strokeAnew (l : Launch) (hfl : l.stackTraces = false) (D : va_G) (tc : Nat → ClassId) (A : Nat → Prop) (w : gW) (ca : Nat → Nat) (d : gDt) (tk : Int64) (st : Nat → Int64) (x : Int32) (a : Int32) (y : Int32) (b : Int32) (t : Int32) (oa : Nat) (of : Nat → Int64) (B : Nat) (hC : cW tc w ca d tk st) (hI : iOk d B) (hB : B ≤ 60000) (h7 : w 7 = some (oa, .inl (tc 1, 1, .inr (.inl of)))) : gMH l yL_strokeAnew cL_strokeAnew 8 (some .int) [(0, 16, 19, 21), (0, 16, 23, 13)] rm_L_strokeAnew D tc A [.ref (ca 0), .int x, .int a, .int y, .int b, .int t, .ref oa] w (fun v w' => gL w w' ∧ ∃ of' : Nat → Int64, w' 7 = some (oa, .inl (tc 1, 1, .inr (.inl of'))) ∧ ((m_go (ga_stroke d x a y b t) (gb_stroke d x a y b t) (gc_stroke d x a y b t) = 0 ∧ v = some (.int (m_la (ga_stroke d x a y b t) (gb_stroke d x a y b t) (gc_stroke d x a y b t))) ∧ cW tc w' ca d tk st) ∨ (¬ m_go (ga_stroke d x a y b t) (gb_stroke d x a y b t) (gc_stroke d x a y b t) = 0 ∧ v = some (.int 0) ∧ of' 0 = (m_stroke d x a y b t).toInt64 ∧ ∃ ca' : Nat → Nat, ca' 0 = ca 0 ∧ cW tc w' ca' (sL d 0) tk st))) (fun _ => False) := by
  refine gMH_of (by decide +kernel) (Nat.le_of_ble_eq_true rfl) ?_
  intro p e s m args below meth c ls Q hQ hE hG hr htab hl
  have hx := hE.1
  have hb := hE.2.1
  have hl : lv_has ls 8 [(0, .ref (ca 0)), (1, .int x), (2, .int a), (3, .int y), (4, .int b), (5, .int t), (6, .ref oa)] := hl
  have hG := hG.sw
  obtain ⟨hOk, hF, hT, hpO, hrO, hj⟩ := id hI
  have hC0 : cW tc (gSw w) ca d tk st := cW_cg hC hOk (fun k h1 h2 => gSw_o w h2 (by omega))
  have z0 := hC0.1.1
  have z8 : gSw w 2000 = some (oa, .inl (tc 1, 1, .inr (.inl of))) := h7
  refine lv_aload hx hb dL_strokeAnew_0 (lv_at hl 6 rfl) ?_
  refine lv_iconst (v := 0) hx hb dL_strokeAnew_2 (by decide) ?_
  refine lv_aload_n hx hb dL_strokeAnew_3 rfl (lv_at hl 0 rfl) ?_
  refine lv_iload_n hx hb dL_strokeAnew_4 rfl (lv_at hl 1 rfl) ?_
  refine lv_iload_n hx hb dL_strokeAnew_5 rfl (lv_at hl 2 rfl) ?_
  refine lv_iload_n hx hb dL_strokeAnew_6 rfl (lv_at hl 3 rfl) ?_
  refine lv_iload hx hb dL_strokeAnew_7 (lv_at hl 4 rfl) ?_
  refine lv_iload hx hb dL_strokeAnew_9 (lv_at hl 5 rfl) ?_
  refine g_callV (rest := [.int 0, .ref oa]) (As := [.int x, .int a, .int y, .int b, .int t]) hE hG hl.1 (c_X5_strokeAnew l hfl D tc A (gSw w) ca d tk st x a y b t hC0 hOk hT) z0 rfl mw2_146 mw2_147 mw2_148 mw1_1 mw2_149 rfl nm_X5_strokeAnew ⟨⟨Nat.le_of_ble_eq_true rfl, Nat.le_of_ble_eq_true rfl⟩, Nat.le_of_ble_eq_true rfl, Nat.le_of_ble_eq_true rfl⟩ rfl rfl (Nat.le_of_ble_eq_true rfl) dL_strokeAnew_11 (fun E ce q9 H1 locs1 hthr hG1 hcell hvm hcl => ?_) ?_
  · skip
    rcases hthr with ⟨ha, hE9⟩ | ⟨ha, hb9, hE9⟩ | ⟨ha, hb9, hc9, hE9⟩
    · skip
      refine g_catch1 hE htab rfl (by decide) mw1_227 (List.mem_of_getElem? (i := 2) rfl) hE9 hcell hvm hcl ?_
      have hG := hG1.sw
      rw [gSw_sw] at hG
      refine lv_astore (lv' := [(7, .ref q9), (0, .ref (ca 0)), (1, .int x), (2, .int a), (3, .int y), (4, .int b), (5, .int t), (6, .ref oa)]) hx hb dL_strokeAnew_19 hl (by decide) rfl (fun ls hl => ?_)
      refine lv_iconst (v := 1) hx hb dL_strokeAnew_21 (by decide) ?_
      subst hQ
      exact g_iret hE hG hr (Nat.le_of_ble_eq_true rfl) (Nat.le_of_ble_eq_true rfl) dL_strokeAnew_22 ⟨fun _ _ _ => rfl, of, h7, Or.inl ⟨by unfold m_go; rw [if_pos ha], by unfold m_la; rw [if_pos ha], hC⟩⟩
    · skip
      refine g_catch2 hE htab (by decide) mw1_227 (List.mem_of_getElem? (i := 1) rfl) rfl (by decide) mw1_134 (List.mem_of_getElem? (i := 0) rfl) hE9 hcell hvm hcl ?_
      have hG := hG1.sw
      rw [gSw_sw] at hG
      refine lv_astore (lv' := [(7, .ref q9), (0, .ref (ca 0)), (1, .int x), (2, .int a), (3, .int y), (4, .int b), (5, .int t), (6, .ref oa)]) hx hb dL_strokeAnew_23 hl (by decide) rfl (fun ls hl => ?_)
      refine lv_iconst (v := 2) hx hb dL_strokeAnew_25 (by decide) ?_
      subst hQ
      exact g_iret hE hG hr (Nat.le_of_ble_eq_true rfl) (Nat.le_of_ble_eq_true rfl) dL_strokeAnew_26 ⟨fun _ _ _ => rfl, of, h7, Or.inl ⟨by unfold m_go; rw [if_neg ha, if_pos hb9], by unfold m_la; rw [if_neg ha, if_pos hb9], hC⟩⟩
    · skip
      exact absurd hc9 one_nz
  intro v9 w9 H locs h9 hG
  obtain ⟨hgo, e9, ⟨ca2, hca0, hC2⟩, hK9⟩ := h9
  rw [e9]; clear e9
  have z9 : w9 2000 = some (oa, .inl (tc 1, 1, .inr (.inl of))) := (hK9 2000 (by omega)).trans z8
  show W p l e _ s m args below meth c H locs _ _ _ (F0 m 14 ls [.int (m_stroke d x a y b t), .int 0, .ref oa])
  refine lv_i2l (v := (m_stroke d x a y b t).toInt64) hx hb dL_strokeAnew_14 rfl ?_
  refine g_last hE hG z9 (vp_in_nI (n := 0) (N := 1) (by decide) (by decide)) dL_strokeAnew_15 (fun H locs w_1 ew_1 hG => ?_)
  have h_2 : w_1 2000 = some (oa, .inl (tc 1, 1, .inr (.inl (vp_updL of (0 : Int32).toNatClampNeg ((m_stroke d x a y b t).toInt64))))) := gU_s ew_1
  refine lv_goto (tgt := 27) hx hb dL_strokeAnew_16 (by decide) ?_
  refine lv_iconst (v := 0) hx hb dL_strokeAnew_27 (by decide) ?_
  subst hQ
  have hID : iOk (sL d 0) (B + 100) := iOk_l hI 0
  have hOkD := hID.1
  exact g_iret hE hG.sw hr (Nat.le_of_ble_eq_true rfl) (Nat.le_of_ble_eq_true rfl) dL_strokeAnew_28 ⟨fun k k1 k2 => by rw [gSw_o _ (by omega) (by omega), ew_1, gU_ne _ _ (by omega), hK9 k (by omega), gSw_o _ (by omega) (by omega)], _, h_2, Or.inr ⟨hgo, rfl, pk_uLs (k := 0), ca2, hca0, cW_cg hC2 hOkD (fun k h1 h2 => (gSw_o _ h2 (by omega)).trans (gU_at ew_1 (by omega)))⟩⟩
abbrev rm_L_begin : Room := { frames := 12, cells := 40, slots := 400, locals := 446 }
theorem nm_L_begin : gNm yL_begin 3 := ⟨by decide +kernel, by decide +kernel, by decide +kernel⟩
set_option maxHeartbeats 4000000 in
set_option maxRecDepth 100000 in
theorem c_L_begin (l : Launch) (hfl : l.stackTraces = false) (D : va_G) (tc : Nat → ClassId) (A : Nat → Prop) (w : gW) (ca : Nat → Nat) (d : gDt) (tk : Int64) (st : Nat → Int64) (x : Int32) (oa : Nat) (of : Nat → Int64) (B : Nat) (hC : cW tc w ca d tk st) (hI : iOk d B) (hB : B ≤ 60000) (h7 : w 7 = some (oa, .inl (tc 1, 1, .inr (.inl of)))) : gMH l yL_begin cL_begin 4 (some .int) [(0, 9, 12, 21), (0, 9, 15, 15)] rm_L_begin D tc A [.ref (ca 0), .int x, .ref oa] w (fun v w' => gL w w' ∧ ∃ of' : Nat → Int64, w' 7 = some (oa, .inl (tc 1, 1, .inr (.inl of'))) ∧ ((m_go (ga_begin d x) (gb_begin d x) (gc_begin d x) = 0 ∧ v = some (.int (m_la (ga_begin d x) (gb_begin d x) (gc_begin d x))) ∧ cW tc w' ca d tk st) ∨ (¬ m_go (ga_begin d x) (gb_begin d x) (gc_begin d x) = 0 ∧ v = some (.int 0) ∧ of' 0 = (d 9 10 + 1).toInt64 ∧ ∃ ca' : Nat → Nat, ca' 0 = ca 0 ∧ cW tc w' ca' (sL (gD d 9 (upd (upd (upd (upd (upd (upd (upd (upd (upd (d 9) 2 1) 3 x) 4 0) 5 20) 6 0) 7 0) 8 0) 9 0) 10 (d 9 10 + 1))) 0) tk st))) (fun _ => False) := by
  refine gMH_of (by decide +kernel) (Nat.le_of_ble_eq_true rfl) ?_
  intro p e s m args below meth c ls Q hQ hE hG hr htab hl
  have hx := hE.1
  have hb := hE.2.1
  have hl : lv_has ls 4 [(0, .ref (ca 0)), (1, .int x), (2, .ref oa)] := hl
  have hG := hG.sw
  obtain ⟨hOk, hF, hT, hpO, hrO, hj⟩ := id hI
  have hC0 : cW tc (gSw w) ca d tk st := cW_cg hC hOk (fun k h1 h2 => gSw_o w h2 (by omega))
  have z0 := hC0.1.1
  have z8 : gSw w 2000 = some (oa, .inl (tc 1, 1, .inr (.inl of))) := h7
  refine lv_aload_n hx hb dL_begin_0 rfl (lv_at hl 2 rfl) ?_
  refine lv_iconst (v := 0) hx hb dL_begin_1 (by decide) ?_
  refine lv_aload_n hx hb dL_begin_2 rfl (lv_at hl 0 rfl) ?_
  refine lv_iload_n hx hb dL_begin_3 rfl (lv_at hl 1 rfl) ?_
  refine g_callV (rest := [.int 0, .ref oa]) (As := [.int x]) hE hG hl.1 (c_X5_begin l hfl D tc A (gSw w) ca d tk st x hC0 hOk) z0 rfl mw2_153 mw2_154 mw2_155 mw1_1 mw2_156 rfl nm_X5_begin ⟨⟨Nat.le_of_ble_eq_true rfl, Nat.le_of_ble_eq_true rfl⟩, Nat.le_of_ble_eq_true rfl, Nat.le_of_ble_eq_true rfl⟩ rfl rfl (Nat.le_of_ble_eq_true rfl) dL_begin_4 (fun E ce q9 H1 locs1 hthr hG1 hcell hvm hcl => ?_) ?_
  · skip
    rcases hthr with ⟨ha, hE9⟩ | ⟨ha, hb9, hE9⟩ | ⟨ha, hb9, hc9, hE9⟩
    · skip
      refine g_catch1 hE htab rfl (by decide) mw1_227 (List.mem_of_getElem? (i := 2) rfl) hE9 hcell hvm hcl ?_
      have hG := hG1.sw
      rw [gSw_sw] at hG
      refine lv_astore_n (lv' := [(3, .ref q9), (0, .ref (ca 0)), (1, .int x), (2, .ref oa)]) hx hb dL_begin_12 rfl hl (by decide) rfl (fun ls hl => ?_)
      refine lv_iconst (v := 1) hx hb dL_begin_13 (by decide) ?_
      subst hQ
      exact g_iret hE hG hr (Nat.le_of_ble_eq_true rfl) (Nat.le_of_ble_eq_true rfl) dL_begin_14 ⟨fun _ _ _ => rfl, of, h7, Or.inl ⟨by unfold m_go; rw [if_pos ha], by unfold m_la; rw [if_pos ha], hC⟩⟩
    · skip
      refine g_catch2 hE htab (by decide) mw1_227 (List.mem_of_getElem? (i := 3) rfl) rfl (by decide) mw1_135 (List.mem_of_getElem? (i := 1) rfl) hE9 hcell hvm hcl ?_
      have hG := hG1.sw
      rw [gSw_sw] at hG
      refine lv_astore_n (lv' := [(3, .ref q9), (0, .ref (ca 0)), (1, .int x), (2, .ref oa)]) hx hb dL_begin_15 rfl hl (by decide) rfl (fun ls hl => ?_)
      refine lv_iconst (v := 2) hx hb dL_begin_16 (by decide) ?_
      subst hQ
      exact g_iret hE hG hr (Nat.le_of_ble_eq_true rfl) (Nat.le_of_ble_eq_true rfl) dL_begin_17 ⟨fun _ _ _ => rfl, of, h7, Or.inl ⟨by unfold m_go; rw [if_neg ha, if_pos hb9], by unfold m_la; rw [if_neg ha, if_pos hb9], hC⟩⟩
    · skip
      exact absurd hc9 one_nz
  intro v9 w9 H locs h9 hG
  obtain ⟨hgo, e9, ⟨ca2, hca0, hC2⟩, hK9⟩ := h9
  rw [e9]; clear e9
  have z9 : w9 2000 = some (oa, .inl (tc 1, 1, .inr (.inl of))) := (hK9 2000 (by omega)).trans z8
  show W p l e _ s m args below meth c H locs _ _ _ (F0 m 7 ls [.int (d 9 10 + 1), .int 0, .ref oa])
  refine lv_i2l (v := (d 9 10 + 1).toInt64) hx hb dL_begin_7 rfl ?_
  refine g_last hE hG z9 (vp_in_nI (n := 0) (N := 1) (by decide) (by decide)) dL_begin_8 (fun H locs w_1 ew_1 hG => ?_)
  have h_2 : w_1 2000 = some (oa, .inl (tc 1, 1, .inr (.inl (vp_updL of (0 : Int32).toNatClampNeg ((d 9 10 + 1).toInt64))))) := gU_s ew_1
  refine lv_goto (tgt := 18) hx hb dL_begin_9 (by decide) ?_
  refine lv_iconst (v := 0) hx hb dL_begin_18 (by decide) ?_
  subst hQ
  have hID : iOk (sL (gD d 9 (upd (upd (upd (upd (upd (upd (upd (upd (upd (d 9) 2 1) 3 x) 4 0) 5 20) 6 0) 7 0) 8 0) 9 0) 10 (d 9 10 + 1))) 0) (B + 100) := I_begin hI hgo
  have hOkD := hID.1
  exact g_iret hE hG.sw hr (Nat.le_of_ble_eq_true rfl) (Nat.le_of_ble_eq_true rfl) dL_begin_19 ⟨fun k k1 k2 => by rw [gSw_o _ (by omega) (by omega), ew_1, gU_ne _ _ (by omega), hK9 k (by omega), gSw_o _ (by omega) (by omega)], _, h_2, Or.inr ⟨hgo, rfl, pk_uLs (k := 0), ca2, hca0, cW_cg hC2 hOkD (fun k h1 h2 => (gSw_o _ h2 (by omega)).trans (gU_at ew_1 (by omega)))⟩⟩
abbrev rm_L_drum : Room := { frames := 12, cells := 40, slots := 400, locals := 446 }
theorem nm_L_drum : gNm yL_drum 3 := ⟨by decide +kernel, by decide +kernel, by decide +kernel⟩
set_option maxHeartbeats 4000000 in
set_option maxRecDepth 100000 in
theorem c_L_drum (l : Launch) (hfl : l.stackTraces = false) (D : va_G) (tc : Nat → ClassId) (A : Nat → Prop) (w : gW) (ca : Nat → Nat) (d : gDt) (tk : Int64) (st : Nat → Int64) (x : Int32) (oa : Nat) (of : Nat → Int64) (B : Nat) (hC : cW tc w ca d tk st) (hI : iOk d B) (hB : B ≤ 60000) (h7 : w 7 = some (oa, .inl (tc 1, 1, .inr (.inl of)))) : gMH l yL_drum cL_drum 4 (some .int) [(0, 9, 12, 13), (0, 9, 15, 15)] rm_L_drum D tc A [.ref (ca 0), .int x, .ref oa] w (fun v w' => gL w w' ∧ ∃ of' : Nat → Int64, w' 7 = some (oa, .inl (tc 1, 1, .inr (.inl of'))) ∧ ((m_go (ga_drum d x) (gb_drum d x) (gc_drum d x) = 0 ∧ v = some (.int (m_la (ga_drum d x) (gb_drum d x) (gc_drum d x))) ∧ cW tc w' ca d tk st) ∨ (¬ m_go (ga_drum d x) (gb_drum d x) (gc_drum d x) = 0 ∧ v = some (.int 0) ∧ of' 0 = (d 9 4).toInt64 ∧ ∃ ca' : Nat → Nat, ca' 0 = ca 0 ∧ cW tc w' ca' (sL (m_drum d x) 0) tk st))) (fun _ => False) := by
  refine gMH_of (by decide +kernel) (Nat.le_of_ble_eq_true rfl) ?_
  intro p e s m args below meth c ls Q hQ hE hG hr htab hl
  have hx := hE.1
  have hb := hE.2.1
  have hl : lv_has ls 4 [(0, .ref (ca 0)), (1, .int x), (2, .ref oa)] := hl
  have hG := hG.sw
  obtain ⟨hOk, hF, hT, hpO, hrO, hj⟩ := id hI
  have hC0 : cW tc (gSw w) ca d tk st := cW_cg hC hOk (fun k h1 h2 => gSw_o w h2 (by omega))
  have z0 := hC0.1.1
  have z8 : gSw w 2000 = some (oa, .inl (tc 1, 1, .inr (.inl of))) := h7
  refine lv_aload_n hx hb dL_drum_0 rfl (lv_at hl 2 rfl) ?_
  refine lv_iconst (v := 0) hx hb dL_drum_1 (by decide) ?_
  refine lv_aload_n hx hb dL_drum_2 rfl (lv_at hl 0 rfl) ?_
  refine lv_iload_n hx hb dL_drum_3 rfl (lv_at hl 1 rfl) ?_
  refine g_callV (rest := [.int 0, .ref oa]) (As := [.int x]) hE hG hl.1 (c_X5_drum l hfl D tc A (gSw w) ca d tk st x B hC0 hOk hB hj) z0 rfl mw2_170 mw2_171 mw2_172 mw1_1 mw2_173 rfl nm_X5_drum ⟨⟨Nat.le_of_ble_eq_true rfl, Nat.le_of_ble_eq_true rfl⟩, Nat.le_of_ble_eq_true rfl, Nat.le_of_ble_eq_true rfl⟩ rfl rfl (Nat.le_of_ble_eq_true rfl) dL_drum_4 (fun E ce q9 H1 locs1 hthr hG1 hcell hvm hcl => ?_) ?_
  · skip
    rcases hthr with ⟨ha, hE9⟩ | ⟨ha, hb9, hE9⟩ | ⟨ha, hb9, hc9, hE9⟩
    · skip
      refine g_catch1 hE htab rfl (by decide) mw1_134 (List.mem_of_getElem? (i := 0) rfl) hE9 hcell hvm hcl ?_
      have hG := hG1.sw
      rw [gSw_sw] at hG
      refine lv_astore_n (lv' := [(3, .ref q9), (0, .ref (ca 0)), (1, .int x), (2, .ref oa)]) hx hb dL_drum_12 rfl hl (by decide) rfl (fun ls hl => ?_)
      refine lv_iconst (v := 1) hx hb dL_drum_13 (by decide) ?_
      subst hQ
      exact g_iret hE hG hr (Nat.le_of_ble_eq_true rfl) (Nat.le_of_ble_eq_true rfl) dL_drum_14 ⟨fun _ _ _ => rfl, of, h7, Or.inl ⟨by unfold m_go; rw [if_pos ha], by unfold m_la; rw [if_pos ha], hC⟩⟩
    · skip
      refine g_catch2 hE htab (by decide) mw1_134 (List.mem_of_getElem? (i := 2) rfl) rfl (by decide) mw1_135 (List.mem_of_getElem? (i := 1) rfl) hE9 hcell hvm hcl ?_
      have hG := hG1.sw
      rw [gSw_sw] at hG
      refine lv_astore_n (lv' := [(3, .ref q9), (0, .ref (ca 0)), (1, .int x), (2, .ref oa)]) hx hb dL_drum_15 rfl hl (by decide) rfl (fun ls hl => ?_)
      refine lv_iconst (v := 2) hx hb dL_drum_16 (by decide) ?_
      subst hQ
      exact g_iret hE hG hr (Nat.le_of_ble_eq_true rfl) (Nat.le_of_ble_eq_true rfl) dL_drum_17 ⟨fun _ _ _ => rfl, of, h7, Or.inl ⟨by unfold m_go; rw [if_neg ha, if_pos hb9], by unfold m_la; rw [if_neg ha, if_pos hb9], hC⟩⟩
    · skip
      exact absurd hc9 one_nz
  intro v9 w9 H locs h9 hG
  obtain ⟨hgo, e9, ⟨ca2, hca0, hC2⟩, hK9⟩ := h9
  rw [e9]; clear e9
  have z9 : w9 2000 = some (oa, .inl (tc 1, 1, .inr (.inl of))) := (hK9 2000 (by omega)).trans z8
  show W p l e _ s m args below meth c H locs _ _ _ (F0 m 7 ls [.int (d 9 4), .int 0, .ref oa])
  refine lv_i2l (v := (d 9 4).toInt64) hx hb dL_drum_7 rfl ?_
  refine g_last hE hG z9 (vp_in_nI (n := 0) (N := 1) (by decide) (by decide)) dL_drum_8 (fun H locs w_1 ew_1 hG => ?_)
  have h_2 : w_1 2000 = some (oa, .inl (tc 1, 1, .inr (.inl (vp_updL of (0 : Int32).toNatClampNeg ((d 9 4).toInt64))))) := gU_s ew_1
  refine lv_goto (tgt := 18) hx hb dL_drum_9 (by decide) ?_
  refine lv_iconst (v := 0) hx hb dL_drum_18 (by decide) ?_
  subst hQ
  have hID : iOk (sL (m_drum d x) 0) (B + 100) := I_drum hI hgo
  have hOkD := hID.1
  exact g_iret hE hG.sw hr (Nat.le_of_ble_eq_true rfl) (Nat.le_of_ble_eq_true rfl) dL_drum_19 ⟨fun k k1 k2 => by rw [gSw_o _ (by omega) (by omega), ew_1, gU_ne _ _ (by omega), hK9 k (by omega), gSw_o _ (by omega) (by omega)], _, h_2, Or.inr ⟨hgo, rfl, pk_uLs (k := 0), ca2, hca0, cW_cg hC2 hOkD (fun k h1 h2 => (gSw_o _ h2 (by omega)).trans (gU_at ew_1 (by omega)))⟩⟩
abbrev rm_L_beats : Room := { frames := 12, cells := 40, slots := 400, locals := 446 }
theorem nm_L_beats : gNm yL_beats 3 := ⟨by decide +kernel, by decide +kernel, by decide +kernel⟩
set_option maxHeartbeats 4000000 in
set_option maxRecDepth 100000 in
theorem c_L_beats (l : Launch) (hfl : l.stackTraces = false) (D : va_G) (tc : Nat → ClassId) (A : Nat → Prop) (w : gW) (ca : Nat → Nat) (d : gDt) (tk : Int64) (st : Nat → Int64) (x : Int32) (oa : Nat) (of : Nat → Int64) (B : Nat) (hC : cW tc w ca d tk st) (hI : iOk d B) (hB : B ≤ 60000) (h7 : w 7 = some (oa, .inl (tc 1, 1, .inr (.inl of)))) : gMH l yL_beats cL_beats 4 (some .int) [(0, 9, 12, 13), (0, 9, 15, 15)] rm_L_beats D tc A [.ref (ca 0), .int x, .ref oa] w (fun v w' => gL w w' ∧ ∃ of' : Nat → Int64, w' 7 = some (oa, .inl (tc 1, 1, .inr (.inl of'))) ∧ ((m_go (ga_beats d x) (gb_beats d x) (gc_beats d x) = 0 ∧ v = some (.int (m_la (ga_beats d x) (gb_beats d x) (gc_beats d x))) ∧ cW tc w' ca d tk st) ∨ (¬ m_go (ga_beats d x) (gb_beats d x) (gc_beats d x) = 0 ∧ v = some (.int 0) ∧ of' 0 = (nI (m_bt x.toNatClampNeg (sL d 0) tk st).1).toInt64 ∧ ∃ ca' : Nat → Nat, ca' 0 = ca 0 ∧ cW tc w' ca' (m_bt x.toNatClampNeg (sL d 0) tk st).2.1 ((m_bt x.toNatClampNeg (sL d 0) tk st).2.2.1) ((m_bt x.toNatClampNeg (sL d 0) tk st).2.2.2)))) (fun _ => False) := by
  refine gMH_of (by decide +kernel) (Nat.le_of_ble_eq_true rfl) ?_
  intro p e s m args below meth c ls Q hQ hE hG hr htab hl
  have hx := hE.1
  have hb := hE.2.1
  have hl : lv_has ls 4 [(0, .ref (ca 0)), (1, .int x), (2, .ref oa)] := hl
  have hG := hG.sw
  obtain ⟨hOk, hF, hT, hpO, hrO, hj⟩ := id hI
  have hC0 : cW tc (gSw w) ca d tk st := cW_cg hC hOk (fun k h1 h2 => gSw_o w h2 (by omega))
  have z0 := hC0.1.1
  have z8 : gSw w 2000 = some (oa, .inl (tc 1, 1, .inr (.inl of))) := h7
  refine lv_aload_n hx hb dL_beats_0 rfl (lv_at hl 2 rfl) ?_
  refine lv_iconst (v := 0) hx hb dL_beats_1 (by decide) ?_
  refine lv_aload_n hx hb dL_beats_2 rfl (lv_at hl 0 rfl) ?_
  refine lv_iload_n hx hb dL_beats_3 rfl (lv_at hl 1 rfl) ?_
  refine g_callV (rest := [.int 0, .ref oa]) (As := [.int x]) hE hG hl.1 (c_X5_beats l hfl D tc A (gSw w) ca d tk st x B hC0 hOk hB hj) z0 rfl mw2_191 mw2_192 mw2_193 mw1_1 mw2_194 rfl nm_X5_beats ⟨⟨Nat.le_of_ble_eq_true rfl, Nat.le_of_ble_eq_true rfl⟩, Nat.le_of_ble_eq_true rfl, Nat.le_of_ble_eq_true rfl⟩ rfl rfl (Nat.le_of_ble_eq_true rfl) dL_beats_4 (fun E ce q9 H1 locs1 hthr hG1 hcell hvm hcl => ?_) ?_
  · skip
    rcases hthr with ⟨ha, hE9⟩ | ⟨ha, hb9, hE9⟩ | ⟨ha, hb9, hc9, hE9⟩
    · skip
      refine g_catch1 hE htab rfl (by decide) mw1_134 (List.mem_of_getElem? (i := 0) rfl) hE9 hcell hvm hcl ?_
      have hG := hG1.sw
      rw [gSw_sw] at hG
      refine lv_astore_n (lv' := [(3, .ref q9), (0, .ref (ca 0)), (1, .int x), (2, .ref oa)]) hx hb dL_beats_12 rfl hl (by decide) rfl (fun ls hl => ?_)
      refine lv_iconst (v := 1) hx hb dL_beats_13 (by decide) ?_
      subst hQ
      exact g_iret hE hG hr (Nat.le_of_ble_eq_true rfl) (Nat.le_of_ble_eq_true rfl) dL_beats_14 ⟨fun _ _ _ => rfl, of, h7, Or.inl ⟨by unfold m_go; rw [if_pos ha], by unfold m_la; rw [if_pos ha], hC⟩⟩
    · skip
      refine g_catch2 hE htab (by decide) mw1_134 (List.mem_of_getElem? (i := 2) rfl) rfl (by decide) mw1_135 (List.mem_of_getElem? (i := 1) rfl) hE9 hcell hvm hcl ?_
      have hG := hG1.sw
      rw [gSw_sw] at hG
      refine lv_astore_n (lv' := [(3, .ref q9), (0, .ref (ca 0)), (1, .int x), (2, .ref oa)]) hx hb dL_beats_15 rfl hl (by decide) rfl (fun ls hl => ?_)
      refine lv_iconst (v := 2) hx hb dL_beats_16 (by decide) ?_
      subst hQ
      exact g_iret hE hG hr (Nat.le_of_ble_eq_true rfl) (Nat.le_of_ble_eq_true rfl) dL_beats_17 ⟨fun _ _ _ => rfl, of, h7, Or.inl ⟨by unfold m_go; rw [if_neg ha, if_pos hb9], by unfold m_la; rw [if_neg ha, if_pos hb9], hC⟩⟩
    · skip
      exact absurd hc9 one_nz
  intro v9 w9 H locs h9 hG
  obtain ⟨hgo, e9, ⟨ca2, hca0, hC2⟩, hK9⟩ := h9
  rw [e9]; clear e9
  have z9 : w9 2000 = some (oa, .inl (tc 1, 1, .inr (.inl of))) := (hK9 2000 (by omega)).trans z8
  show W p l e _ s m args below meth c H locs _ _ _ (F0 m 7 ls [.int (nI (m_bt x.toNatClampNeg (sL d 0) tk st).1), .int 0, .ref oa])
  refine lv_i2l (v := (nI (m_bt x.toNatClampNeg (sL d 0) tk st).1).toInt64) hx hb dL_beats_7 rfl ?_
  refine g_last hE hG z9 (vp_in_nI (n := 0) (N := 1) (by decide) (by decide)) dL_beats_8 (fun H locs w_1 ew_1 hG => ?_)
  have h_2 : w_1 2000 = some (oa, .inl (tc 1, 1, .inr (.inl (vp_updL of (0 : Int32).toNatClampNeg ((nI (m_bt x.toNatClampNeg (sL d 0) tk st).1).toInt64))))) := gU_s ew_1
  refine lv_goto (tgt := 18) hx hb dL_beats_9 (by decide) ?_
  refine lv_iconst (v := 0) hx hb dL_beats_18 (by decide) ?_
  subst hQ
  have hID : iOk ((m_bt x.toNatClampNeg (sL d 0) tk st).2.1) (B + 100) := I_beats hI hgo
  have hOkD := hID.1
  exact g_iret hE hG.sw hr (Nat.le_of_ble_eq_true rfl) (Nat.le_of_ble_eq_true rfl) dL_beats_19 ⟨fun k k1 k2 => by rw [gSw_o _ (by omega) (by omega), ew_1, gU_ne _ _ (by omega), hK9 k (by omega), gSw_o _ (by omega) (by omega)], _, h_2, Or.inr ⟨hgo, rfl, pk_uLs (k := 0), ca2, hca0, cW_cg hC2 hOkD (fun k h1 h2 => (gSw_o _ h2 (by omega)).trans (gU_at ew_1 (by omega)))⟩⟩
abbrev rm_L_now : Room := { frames := 12, cells := 40, slots := 400, locals := 446 }
theorem nm_L_now : gNm yL_now 3 := ⟨by decide +kernel, by decide +kernel, by decide +kernel⟩
set_option maxHeartbeats 4000000 in
set_option maxRecDepth 100000 in
theorem c_L_now (l : Launch) (hfl : l.stackTraces = false) (D : va_G) (tc : Nat → ClassId) (A : Nat → Prop) (w : gW) (ca : Nat → Nat) (d : gDt) (tk : Int64) (st : Nat → Int64) (x : Int32) (oa : Nat) (of : Nat → Int64) (B : Nat) (hC : cW tc w ca d tk st) (hI : iOk d B) (hB : B ≤ 60000) (h7 : w 7 = some (oa, .inl (tc 1, 1, .inr (.inl of)))) : gMH l yL_now cL_now 4 (some .int) [(0, 9, 12, 13)] rm_L_now D tc A [.ref (ca 0), .int x, .ref oa] w (fun v w' => gL w w' ∧ ∃ of' : Nat → Int64, w' 7 = some (oa, .inl (tc 1, 1, .inr (.inl of'))) ∧ ((m_go (ga_now d x) (gb_now d x) (gc_now d x) = 0 ∧ v = some (.int (m_la (ga_now d x) (gb_now d x) (gc_now d x))) ∧ cW tc w' ca d tk st) ∨ (¬ m_go (ga_now d x) (gb_now d x) (gc_now d x) = 0 ∧ v = some (.int 0) ∧ of' 0 = (m_now d x).toInt64 ∧ ∃ ca' : Nat → Nat, ca' 0 = ca 0 ∧ cW tc w' ca' (sL d 0) tk st))) (fun _ => False) := by
  refine gMH_of (by decide +kernel) (Nat.le_of_ble_eq_true rfl) ?_
  intro p e s m args below meth c ls Q hQ hE hG hr htab hl
  have hx := hE.1
  have hb := hE.2.1
  have hl : lv_has ls 4 [(0, .ref (ca 0)), (1, .int x), (2, .ref oa)] := hl
  have hG := hG.sw
  obtain ⟨hOk, hF, hT, hpO, hrO, hj⟩ := id hI
  have hC0 : cW tc (gSw w) ca d tk st := cW_cg hC hOk (fun k h1 h2 => gSw_o w h2 (by omega))
  have z0 := hC0.1.1
  have z8 : gSw w 2000 = some (oa, .inl (tc 1, 1, .inr (.inl of))) := h7
  refine lv_aload_n hx hb dL_now_0 rfl (lv_at hl 2 rfl) ?_
  refine lv_iconst (v := 0) hx hb dL_now_1 (by decide) ?_
  refine lv_aload_n hx hb dL_now_2 rfl (lv_at hl 0 rfl) ?_
  refine lv_iload_n hx hb dL_now_3 rfl (lv_at hl 1 rfl) ?_
  refine g_callV (rest := [.int 0, .ref oa]) (As := [.int x]) hE hG hl.1 (c_X5_now l hfl D tc A (gSw w) ca d tk st x hC0 hOk) z0 rfl mw2_219 mw2_220 mw2_221 mw1_1 mw2_222 rfl nm_X5_now ⟨⟨Nat.le_of_ble_eq_true rfl, Nat.le_of_ble_eq_true rfl⟩, Nat.le_of_ble_eq_true rfl, Nat.le_of_ble_eq_true rfl⟩ rfl rfl (Nat.le_of_ble_eq_true rfl) dL_now_4 (fun E ce q9 H1 locs1 hthr hG1 hcell hvm hcl => ?_) ?_
  · skip
    rcases hthr with ⟨ha, hE9⟩ | ⟨ha, hb9, hE9⟩ | ⟨ha, hb9, hc9, hE9⟩
    · skip
      refine g_catch1 hE htab rfl (by decide) mw1_134 (List.mem_of_getElem? (i := 0) rfl) hE9 hcell hvm hcl ?_
      have hG := hG1.sw
      rw [gSw_sw] at hG
      refine lv_astore_n (lv' := [(3, .ref q9), (0, .ref (ca 0)), (1, .int x), (2, .ref oa)]) hx hb dL_now_12 rfl hl (by decide) rfl (fun ls hl => ?_)
      refine lv_iconst (v := 1) hx hb dL_now_13 (by decide) ?_
      subst hQ
      exact g_iret hE hG hr (Nat.le_of_ble_eq_true rfl) (Nat.le_of_ble_eq_true rfl) dL_now_14 ⟨fun _ _ _ => rfl, of, h7, Or.inl ⟨by unfold m_go; rw [if_pos ha], by unfold m_la; rw [if_pos ha], hC⟩⟩
    · skip
      exact absurd hb9 one_nz
    · skip
      exact absurd hc9 one_nz
  intro v9 w9 H locs h9 hG
  obtain ⟨hgo, e9, ⟨ca2, hca0, hC2⟩, hK9⟩ := h9
  rw [e9]; clear e9
  have z9 : w9 2000 = some (oa, .inl (tc 1, 1, .inr (.inl of))) := (hK9 2000 (by omega)).trans z8
  show W p l e _ s m args below meth c H locs _ _ _ (F0 m 7 ls [.int (m_now d x), .int 0, .ref oa])
  refine lv_i2l (v := (m_now d x).toInt64) hx hb dL_now_7 rfl ?_
  refine g_last hE hG z9 (vp_in_nI (n := 0) (N := 1) (by decide) (by decide)) dL_now_8 (fun H locs w_1 ew_1 hG => ?_)
  have h_2 : w_1 2000 = some (oa, .inl (tc 1, 1, .inr (.inl (vp_updL of (0 : Int32).toNatClampNeg ((m_now d x).toInt64))))) := gU_s ew_1
  refine lv_goto (tgt := 15) hx hb dL_now_9 (by decide) ?_
  refine lv_iconst (v := 0) hx hb dL_now_15 (by decide) ?_
  subst hQ
  have hID : iOk (sL d 0) (B + 100) := iOk_l hI 0
  have hOkD := hID.1
  exact g_iret hE hG.sw hr (Nat.le_of_ble_eq_true rfl) (Nat.le_of_ble_eq_true rfl) dL_now_16 ⟨fun k k1 k2 => by rw [gSw_o _ (by omega) (by omega), ew_1, gU_ne _ _ (by omega), hK9 k (by omega), gSw_o _ (by omega) (by omega)], _, h_2, Or.inr ⟨hgo, rfl, pk_uLs (k := 0), ca2, hca0, cW_cg hC2 hOkD (fun k h1 h2 => (gSw_o _ h2 (by omega)).trans (gU_at ew_1 (by omega)))⟩⟩
abbrev rm_L_strokes : Room := { frames := 12, cells := 40, slots := 400, locals := 446 }
theorem nm_L_strokes : gNm yL_strokes 3 := ⟨by decide +kernel, by decide +kernel, by decide +kernel⟩
set_option maxHeartbeats 4000000 in
set_option maxRecDepth 100000 in
theorem c_L_strokes (l : Launch) (hfl : l.stackTraces = false) (D : va_G) (tc : Nat → ClassId) (A : Nat → Prop) (w : gW) (ca : Nat → Nat) (d : gDt) (tk : Int64) (st : Nat → Int64) (x : Int32) (oa : Nat) (of : Nat → Int64) (B : Nat) (hC : cW tc w ca d tk st) (hI : iOk d B) (hB : B ≤ 60000) (h7 : w 7 = some (oa, .inl (tc 1, 1, .inr (.inl of)))) : gMH l yL_strokes cL_strokes 4 (some .int) [(0, 8, 11, 21)] rm_L_strokes D tc A [.ref (ca 0), .int x, .ref oa] w (fun v w' => gL w w' ∧ ∃ of' : Nat → Int64, w' 7 = some (oa, .inl (tc 1, 1, .inr (.inl of'))) ∧ ((m_go (ga_strokes d x) (gb_strokes d x) (gc_strokes d x) = 0 ∧ v = some (.int (m_la (ga_strokes d x) (gb_strokes d x) (gc_strokes d x))) ∧ cW tc w' ca d tk st) ∨ (¬ m_go (ga_strokes d x) (gb_strokes d x) (gc_strokes d x) = 0 ∧ v = some (.int 0) ∧ of' 0 = (st x.toNatClampNeg) ∧ ∃ ca' : Nat → Nat, ca' 0 = ca 0 ∧ cW tc w' ca' (sL d 0) tk st))) (fun _ => False) := by
  refine gMH_of (by decide +kernel) (Nat.le_of_ble_eq_true rfl) ?_
  intro p e s m args below meth c ls Q hQ hE hG hr htab hl
  have hx := hE.1
  have hb := hE.2.1
  have hl : lv_has ls 4 [(0, .ref (ca 0)), (1, .int x), (2, .ref oa)] := hl
  have hG := hG.sw
  obtain ⟨hOk, hF, hT, hpO, hrO, hj⟩ := id hI
  have hC0 : cW tc (gSw w) ca d tk st := cW_cg hC hOk (fun k h1 h2 => gSw_o w h2 (by omega))
  have z0 := hC0.1.1
  have z8 : gSw w 2000 = some (oa, .inl (tc 1, 1, .inr (.inl of))) := h7
  refine lv_aload_n hx hb dL_strokes_0 rfl (lv_at hl 2 rfl) ?_
  refine lv_iconst (v := 0) hx hb dL_strokes_1 (by decide) ?_
  refine lv_aload_n hx hb dL_strokes_2 rfl (lv_at hl 0 rfl) ?_
  refine lv_iload_n hx hb dL_strokes_3 rfl (lv_at hl 1 rfl) ?_
  refine g_callV (rest := [.int 0, .ref oa]) (As := [.int x]) hE hG hl.1 (c_X5_strokes l hfl D tc A (gSw w) ca d tk st x hC0 hOk) z0 rfl mw2_227 mw2_228 mw2_229 mw1_1 mw2_230 rfl nm_X5_strokes ⟨⟨Nat.le_of_ble_eq_true rfl, Nat.le_of_ble_eq_true rfl⟩, Nat.le_of_ble_eq_true rfl, Nat.le_of_ble_eq_true rfl⟩ rfl rfl (Nat.le_of_ble_eq_true rfl) dL_strokes_4 (fun E ce q9 H1 locs1 hthr hG1 hcell hvm hcl => ?_) ?_
  · skip
    obtain ⟨ha, hE9⟩ := hthr
    have ha : ga_strokes d x = 0 := ha
    refine g_catch1 hE htab rfl (by decide) mw1_227 (List.mem_of_getElem? (i := 2) rfl) hE9 hcell hvm hcl ?_
    have hG := hG1.sw
    rw [gSw_sw] at hG
    refine lv_astore_n (lv' := [(3, .ref q9), (0, .ref (ca 0)), (1, .int x), (2, .ref oa)]) hx hb dL_strokes_11 rfl hl (by decide) rfl (fun ls hl => ?_)
    refine lv_iconst (v := 1) hx hb dL_strokes_12 (by decide) ?_
    subst hQ
    exact g_iret hE hG hr (Nat.le_of_ble_eq_true rfl) (Nat.le_of_ble_eq_true rfl) dL_strokes_13 ⟨fun _ _ _ => rfl, of, h7, Or.inl ⟨by unfold m_go; rw [if_pos ha], by unfold m_la; rw [if_pos ha], hC⟩⟩
  intro v9 w9 H locs h9 hG
  obtain ⟨hgo9, e9, e8⟩ := h9
  have hgo : ¬ m_go (ga_strokes d x) (gb_strokes d x) (gc_strokes d x) = 0 := m_go_i hgo9 one_nz one_nz
  have hca0 : ca 0 = ca 0 := rfl
  have hK9 : gK (gSw w) w9 := by rw [e8]; exact gK_rf _
  have hC2 : cW tc w9 ca (sL d 0) tk st := by rw [e8]; exact cW_l hC0 0
  rw [e9]; clear e9
  have z9 : w9 2000 = some (oa, .inl (tc 1, 1, .inr (.inl of))) := (hK9 2000 (by omega)).trans z8
  show W p l e _ s m args below meth c H locs _ _ _ (F0 m 7 ls [.long (st x.toNatClampNeg), .int 0, .ref oa])
  refine g_last hE hG z9 (vp_in_nI (n := 0) (N := 1) (by decide) (by decide)) dL_strokes_7 (fun H locs w_1 ew_1 hG => ?_)
  have h_2 : w_1 2000 = some (oa, .inl (tc 1, 1, .inr (.inl (vp_updL of (0 : Int32).toNatClampNeg (st x.toNatClampNeg))))) := gU_s ew_1
  refine lv_goto (tgt := 14) hx hb dL_strokes_8 (by decide) ?_
  refine lv_iconst (v := 0) hx hb dL_strokes_14 (by decide) ?_
  subst hQ
  have hID : iOk (sL d 0) (B + 100) := iOk_l hI 0
  have hOkD := hID.1
  exact g_iret hE hG.sw hr (Nat.le_of_ble_eq_true rfl) (Nat.le_of_ble_eq_true rfl) dL_strokes_15 ⟨fun k k1 k2 => by rw [gSw_o _ (by omega) (by omega), ew_1, gU_ne _ _ (by omega), hK9 k (by omega), gSw_o _ (by omega) (by omega)], _, h_2, Or.inr ⟨hgo, rfl, pk_uLs (k := 0), ca, hca0, cW_cg hC2 hOkD (fun k h1 h2 => (gSw_o _ h2 (by omega)).trans (gU_at ew_1 (by omega)))⟩⟩
abbrev rm_L_days : Room := { frames := 12, cells := 40, slots := 400, locals := 446 }
theorem nm_L_days : gNm yL_days 3 := ⟨by decide +kernel, by decide +kernel, by decide +kernel⟩
set_option maxHeartbeats 4000000 in
set_option maxRecDepth 100000 in
theorem c_L_days (l : Launch) (hfl : l.stackTraces = false) (D : va_G) (tc : Nat → ClassId) (A : Nat → Prop) (w : gW) (ca : Nat → Nat) (d : gDt) (tk : Int64) (st : Nat → Int64) (x : Int32) (oa : Nat) (of : Nat → Int64) (B : Nat) (hC : cW tc w ca d tk st) (hI : iOk d B) (hB : B ≤ 60000) (h7 : w 7 = some (oa, .inl (tc 1, 1, .inr (.inl of)))) : gMH l yL_days cL_days 4 (some .int) [(0, 9, 12, 13), (0, 9, 15, 15)] rm_L_days D tc A [.ref (ca 0), .int x, .ref oa] w (fun v w' => gL w w' ∧ ∃ of' : Nat → Int64, w' 7 = some (oa, .inl (tc 1, 1, .inr (.inl of'))) ∧ ((m_go (ga_days d x) (gb_days d x) (gc_days d x) = 0 ∧ v = some (.int (m_la (ga_days d x) (gb_days d x) (gc_days d x))) ∧ cW tc w' ca d tk st) ∨ (¬ m_go (ga_days d x) (gb_days d x) (gc_days d x) = 0 ∧ v = some (.int 0) ∧ of' 0 = (d 9 11 + x - (d 9 11 + x) / 5 * 5).toInt64 ∧ ∃ ca' : Nat → Nat, ca' 0 = ca 0 ∧ cW tc w' ca' (sL (gD d 9 (upd (d 9) 11 (d 9 11 + x - (d 9 11 + x) / 5 * 5))) 0) tk st))) (fun _ => False) := by
  refine gMH_of (by decide +kernel) (Nat.le_of_ble_eq_true rfl) ?_
  intro p e s m args below meth c ls Q hQ hE hG hr htab hl
  have hx := hE.1
  have hb := hE.2.1
  have hl : lv_has ls 4 [(0, .ref (ca 0)), (1, .int x), (2, .ref oa)] := hl
  have hG := hG.sw
  obtain ⟨hOk, hF, hT, hpO, hrO, hj⟩ := id hI
  have hC0 : cW tc (gSw w) ca d tk st := cW_cg hC hOk (fun k h1 h2 => gSw_o w h2 (by omega))
  have z0 := hC0.1.1
  have z8 : gSw w 2000 = some (oa, .inl (tc 1, 1, .inr (.inl of))) := h7
  refine lv_aload_n hx hb dL_days_0 rfl (lv_at hl 2 rfl) ?_
  refine lv_iconst (v := 0) hx hb dL_days_1 (by decide) ?_
  refine lv_aload_n hx hb dL_days_2 rfl (lv_at hl 0 rfl) ?_
  refine lv_iload_n hx hb dL_days_3 rfl (lv_at hl 1 rfl) ?_
  refine g_callV (rest := [.int 0, .ref oa]) (As := [.int x]) hE hG hl.1 (c_X5_days l hfl D tc A (gSw w) ca d tk st x hC0 hOk) z0 rfl mw2_238 mw2_239 mw3_0 mw1_1 mw3_1 rfl nm_X5_days ⟨⟨Nat.le_of_ble_eq_true rfl, Nat.le_of_ble_eq_true rfl⟩, Nat.le_of_ble_eq_true rfl, Nat.le_of_ble_eq_true rfl⟩ rfl rfl (Nat.le_of_ble_eq_true rfl) dL_days_4 (fun E ce q9 H1 locs1 hthr hG1 hcell hvm hcl => ?_) ?_
  · skip
    rcases hthr with ⟨ha, hE9⟩ | ⟨ha, hb9, hE9⟩ | ⟨ha, hb9, hc9, hE9⟩
    · skip
      refine g_catch1 hE htab rfl (by decide) mw1_134 (List.mem_of_getElem? (i := 0) rfl) hE9 hcell hvm hcl ?_
      have hG := hG1.sw
      rw [gSw_sw] at hG
      refine lv_astore_n (lv' := [(3, .ref q9), (0, .ref (ca 0)), (1, .int x), (2, .ref oa)]) hx hb dL_days_12 rfl hl (by decide) rfl (fun ls hl => ?_)
      refine lv_iconst (v := 1) hx hb dL_days_13 (by decide) ?_
      subst hQ
      exact g_iret hE hG hr (Nat.le_of_ble_eq_true rfl) (Nat.le_of_ble_eq_true rfl) dL_days_14 ⟨fun _ _ _ => rfl, of, h7, Or.inl ⟨by unfold m_go; rw [if_pos ha], by unfold m_la; rw [if_pos ha], hC⟩⟩
    · skip
      refine g_catch2 hE htab (by decide) mw1_134 (List.mem_of_getElem? (i := 2) rfl) rfl (by decide) mw1_135 (List.mem_of_getElem? (i := 1) rfl) hE9 hcell hvm hcl ?_
      have hG := hG1.sw
      rw [gSw_sw] at hG
      refine lv_astore_n (lv' := [(3, .ref q9), (0, .ref (ca 0)), (1, .int x), (2, .ref oa)]) hx hb dL_days_15 rfl hl (by decide) rfl (fun ls hl => ?_)
      refine lv_iconst (v := 2) hx hb dL_days_16 (by decide) ?_
      subst hQ
      exact g_iret hE hG hr (Nat.le_of_ble_eq_true rfl) (Nat.le_of_ble_eq_true rfl) dL_days_17 ⟨fun _ _ _ => rfl, of, h7, Or.inl ⟨by unfold m_go; rw [if_neg ha, if_pos hb9], by unfold m_la; rw [if_neg ha, if_pos hb9], hC⟩⟩
    · skip
      exact absurd hc9 one_nz
  intro v9 w9 H locs h9 hG
  obtain ⟨hgo, e9, ⟨ca2, hca0, hC2⟩, hK9⟩ := h9
  rw [e9]; clear e9
  have z9 : w9 2000 = some (oa, .inl (tc 1, 1, .inr (.inl of))) := (hK9 2000 (by omega)).trans z8
  show W p l e _ s m args below meth c H locs _ _ _ (F0 m 7 ls [.int (d 9 11 + x - (d 9 11 + x) / 5 * 5), .int 0, .ref oa])
  refine lv_i2l (v := (d 9 11 + x - (d 9 11 + x) / 5 * 5).toInt64) hx hb dL_days_7 rfl ?_
  refine g_last hE hG z9 (vp_in_nI (n := 0) (N := 1) (by decide) (by decide)) dL_days_8 (fun H locs w_1 ew_1 hG => ?_)
  have h_2 : w_1 2000 = some (oa, .inl (tc 1, 1, .inr (.inl (vp_updL of (0 : Int32).toNatClampNeg ((d 9 11 + x - (d 9 11 + x) / 5 * 5).toInt64))))) := gU_s ew_1
  refine lv_goto (tgt := 18) hx hb dL_days_9 (by decide) ?_
  refine lv_iconst (v := 0) hx hb dL_days_18 (by decide) ?_
  subst hQ
  have hID : iOk (sL (gD d 9 (upd (d 9) 11 (d 9 11 + x - (d 9 11 + x) / 5 * 5))) 0) (B + 100) := I_days hI
  have hOkD := hID.1
  exact g_iret hE hG.sw hr (Nat.le_of_ble_eq_true rfl) (Nat.le_of_ble_eq_true rfl) dL_days_19 ⟨fun k k1 k2 => by rw [gSw_o _ (by omega) (by omega), ew_1, gU_ne _ _ (by omega), hK9 k (by omega), gSw_o _ (by omega) (by omega)], _, h_2, Or.inr ⟨hgo, rfl, pk_uLs (k := 0), ca2, hca0, cW_cg hC2 hOkD (fun k h1 h2 => (gSw_o _ h2 (by omega)).trans (gU_at ew_1 (by omega)))⟩⟩
abbrev rm_L_pitch : Room := { frames := 12, cells := 40, slots := 400, locals := 446 }
theorem nm_L_pitch : gNm yL_pitch 5 := ⟨by decide +kernel, by decide +kernel, by decide +kernel⟩
set_option maxHeartbeats 4000000 in
set_option maxRecDepth 100000 in
theorem c_L_pitch (l : Launch) (hfl : l.stackTraces = false) (D : va_G) (tc : Nat → ClassId) (A : Nat → Prop) (w : gW) (ca : Nat → Nat) (d : gDt) (tk : Int64) (st : Nat → Int64) (x : Int32) (y : Int32) (z : Int32) (oa : Nat) (of : Nat → Int64) (B : Nat) (hC : cW tc w ca d tk st) (hI : iOk d B) (hB : B ≤ 60000) (h7 : w 7 = some (oa, .inl (tc 1, 1, .inr (.inl of)))) : gMH l yL_pitch cL_pitch 6 (some .int) [(0, 12, 15, 21), (0, 12, 19, 13)] rm_L_pitch D tc A [.ref (ca 0), .int x, .int y, .int z, .ref oa] w (fun v w' => gL w w' ∧ ∃ of' : Nat → Int64, w' 7 = some (oa, .inl (tc 1, 1, .inr (.inl of'))) ∧ ((m_go (ga_pitch d x y z) (gb_pitch d x y z) (gc_pitch d x y z) = 0 ∧ v = some (.int (m_la (ga_pitch d x y z) (gb_pitch d x y z) (gc_pitch d x y z))) ∧ cW tc w' ca d tk st) ∨ (¬ m_go (ga_pitch d x y z) (gb_pitch d x y z) (gc_pitch d x y z) = 0 ∧ v = some (.int 0) ∧ of' 0 = (d 4 (8 * x + y).toNatClampNeg).toInt64 ∧ ∃ ca' : Nat → Nat, ca' 0 = ca 0 ∧ cW tc w' ca' (sL (gD d 4 (upd (d 4) (8 * x + y).toNatClampNeg z)) 0) tk st))) (fun _ => False) := by
  refine gMH_of (by decide +kernel) (Nat.le_of_ble_eq_true rfl) ?_
  intro p e s m args below meth c ls Q hQ hE hG hr htab hl
  have hx := hE.1
  have hb := hE.2.1
  have hl : lv_has ls 6 [(0, .ref (ca 0)), (1, .int x), (2, .int y), (3, .int z), (4, .ref oa)] := hl
  have hG := hG.sw
  obtain ⟨hOk, hF, hT, hpO, hrO, hj⟩ := id hI
  have hC0 : cW tc (gSw w) ca d tk st := cW_cg hC hOk (fun k h1 h2 => gSw_o w h2 (by omega))
  have z0 := hC0.1.1
  have z8 : gSw w 2000 = some (oa, .inl (tc 1, 1, .inr (.inl of))) := h7
  refine lv_aload hx hb dL_pitch_0 (lv_at hl 4 rfl) ?_
  refine lv_iconst (v := 0) hx hb dL_pitch_2 (by decide) ?_
  refine lv_aload_n hx hb dL_pitch_3 rfl (lv_at hl 0 rfl) ?_
  refine lv_iload_n hx hb dL_pitch_4 rfl (lv_at hl 1 rfl) ?_
  refine lv_iload_n hx hb dL_pitch_5 rfl (lv_at hl 2 rfl) ?_
  refine lv_iload_n hx hb dL_pitch_6 rfl (lv_at hl 3 rfl) ?_
  refine g_callV (rest := [.int 0, .ref oa]) (As := [.int x, .int y, .int z]) hE hG hl.1 (c_X5_pitch l hfl D tc A (gSw w) ca d tk st x y z hC0 hOk) z0 rfl mw3_6 mw3_7 mw3_8 mw1_1 mw3_9 rfl nm_X5_pitch ⟨⟨Nat.le_of_ble_eq_true rfl, Nat.le_of_ble_eq_true rfl⟩, Nat.le_of_ble_eq_true rfl, Nat.le_of_ble_eq_true rfl⟩ rfl rfl (Nat.le_of_ble_eq_true rfl) dL_pitch_7 (fun E ce q9 H1 locs1 hthr hG1 hcell hvm hcl => ?_) ?_
  · skip
    rcases hthr with ⟨ha, hE9⟩ | ⟨ha, hb9, hE9⟩ | ⟨ha, hb9, hc9, hE9⟩
    · skip
      refine g_catch1 hE htab rfl (by decide) mw1_227 (List.mem_of_getElem? (i := 2) rfl) hE9 hcell hvm hcl ?_
      have hG := hG1.sw
      rw [gSw_sw] at hG
      refine lv_astore (lv' := [(5, .ref q9), (0, .ref (ca 0)), (1, .int x), (2, .int y), (3, .int z), (4, .ref oa)]) hx hb dL_pitch_15 hl (by decide) rfl (fun ls hl => ?_)
      refine lv_iconst (v := 1) hx hb dL_pitch_17 (by decide) ?_
      subst hQ
      exact g_iret hE hG hr (Nat.le_of_ble_eq_true rfl) (Nat.le_of_ble_eq_true rfl) dL_pitch_18 ⟨fun _ _ _ => rfl, of, h7, Or.inl ⟨by unfold m_go; rw [if_pos ha], by unfold m_la; rw [if_pos ha], hC⟩⟩
    · skip
      refine g_catch2 hE htab (by decide) mw1_227 (List.mem_of_getElem? (i := 1) rfl) rfl (by decide) mw1_134 (List.mem_of_getElem? (i := 0) rfl) hE9 hcell hvm hcl ?_
      have hG := hG1.sw
      rw [gSw_sw] at hG
      refine lv_astore (lv' := [(5, .ref q9), (0, .ref (ca 0)), (1, .int x), (2, .int y), (3, .int z), (4, .ref oa)]) hx hb dL_pitch_19 hl (by decide) rfl (fun ls hl => ?_)
      refine lv_iconst (v := 2) hx hb dL_pitch_21 (by decide) ?_
      subst hQ
      exact g_iret hE hG hr (Nat.le_of_ble_eq_true rfl) (Nat.le_of_ble_eq_true rfl) dL_pitch_22 ⟨fun _ _ _ => rfl, of, h7, Or.inl ⟨by unfold m_go; rw [if_neg ha, if_pos hb9], by unfold m_la; rw [if_neg ha, if_pos hb9], hC⟩⟩
    · skip
      exact absurd hc9 one_nz
  intro v9 w9 H locs h9 hG
  obtain ⟨hgo, e9, ⟨ca2, hca0, hC2⟩, hK9⟩ := h9
  rw [e9]; clear e9
  have z9 : w9 2000 = some (oa, .inl (tc 1, 1, .inr (.inl of))) := (hK9 2000 (by omega)).trans z8
  show W p l e _ s m args below meth c H locs _ _ _ (F0 m 10 ls [.int (d 4 (8 * x + y).toNatClampNeg), .int 0, .ref oa])
  refine lv_i2l (v := (d 4 (8 * x + y).toNatClampNeg).toInt64) hx hb dL_pitch_10 rfl ?_
  refine g_last hE hG z9 (vp_in_nI (n := 0) (N := 1) (by decide) (by decide)) dL_pitch_11 (fun H locs w_1 ew_1 hG => ?_)
  have h_2 : w_1 2000 = some (oa, .inl (tc 1, 1, .inr (.inl (vp_updL of (0 : Int32).toNatClampNeg ((d 4 (8 * x + y).toNatClampNeg).toInt64))))) := gU_s ew_1
  refine lv_goto (tgt := 23) hx hb dL_pitch_12 (by decide) ?_
  refine lv_iconst (v := 0) hx hb dL_pitch_23 (by decide) ?_
  subst hQ
  have hID : iOk (sL (gD d 4 (upd (d 4) (8 * x + y).toNatClampNeg z)) 0) (B + 100) := I_pitch hI hgo
  have hOkD := hID.1
  exact g_iret hE hG.sw hr (Nat.le_of_ble_eq_true rfl) (Nat.le_of_ble_eq_true rfl) dL_pitch_24 ⟨fun k k1 k2 => by rw [gSw_o _ (by omega) (by omega), ew_1, gU_ne _ _ (by omega), hK9 k (by omega), gSw_o _ (by omega) (by omega)], _, h_2, Or.inr ⟨hgo, rfl, pk_uLs (k := 0), ca2, hca0, cW_cg hC2 hOkD (fun k h1 h2 => (gSw_o _ h2 (by omega)).trans (gU_at ew_1 (by omega)))⟩⟩
abbrev rm_L_drift : Room := { frames := 12, cells := 40, slots := 400, locals := 446 }
theorem nm_L_drift : gNm yL_drift 4 := ⟨by decide +kernel, by decide +kernel, by decide +kernel⟩
set_option maxHeartbeats 4000000 in
set_option maxRecDepth 100000 in
theorem c_L_drift (l : Launch) (hfl : l.stackTraces = false) (D : va_G) (tc : Nat → ClassId) (A : Nat → Prop) (w : gW) (ca : Nat → Nat) (d : gDt) (tk : Int64) (st : Nat → Int64) (x : Int32) (y : Int32) (oa : Nat) (of : Nat → Int64) (B : Nat) (hC : cW tc w ca d tk st) (hI : iOk d B) (hB : B ≤ 60000) (h7 : w 7 = some (oa, .inl (tc 1, 1, .inr (.inl of)))) : gMH l yL_drift cL_drift 5 (some .int) [(0, 10, 13, 21), (0, 10, 17, 13)] rm_L_drift D tc A [.ref (ca 0), .int x, .int y, .ref oa] w (fun v w' => gL w w' ∧ ∃ of' : Nat → Int64, w' 7 = some (oa, .inl (tc 1, 1, .inr (.inl of'))) ∧ ((m_go (ga_drift d x y) (gb_drift d x y) (gc_drift d x y) = 0 ∧ v = some (.int (m_la (ga_drift d x y) (gb_drift d x y) (gc_drift d x y))) ∧ cW tc w' ca d tk st) ∨ (¬ m_go (ga_drift d x y) (gb_drift d x y) (gc_drift d x y) = 0 ∧ v = some (.int 0) ∧ of' 0 = (d 5 x.toNatClampNeg).toInt64 ∧ ∃ ca' : Nat → Nat, ca' 0 = ca 0 ∧ cW tc w' ca' (sL (gD d 5 (upd (d 5) x.toNatClampNeg y)) 0) tk st))) (fun _ => False) := by
  refine gMH_of (by decide +kernel) (Nat.le_of_ble_eq_true rfl) ?_
  intro p e s m args below meth c ls Q hQ hE hG hr htab hl
  have hx := hE.1
  have hb := hE.2.1
  have hl : lv_has ls 5 [(0, .ref (ca 0)), (1, .int x), (2, .int y), (3, .ref oa)] := hl
  have hG := hG.sw
  obtain ⟨hOk, hF, hT, hpO, hrO, hj⟩ := id hI
  have hC0 : cW tc (gSw w) ca d tk st := cW_cg hC hOk (fun k h1 h2 => gSw_o w h2 (by omega))
  have z0 := hC0.1.1
  have z8 : gSw w 2000 = some (oa, .inl (tc 1, 1, .inr (.inl of))) := h7
  refine lv_aload_n hx hb dL_drift_0 rfl (lv_at hl 3 rfl) ?_
  refine lv_iconst (v := 0) hx hb dL_drift_1 (by decide) ?_
  refine lv_aload_n hx hb dL_drift_2 rfl (lv_at hl 0 rfl) ?_
  refine lv_iload_n hx hb dL_drift_3 rfl (lv_at hl 1 rfl) ?_
  refine lv_iload_n hx hb dL_drift_4 rfl (lv_at hl 2 rfl) ?_
  refine g_callV (rest := [.int 0, .ref oa]) (As := [.int x, .int y]) hE hG hl.1 (c_X5_drift l hfl D tc A (gSw w) ca d tk st x y hC0 hOk) z0 rfl mw3_32 mw3_33 mw3_34 mw1_1 mw3_35 rfl nm_X5_drift ⟨⟨Nat.le_of_ble_eq_true rfl, Nat.le_of_ble_eq_true rfl⟩, Nat.le_of_ble_eq_true rfl, Nat.le_of_ble_eq_true rfl⟩ rfl rfl (Nat.le_of_ble_eq_true rfl) dL_drift_5 (fun E ce q9 H1 locs1 hthr hG1 hcell hvm hcl => ?_) ?_
  · skip
    rcases hthr with ⟨ha, hE9⟩ | ⟨ha, hb9, hE9⟩ | ⟨ha, hb9, hc9, hE9⟩
    · skip
      refine g_catch1 hE htab rfl (by decide) mw1_227 (List.mem_of_getElem? (i := 2) rfl) hE9 hcell hvm hcl ?_
      have hG := hG1.sw
      rw [gSw_sw] at hG
      refine lv_astore (lv' := [(4, .ref q9), (0, .ref (ca 0)), (1, .int x), (2, .int y), (3, .ref oa)]) hx hb dL_drift_13 hl (by decide) rfl (fun ls hl => ?_)
      refine lv_iconst (v := 1) hx hb dL_drift_15 (by decide) ?_
      subst hQ
      exact g_iret hE hG hr (Nat.le_of_ble_eq_true rfl) (Nat.le_of_ble_eq_true rfl) dL_drift_16 ⟨fun _ _ _ => rfl, of, h7, Or.inl ⟨by unfold m_go; rw [if_pos ha], by unfold m_la; rw [if_pos ha], hC⟩⟩
    · skip
      refine g_catch2 hE htab (by decide) mw1_227 (List.mem_of_getElem? (i := 1) rfl) rfl (by decide) mw1_134 (List.mem_of_getElem? (i := 0) rfl) hE9 hcell hvm hcl ?_
      have hG := hG1.sw
      rw [gSw_sw] at hG
      refine lv_astore (lv' := [(4, .ref q9), (0, .ref (ca 0)), (1, .int x), (2, .int y), (3, .ref oa)]) hx hb dL_drift_17 hl (by decide) rfl (fun ls hl => ?_)
      refine lv_iconst (v := 2) hx hb dL_drift_19 (by decide) ?_
      subst hQ
      exact g_iret hE hG hr (Nat.le_of_ble_eq_true rfl) (Nat.le_of_ble_eq_true rfl) dL_drift_20 ⟨fun _ _ _ => rfl, of, h7, Or.inl ⟨by unfold m_go; rw [if_neg ha, if_pos hb9], by unfold m_la; rw [if_neg ha, if_pos hb9], hC⟩⟩
    · skip
      exact absurd hc9 one_nz
  intro v9 w9 H locs h9 hG
  obtain ⟨hgo, e9, ⟨ca2, hca0, hC2⟩, hK9⟩ := h9
  rw [e9]; clear e9
  have z9 : w9 2000 = some (oa, .inl (tc 1, 1, .inr (.inl of))) := (hK9 2000 (by omega)).trans z8
  show W p l e _ s m args below meth c H locs _ _ _ (F0 m 8 ls [.int (d 5 x.toNatClampNeg), .int 0, .ref oa])
  refine lv_i2l (v := (d 5 x.toNatClampNeg).toInt64) hx hb dL_drift_8 rfl ?_
  refine g_last hE hG z9 (vp_in_nI (n := 0) (N := 1) (by decide) (by decide)) dL_drift_9 (fun H locs w_1 ew_1 hG => ?_)
  have h_2 : w_1 2000 = some (oa, .inl (tc 1, 1, .inr (.inl (vp_updL of (0 : Int32).toNatClampNeg ((d 5 x.toNatClampNeg).toInt64))))) := gU_s ew_1
  refine lv_goto (tgt := 21) hx hb dL_drift_10 (by decide) ?_
  refine lv_iconst (v := 0) hx hb dL_drift_21 (by decide) ?_
  subst hQ
  have hID : iOk (sL (gD d 5 (upd (d 5) x.toNatClampNeg y)) 0) (B + 100) := I_drift hI hgo
  have hOkD := hID.1
  exact g_iret hE hG.sw hr (Nat.le_of_ble_eq_true rfl) (Nat.le_of_ble_eq_true rfl) dL_drift_22 ⟨fun k k1 k2 => by rw [gSw_o _ (by omega) (by omega), ew_1, gU_ne _ _ (by omega), hK9 k (by omega), gSw_o _ (by omega) (by omega)], _, h_2, Or.inr ⟨hgo, rfl, pk_uLs (k := 0), ca2, hca0, cW_cg hC2 hOkD (fun k h1 h2 => (gSw_o _ h2 (by omega)).trans (gU_at ew_1 (by omega)))⟩⟩
abbrev rm_L_years : Room := { frames := 12, cells := 40, slots := 400, locals := 446 }
theorem nm_L_years : gNm yL_years 3 := ⟨by decide +kernel, by decide +kernel, by decide +kernel⟩
set_option maxHeartbeats 4000000 in
set_option maxRecDepth 100000 in
theorem c_L_years (l : Launch) (hfl : l.stackTraces = false) (D : va_G) (tc : Nat → ClassId) (A : Nat → Prop) (w : gW) (ca : Nat → Nat) (d : gDt) (tk : Int64) (st : Nat → Int64) (x : Int32) (oa : Nat) (of : Nat → Int64) (B : Nat) (hC : cW tc w ca d tk st) (hI : iOk d B) (hB : B ≤ 60000) (h7 : w 7 = some (oa, .inl (tc 1, 1, .inr (.inl of)))) : gMH l yL_years cL_years 4 (some .int) [(0, 9, 12, 13), (0, 9, 15, 15)] rm_L_years D tc A [.ref (ca 0), .int x, .ref oa] w (fun v w' => gL w w' ∧ ∃ of' : Nat → Int64, w' 7 = some (oa, .inl (tc 1, 1, .inr (.inl of'))) ∧ ((m_go (ga_years d x) (gb_years d x) (gc_years d x) = 0 ∧ v = some (.int (m_la (ga_years d x) (gb_years d x) (gc_years d x))) ∧ cW tc w' ca d tk st) ∨ (¬ m_go (ga_years d x) (gb_years d x) (gc_years d x) = 0 ∧ v = some (.int 0) ∧ of' 0 = (d 9 12 + x).toInt64 ∧ ∃ ca' : Nat → Nat, ca' 0 = ca 0 ∧ cW tc w' ca' (sL (gD (gD d 4 (m_yrs d x.toNatClampNeg)) 9 (upd (d 9) 12 (d 9 12 + x))) 0) tk st))) (fun _ => False) := by
  refine gMH_of (by decide +kernel) (Nat.le_of_ble_eq_true rfl) ?_
  intro p e s m args below meth c ls Q hQ hE hG hr htab hl
  have hx := hE.1
  have hb := hE.2.1
  have hl : lv_has ls 4 [(0, .ref (ca 0)), (1, .int x), (2, .ref oa)] := hl
  have hG := hG.sw
  obtain ⟨hOk, hF, hT, hpO, hrO, hj⟩ := id hI
  have hC0 : cW tc (gSw w) ca d tk st := cW_cg hC hOk (fun k h1 h2 => gSw_o w h2 (by omega))
  have z0 := hC0.1.1
  have z8 : gSw w 2000 = some (oa, .inl (tc 1, 1, .inr (.inl of))) := h7
  refine lv_aload_n hx hb dL_years_0 rfl (lv_at hl 2 rfl) ?_
  refine lv_iconst (v := 0) hx hb dL_years_1 (by decide) ?_
  refine lv_aload_n hx hb dL_years_2 rfl (lv_at hl 0 rfl) ?_
  refine lv_iload_n hx hb dL_years_3 rfl (lv_at hl 1 rfl) ?_
  refine g_callV (rest := [.int 0, .ref oa]) (As := [.int x]) hE hG hl.1 (c_X5_years l hfl D tc A (gSw w) ca d tk st x hC0 hOk) z0 rfl mw3_40 mw3_41 mw3_42 mw1_1 mw3_43 rfl nm_X5_years ⟨⟨Nat.le_of_ble_eq_true rfl, Nat.le_of_ble_eq_true rfl⟩, Nat.le_of_ble_eq_true rfl, Nat.le_of_ble_eq_true rfl⟩ rfl rfl (Nat.le_of_ble_eq_true rfl) dL_years_4 (fun E ce q9 H1 locs1 hthr hG1 hcell hvm hcl => ?_) ?_
  · skip
    rcases hthr with ⟨ha, hE9⟩ | ⟨ha, hb9, hE9⟩ | ⟨ha, hb9, hc9, hE9⟩
    · skip
      refine g_catch1 hE htab rfl (by decide) mw1_134 (List.mem_of_getElem? (i := 0) rfl) hE9 hcell hvm hcl ?_
      have hG := hG1.sw
      rw [gSw_sw] at hG
      refine lv_astore_n (lv' := [(3, .ref q9), (0, .ref (ca 0)), (1, .int x), (2, .ref oa)]) hx hb dL_years_12 rfl hl (by decide) rfl (fun ls hl => ?_)
      refine lv_iconst (v := 1) hx hb dL_years_13 (by decide) ?_
      subst hQ
      exact g_iret hE hG hr (Nat.le_of_ble_eq_true rfl) (Nat.le_of_ble_eq_true rfl) dL_years_14 ⟨fun _ _ _ => rfl, of, h7, Or.inl ⟨by unfold m_go; rw [if_pos ha], by unfold m_la; rw [if_pos ha], hC⟩⟩
    · skip
      refine g_catch2 hE htab (by decide) mw1_134 (List.mem_of_getElem? (i := 2) rfl) rfl (by decide) mw1_135 (List.mem_of_getElem? (i := 1) rfl) hE9 hcell hvm hcl ?_
      have hG := hG1.sw
      rw [gSw_sw] at hG
      refine lv_astore_n (lv' := [(3, .ref q9), (0, .ref (ca 0)), (1, .int x), (2, .ref oa)]) hx hb dL_years_15 rfl hl (by decide) rfl (fun ls hl => ?_)
      refine lv_iconst (v := 2) hx hb dL_years_16 (by decide) ?_
      subst hQ
      exact g_iret hE hG hr (Nat.le_of_ble_eq_true rfl) (Nat.le_of_ble_eq_true rfl) dL_years_17 ⟨fun _ _ _ => rfl, of, h7, Or.inl ⟨by unfold m_go; rw [if_neg ha, if_pos hb9], by unfold m_la; rw [if_neg ha, if_pos hb9], hC⟩⟩
    · skip
      exact absurd hc9 one_nz
  intro v9 w9 H locs h9 hG
  obtain ⟨hgo, e9, ⟨ca2, hca0, hC2⟩, hK9⟩ := h9
  rw [e9]; clear e9
  have z9 : w9 2000 = some (oa, .inl (tc 1, 1, .inr (.inl of))) := (hK9 2000 (by omega)).trans z8
  show W p l e _ s m args below meth c H locs _ _ _ (F0 m 7 ls [.int (d 9 12 + x), .int 0, .ref oa])
  refine lv_i2l (v := (d 9 12 + x).toInt64) hx hb dL_years_7 rfl ?_
  refine g_last hE hG z9 (vp_in_nI (n := 0) (N := 1) (by decide) (by decide)) dL_years_8 (fun H locs w_1 ew_1 hG => ?_)
  have h_2 : w_1 2000 = some (oa, .inl (tc 1, 1, .inr (.inl (vp_updL of (0 : Int32).toNatClampNeg ((d 9 12 + x).toInt64))))) := gU_s ew_1
  refine lv_goto (tgt := 18) hx hb dL_years_9 (by decide) ?_
  refine lv_iconst (v := 0) hx hb dL_years_18 (by decide) ?_
  subst hQ
  have hID : iOk (sL (gD (gD d 4 (m_yrs d x.toNatClampNeg)) 9 (upd (d 9) 12 (d 9 12 + x))) 0) (B + 100) := I_years hI
  have hOkD := hID.1
  exact g_iret hE hG.sw hr (Nat.le_of_ble_eq_true rfl) (Nat.le_of_ble_eq_true rfl) dL_years_19 ⟨fun k k1 k2 => by rw [gSw_o _ (by omega) (by omega), ew_1, gU_ne _ _ (by omega), hK9 k (by omega), gSw_o _ (by omega) (by omega)], _, h_2, Or.inr ⟨hgo, rfl, pk_uLs (k := 0), ca2, hca0, cW_cg hC2 hOkD (fun k h1 h2 => (gSw_o _ h2 (by omega)).trans (gU_at ew_1 (by omega)))⟩⟩
abbrev rm_L_tune : Room := { frames := 12, cells := 40, slots := 400, locals := 446 }
theorem nm_L_tune : gNm yL_tune 4 := ⟨by decide +kernel, by decide +kernel, by decide +kernel⟩
set_option maxHeartbeats 4000000 in
set_option maxRecDepth 100000 in
theorem c_L_tune (l : Launch) (hfl : l.stackTraces = false) (D : va_G) (tc : Nat → ClassId) (A : Nat → Prop) (w : gW) (ca : Nat → Nat) (d : gDt) (tk : Int64) (st : Nat → Int64) (x : Int32) (y : Int32) (oa : Nat) (of : Nat → Int64) (B : Nat) (hC : cW tc w ca d tk st) (hI : iOk d B) (hB : B ≤ 60000) (h7 : w 7 = some (oa, .inl (tc 1, 1, .inr (.inl of)))) : gMH l yL_tune cL_tune 5 (some .int) [(0, 10, 13, 21), (0, 10, 17, 13)] rm_L_tune D tc A [.ref (ca 0), .int x, .int y, .ref oa] w (fun v w' => gL w w' ∧ ∃ of' : Nat → Int64, w' 7 = some (oa, .inl (tc 1, 1, .inr (.inl of'))) ∧ ((m_go (ga_tune d x y) (gb_tune d x y) (gc_tune d x y) = 0 ∧ v = some (.int (m_la (ga_tune d x y) (gb_tune d x y) (gc_tune d x y))) ∧ cW tc w' ca d tk st) ∨ (¬ m_go (ga_tune d x y) (gb_tune d x y) (gc_tune d x y) = 0 ∧ v = some (.int 0) ∧ of' 0 = ((m_tunD d x y) (8 * x + 1).toNatClampNeg).toInt64 ∧ ∃ ca' : Nat → Nat, ca' 0 = ca 0 ∧ cW tc w' ca' (sL (gD d 4 (m_tunD d x y)) 0) tk st))) (fun _ => False) := by
  refine gMH_of (by decide +kernel) (Nat.le_of_ble_eq_true rfl) ?_
  intro p e s m args below meth c ls Q hQ hE hG hr htab hl
  have hx := hE.1
  have hb := hE.2.1
  have hl : lv_has ls 5 [(0, .ref (ca 0)), (1, .int x), (2, .int y), (3, .ref oa)] := hl
  have hG := hG.sw
  obtain ⟨hOk, hF, hT, hpO, hrO, hj⟩ := id hI
  have hC0 : cW tc (gSw w) ca d tk st := cW_cg hC hOk (fun k h1 h2 => gSw_o w h2 (by omega))
  have z0 := hC0.1.1
  have z8 : gSw w 2000 = some (oa, .inl (tc 1, 1, .inr (.inl of))) := h7
  refine lv_aload_n hx hb dL_tune_0 rfl (lv_at hl 3 rfl) ?_
  refine lv_iconst (v := 0) hx hb dL_tune_1 (by decide) ?_
  refine lv_aload_n hx hb dL_tune_2 rfl (lv_at hl 0 rfl) ?_
  refine lv_iload_n hx hb dL_tune_3 rfl (lv_at hl 1 rfl) ?_
  refine lv_iload_n hx hb dL_tune_4 rfl (lv_at hl 2 rfl) ?_
  refine g_callV (rest := [.int 0, .ref oa]) (As := [.int x, .int y]) hE hG hl.1 (c_X5_tune l hfl D tc A (gSw w) ca d tk st x y hC0 hOk hpO) z0 rfl mw3_54 mw3_55 mw3_56 mw1_1 mw3_57 rfl nm_X5_tune ⟨⟨Nat.le_of_ble_eq_true rfl, Nat.le_of_ble_eq_true rfl⟩, Nat.le_of_ble_eq_true rfl, Nat.le_of_ble_eq_true rfl⟩ rfl rfl (Nat.le_of_ble_eq_true rfl) dL_tune_5 (fun E ce q9 H1 locs1 hthr hG1 hcell hvm hcl => ?_) ?_
  · skip
    rcases hthr with ⟨ha, hE9⟩ | ⟨ha, hb9, hE9⟩ | ⟨ha, hb9, hc9, hE9⟩
    · skip
      refine g_catch1 hE htab rfl (by decide) mw1_227 (List.mem_of_getElem? (i := 2) rfl) hE9 hcell hvm hcl ?_
      have hG := hG1.sw
      rw [gSw_sw] at hG
      refine lv_astore (lv' := [(4, .ref q9), (0, .ref (ca 0)), (1, .int x), (2, .int y), (3, .ref oa)]) hx hb dL_tune_13 hl (by decide) rfl (fun ls hl => ?_)
      refine lv_iconst (v := 1) hx hb dL_tune_15 (by decide) ?_
      subst hQ
      exact g_iret hE hG hr (Nat.le_of_ble_eq_true rfl) (Nat.le_of_ble_eq_true rfl) dL_tune_16 ⟨fun _ _ _ => rfl, of, h7, Or.inl ⟨by unfold m_go; rw [if_pos ha], by unfold m_la; rw [if_pos ha], hC⟩⟩
    · skip
      refine g_catch2 hE htab (by decide) mw1_227 (List.mem_of_getElem? (i := 1) rfl) rfl (by decide) mw1_134 (List.mem_of_getElem? (i := 0) rfl) hE9 hcell hvm hcl ?_
      have hG := hG1.sw
      rw [gSw_sw] at hG
      refine lv_astore (lv' := [(4, .ref q9), (0, .ref (ca 0)), (1, .int x), (2, .int y), (3, .ref oa)]) hx hb dL_tune_17 hl (by decide) rfl (fun ls hl => ?_)
      refine lv_iconst (v := 2) hx hb dL_tune_19 (by decide) ?_
      subst hQ
      exact g_iret hE hG hr (Nat.le_of_ble_eq_true rfl) (Nat.le_of_ble_eq_true rfl) dL_tune_20 ⟨fun _ _ _ => rfl, of, h7, Or.inl ⟨by unfold m_go; rw [if_neg ha, if_pos hb9], by unfold m_la; rw [if_neg ha, if_pos hb9], hC⟩⟩
    · skip
      exact absurd hc9 one_nz
  intro v9 w9 H locs h9 hG
  obtain ⟨hgo, e9, ⟨ca2, hca0, hC2⟩, hK9⟩ := h9
  rw [e9]; clear e9
  have z9 : w9 2000 = some (oa, .inl (tc 1, 1, .inr (.inl of))) := (hK9 2000 (by omega)).trans z8
  show W p l e _ s m args below meth c H locs _ _ _ (F0 m 8 ls [.int ((m_tunD d x y) (8 * x + 1).toNatClampNeg), .int 0, .ref oa])
  refine lv_i2l (v := ((m_tunD d x y) (8 * x + 1).toNatClampNeg).toInt64) hx hb dL_tune_8 rfl ?_
  refine g_last hE hG z9 (vp_in_nI (n := 0) (N := 1) (by decide) (by decide)) dL_tune_9 (fun H locs w_1 ew_1 hG => ?_)
  have h_2 : w_1 2000 = some (oa, .inl (tc 1, 1, .inr (.inl (vp_updL of (0 : Int32).toNatClampNeg (((m_tunD d x y) (8 * x + 1).toNatClampNeg).toInt64))))) := gU_s ew_1
  refine lv_goto (tgt := 21) hx hb dL_tune_10 (by decide) ?_
  refine lv_iconst (v := 0) hx hb dL_tune_21 (by decide) ?_
  subst hQ
  have hID : iOk (sL (gD d 4 (m_tunD d x y)) 0) (B + 100) := I_tune hI
  have hOkD := hID.1
  exact g_iret hE hG.sw hr (Nat.le_of_ble_eq_true rfl) (Nat.le_of_ble_eq_true rfl) dL_tune_22 ⟨fun k k1 k2 => by rw [gSw_o _ (by omega) (by omega), ew_1, gU_ne _ _ (by omega), hK9 k (by omega), gSw_o _ (by omega) (by omega)], _, h_2, Or.inr ⟨hgo, rfl, pk_uLs (k := 0), ca2, hca0, cW_cg hC2 hOkD (fun k h1 h2 => (gSw_o _ h2 (by omega)).trans (gU_at ew_1 (by omega)))⟩⟩
abbrev rm_L_beat : Room := { frames := 12, cells := 40, slots := 400, locals := 446 }
theorem nm_L_beat : gNm yL_beat 5 := ⟨by decide +kernel, by decide +kernel, by decide +kernel⟩
set_option maxHeartbeats 4000000 in
set_option maxRecDepth 100000 in
theorem c_L_beat (l : Launch) (hfl : l.stackTraces = false) (D : va_G) (tc : Nat → ClassId) (A : Nat → Prop) (w : gW) (ca : Nat → Nat) (d : gDt) (tk : Int64) (st : Nat → Int64) (x : Int32) (y : Int32) (z : Int32) (oa : Nat) (of : Nat → Int64) (B : Nat) (hC : cW tc w ca d tk st) (hI : iOk d B) (hB : B ≤ 60000) (h7 : w 7 = some (oa, .inl (tc 1, 1, .inr (.inl of)))) : gMH l yL_beat cL_beat 6 (some .int) [(0, 12, 15, 21)] rm_L_beat D tc A [.ref (ca 0), .int x, .int y, .int z, .ref oa] w (fun v w' => gL w w' ∧ ∃ of' : Nat → Int64, w' 7 = some (oa, .inl (tc 1, 1, .inr (.inl of'))) ∧ ((m_go (ga_beat d x y z) (gb_beat d x y z) (gc_beat d x y z) = 0 ∧ v = some (.int (m_la (ga_beat d x y z) (gb_beat d x y z) (gc_beat d x y z))) ∧ cW tc w' ca d tk st) ∨ (¬ m_go (ga_beat d x y z) (gb_beat d x y z) (gc_beat d x y z) = 0 ∧ v = some (.int 0) ∧ of' 0 = (m_beat d x y z).toInt64 ∧ ∃ ca' : Nat → Nat, ca' 0 = ca 0 ∧ cW tc w' ca' (sL d 0) tk st))) (fun _ => False) := by
  refine gMH_of (by decide +kernel) (Nat.le_of_ble_eq_true rfl) ?_
  intro p e s m args below meth c ls Q hQ hE hG hr htab hl
  have hx := hE.1
  have hb := hE.2.1
  have hl : lv_has ls 6 [(0, .ref (ca 0)), (1, .int x), (2, .int y), (3, .int z), (4, .ref oa)] := hl
  have hG := hG.sw
  obtain ⟨hOk, hF, hT, hpO, hrO, hj⟩ := id hI
  have hC0 : cW tc (gSw w) ca d tk st := cW_cg hC hOk (fun k h1 h2 => gSw_o w h2 (by omega))
  have z0 := hC0.1.1
  have z8 : gSw w 2000 = some (oa, .inl (tc 1, 1, .inr (.inl of))) := h7
  refine lv_aload hx hb dL_beat_0 (lv_at hl 4 rfl) ?_
  refine lv_iconst (v := 0) hx hb dL_beat_2 (by decide) ?_
  refine lv_aload_n hx hb dL_beat_3 rfl (lv_at hl 0 rfl) ?_
  refine lv_iload_n hx hb dL_beat_4 rfl (lv_at hl 1 rfl) ?_
  refine lv_iload_n hx hb dL_beat_5 rfl (lv_at hl 2 rfl) ?_
  refine lv_iload_n hx hb dL_beat_6 rfl (lv_at hl 3 rfl) ?_
  refine g_callV (rest := [.int 0, .ref oa]) (As := [.int x, .int y, .int z]) hE hG hl.1 (c_X5_beat l hfl D tc A (gSw w) ca d tk st x y z hC0 hOk) z0 rfl mw3_75 mw3_76 mw3_77 mw1_1 mw3_78 rfl nm_X5_beat ⟨⟨Nat.le_of_ble_eq_true rfl, Nat.le_of_ble_eq_true rfl⟩, Nat.le_of_ble_eq_true rfl, Nat.le_of_ble_eq_true rfl⟩ rfl rfl (Nat.le_of_ble_eq_true rfl) dL_beat_7 (fun E ce q9 H1 locs1 hthr hG1 hcell hvm hcl => ?_) ?_
  · skip
    rcases hthr with ⟨ha, hE9⟩ | ⟨ha, hb9, hE9⟩ | ⟨ha, hb9, hc9, hE9⟩
    · skip
      refine g_catch1 hE htab rfl (by decide) mw1_227 (List.mem_of_getElem? (i := 2) rfl) hE9 hcell hvm hcl ?_
      have hG := hG1.sw
      rw [gSw_sw] at hG
      refine lv_astore (lv' := [(5, .ref q9), (0, .ref (ca 0)), (1, .int x), (2, .int y), (3, .int z), (4, .ref oa)]) hx hb dL_beat_15 hl (by decide) rfl (fun ls hl => ?_)
      refine lv_iconst (v := 1) hx hb dL_beat_17 (by decide) ?_
      subst hQ
      exact g_iret hE hG hr (Nat.le_of_ble_eq_true rfl) (Nat.le_of_ble_eq_true rfl) dL_beat_18 ⟨fun _ _ _ => rfl, of, h7, Or.inl ⟨by unfold m_go; rw [if_pos ha], by unfold m_la; rw [if_pos ha], hC⟩⟩
    · skip
      exact absurd hb9 one_nz
    · skip
      exact absurd hc9 one_nz
  intro v9 w9 H locs h9 hG
  obtain ⟨hgo, e9, ⟨ca2, hca0, hC2⟩, hK9⟩ := h9
  rw [e9]; clear e9
  have z9 : w9 2000 = some (oa, .inl (tc 1, 1, .inr (.inl of))) := (hK9 2000 (by omega)).trans z8
  show W p l e _ s m args below meth c H locs _ _ _ (F0 m 10 ls [.int (m_beat d x y z), .int 0, .ref oa])
  refine lv_i2l (v := (m_beat d x y z).toInt64) hx hb dL_beat_10 rfl ?_
  refine g_last hE hG z9 (vp_in_nI (n := 0) (N := 1) (by decide) (by decide)) dL_beat_11 (fun H locs w_1 ew_1 hG => ?_)
  have h_2 : w_1 2000 = some (oa, .inl (tc 1, 1, .inr (.inl (vp_updL of (0 : Int32).toNatClampNeg ((m_beat d x y z).toInt64))))) := gU_s ew_1
  refine lv_goto (tgt := 19) hx hb dL_beat_12 (by decide) ?_
  refine lv_iconst (v := 0) hx hb dL_beat_19 (by decide) ?_
  subst hQ
  have hID : iOk (sL d 0) (B + 100) := iOk_l hI 0
  have hOkD := hID.1
  exact g_iret hE hG.sw hr (Nat.le_of_ble_eq_true rfl) (Nat.le_of_ble_eq_true rfl) dL_beat_20 ⟨fun k k1 k2 => by rw [gSw_o _ (by omega) (by omega), ew_1, gU_ne _ _ (by omega), hK9 k (by omega), gSw_o _ (by omega) (by omega)], _, h_2, Or.inr ⟨hgo, rfl, pk_uLs (k := 0), ca2, hca0, cW_cg hC2 hOkD (fun k h1 h2 => (gSw_o _ h2 (by omega)).trans (gU_at ew_1 (by omega)))⟩⟩
abbrev rm_L_player : Room := { frames := 12, cells := 40, slots := 400, locals := 446 }
theorem nm_L_player : gNm yL_player 3 := ⟨by decide +kernel, by decide +kernel, by decide +kernel⟩
set_option maxHeartbeats 4000000 in
set_option maxRecDepth 100000 in
theorem c_L_player (l : Launch) (hfl : l.stackTraces = false) (D : va_G) (tc : Nat → ClassId) (A : Nat → Prop) (w : gW) (ca : Nat → Nat) (d : gDt) (tk : Int64) (st : Nat → Int64) (x : Int32) (oa : Nat) (of : Nat → Int64) (B : Nat) (hC : cW tc w ca d tk st) (hI : iOk d B) (hB : B ≤ 60000) (h7 : w 7 = some (oa, .inl (tc 1, 1, .inr (.inl of)))) : gMH l yL_player cL_player 4 (some .int) [(0, 9, 12, 13), (0, 9, 15, 15)] rm_L_player D tc A [.ref (ca 0), .int x, .ref oa] w (fun v w' => gL w w' ∧ ∃ of' : Nat → Int64, w' 7 = some (oa, .inl (tc 1, 1, .inr (.inl of'))) ∧ ((m_go (ga_player d x) (gb_player d x) (gc_player d x) = 0 ∧ v = some (.int (m_la (ga_player d x) (gb_player d x) (gc_player d x))) ∧ cW tc w' ca d tk st) ∨ (¬ m_go (ga_player d x) (gb_player d x) (gc_player d x) = 0 ∧ v = some (.int 0) ∧ of' 0 = (d 9 13 + 1 - 1).toInt64 ∧ ∃ ca' : Nat → Nat, ca' 0 = ca 0 ∧ cW tc w' ca' (sL (gD (gD d 6 (upd (d 6) (d 9 13).toNatClampNeg x)) 9 (upd (d 9) 13 (d 9 13 + 1))) 0) tk st))) (fun _ => False) := by
  refine gMH_of (by decide +kernel) (Nat.le_of_ble_eq_true rfl) ?_
  intro p e s m args below meth c ls Q hQ hE hG hr htab hl
  have hx := hE.1
  have hb := hE.2.1
  have hl : lv_has ls 4 [(0, .ref (ca 0)), (1, .int x), (2, .ref oa)] := hl
  have hG := hG.sw
  obtain ⟨hOk, hF, hT, hpO, hrO, hj⟩ := id hI
  have hC0 : cW tc (gSw w) ca d tk st := cW_cg hC hOk (fun k h1 h2 => gSw_o w h2 (by omega))
  have z0 := hC0.1.1
  have z8 : gSw w 2000 = some (oa, .inl (tc 1, 1, .inr (.inl of))) := h7
  refine lv_aload_n hx hb dL_player_0 rfl (lv_at hl 2 rfl) ?_
  refine lv_iconst (v := 0) hx hb dL_player_1 (by decide) ?_
  refine lv_aload_n hx hb dL_player_2 rfl (lv_at hl 0 rfl) ?_
  refine lv_iload_n hx hb dL_player_3 rfl (lv_at hl 1 rfl) ?_
  refine g_callV (rest := [.int 0, .ref oa]) (As := [.int x]) hE hG hl.1 (c_X5_player l hfl D tc A (gSw w) ca d tk st x hC0 hOk) z0 rfl mw3_82 mw3_83 mw3_84 mw1_1 mw3_85 rfl nm_X5_player ⟨⟨Nat.le_of_ble_eq_true rfl, Nat.le_of_ble_eq_true rfl⟩, Nat.le_of_ble_eq_true rfl, Nat.le_of_ble_eq_true rfl⟩ rfl rfl (Nat.le_of_ble_eq_true rfl) dL_player_4 (fun E ce q9 H1 locs1 hthr hG1 hcell hvm hcl => ?_) ?_
  · skip
    rcases hthr with ⟨ha, hE9⟩ | ⟨ha, hb9, hE9⟩ | ⟨ha, hb9, hc9, hE9⟩
    · skip
      refine g_catch1 hE htab rfl (by decide) mw1_134 (List.mem_of_getElem? (i := 0) rfl) hE9 hcell hvm hcl ?_
      have hG := hG1.sw
      rw [gSw_sw] at hG
      refine lv_astore_n (lv' := [(3, .ref q9), (0, .ref (ca 0)), (1, .int x), (2, .ref oa)]) hx hb dL_player_12 rfl hl (by decide) rfl (fun ls hl => ?_)
      refine lv_iconst (v := 1) hx hb dL_player_13 (by decide) ?_
      subst hQ
      exact g_iret hE hG hr (Nat.le_of_ble_eq_true rfl) (Nat.le_of_ble_eq_true rfl) dL_player_14 ⟨fun _ _ _ => rfl, of, h7, Or.inl ⟨by unfold m_go; rw [if_pos ha], by unfold m_la; rw [if_pos ha], hC⟩⟩
    · skip
      refine g_catch2 hE htab (by decide) mw1_134 (List.mem_of_getElem? (i := 2) rfl) rfl (by decide) mw1_135 (List.mem_of_getElem? (i := 1) rfl) hE9 hcell hvm hcl ?_
      have hG := hG1.sw
      rw [gSw_sw] at hG
      refine lv_astore_n (lv' := [(3, .ref q9), (0, .ref (ca 0)), (1, .int x), (2, .ref oa)]) hx hb dL_player_15 rfl hl (by decide) rfl (fun ls hl => ?_)
      refine lv_iconst (v := 2) hx hb dL_player_16 (by decide) ?_
      subst hQ
      exact g_iret hE hG hr (Nat.le_of_ble_eq_true rfl) (Nat.le_of_ble_eq_true rfl) dL_player_17 ⟨fun _ _ _ => rfl, of, h7, Or.inl ⟨by unfold m_go; rw [if_neg ha, if_pos hb9], by unfold m_la; rw [if_neg ha, if_pos hb9], hC⟩⟩
    · skip
      exact absurd hc9 one_nz
  intro v9 w9 H locs h9 hG
  obtain ⟨hgo, e9, ⟨ca2, hca0, hC2⟩, hK9⟩ := h9
  rw [e9]; clear e9
  have z9 : w9 2000 = some (oa, .inl (tc 1, 1, .inr (.inl of))) := (hK9 2000 (by omega)).trans z8
  show W p l e _ s m args below meth c H locs _ _ _ (F0 m 7 ls [.int (d 9 13 + 1 - 1), .int 0, .ref oa])
  refine lv_i2l (v := (d 9 13 + 1 - 1).toInt64) hx hb dL_player_7 rfl ?_
  refine g_last hE hG z9 (vp_in_nI (n := 0) (N := 1) (by decide) (by decide)) dL_player_8 (fun H locs w_1 ew_1 hG => ?_)
  have h_2 : w_1 2000 = some (oa, .inl (tc 1, 1, .inr (.inl (vp_updL of (0 : Int32).toNatClampNeg ((d 9 13 + 1 - 1).toInt64))))) := gU_s ew_1
  refine lv_goto (tgt := 18) hx hb dL_player_9 (by decide) ?_
  refine lv_iconst (v := 0) hx hb dL_player_18 (by decide) ?_
  subst hQ
  have hID : iOk (sL (gD (gD d 6 (upd (d 6) (d 9 13).toNatClampNeg x)) 9 (upd (d 9) 13 (d 9 13 + 1))) 0) (B + 100) := I_player hI hgo
  have hOkD := hID.1
  exact g_iret hE hG.sw hr (Nat.le_of_ble_eq_true rfl) (Nat.le_of_ble_eq_true rfl) dL_player_19 ⟨fun k k1 k2 => by rw [gSw_o _ (by omega) (by omega), ew_1, gU_ne _ _ (by omega), hK9 k (by omega), gSw_o _ (by omega) (by omega)], _, h_2, Or.inr ⟨hgo, rfl, pk_uLs (k := 0), ca2, hca0, cW_cg hC2 hOkD (fun k h1 h2 => (gSw_o _ h2 (by omega)).trans (gU_at ew_1 (by omega)))⟩⟩
abbrev rm_L_learn : Room := { frames := 12, cells := 40, slots := 400, locals := 446 }
theorem nm_L_learn : gNm yL_learn 5 := ⟨by decide +kernel, by decide +kernel, by decide +kernel⟩
set_option maxHeartbeats 4000000 in
set_option maxRecDepth 100000 in
theorem c_L_learn (l : Launch) (hfl : l.stackTraces = false) (D : va_G) (tc : Nat → ClassId) (A : Nat → Prop) (w : gW) (ca : Nat → Nat) (d : gDt) (tk : Int64) (st : Nat → Int64) (x : Int32) (y : Int32) (o : Int32) (oa : Nat) (of : Nat → Int64) (B : Nat) (hC : cW tc w ca d tk st) (hI : iOk d B) (hB : B ≤ 60000) (h7 : w 7 = some (oa, .inl (tc 1, 1, .inr (.inl of)))) : gMH l yL_learn cL_learn 6 (some .int) [(0, 12, 15, 21), (0, 12, 19, 13), (0, 12, 23, 15)] rm_L_learn D tc A [.ref (ca 0), .int x, .int y, .int o, .ref oa] w (fun v w' => gL w w' ∧ ∃ of' : Nat → Int64, w' 7 = some (oa, .inl (tc 1, 1, .inr (.inl of'))) ∧ ((m_go (ga_learn d x y o) (gb_learn d x y o) (gc_learn d x y o) = 0 ∧ v = some (.int (m_la (ga_learn d x y o) (gb_learn d x y o) (gc_learn d x y o))) ∧ cW tc w' ca d tk st) ∨ (¬ m_go (ga_learn d x y o) (gb_learn d x y o) (gc_learn d x y o) = 0 ∧ v = some (.int 0) ∧ of' 0 = (nI (m_knc (upd (d 7) (6 * x + y).toNatClampNeg 1) y.toNatClampNeg (nU d))).toInt64 ∧ ∃ ca' : Nat → Nat, ca' 0 = ca 0 ∧ cW tc w' ca' (sL (m_lrn d x y o) 0) tk st))) (fun _ => False) := by
  refine gMH_of (by decide +kernel) (Nat.le_of_ble_eq_true rfl) ?_
  intro p e s m args below meth c ls Q hQ hE hG hr htab hl
  have hx := hE.1
  have hb := hE.2.1
  have hl : lv_has ls 6 [(0, .ref (ca 0)), (1, .int x), (2, .int y), (3, .int o), (4, .ref oa)] := hl
  have hG := hG.sw
  obtain ⟨hOk, hF, hT, hpO, hrO, hj⟩ := id hI
  have hC0 : cW tc (gSw w) ca d tk st := cW_cg hC hOk (fun k h1 h2 => gSw_o w h2 (by omega))
  have z0 := hC0.1.1
  have z8 : gSw w 2000 = some (oa, .inl (tc 1, 1, .inr (.inl of))) := h7
  refine lv_aload hx hb dL_learn_0 (lv_at hl 4 rfl) ?_
  refine lv_iconst (v := 0) hx hb dL_learn_2 (by decide) ?_
  refine lv_aload_n hx hb dL_learn_3 rfl (lv_at hl 0 rfl) ?_
  refine lv_iload_n hx hb dL_learn_4 rfl (lv_at hl 1 rfl) ?_
  refine lv_iload_n hx hb dL_learn_5 rfl (lv_at hl 2 rfl) ?_
  refine lv_iload_n hx hb dL_learn_6 rfl (lv_at hl 3 rfl) ?_
  refine g_callV (rest := [.int 0, .ref oa]) (As := [.int x, .int y, .int o]) hE hG hl.1 (c_X5_learn l hfl D tc A (gSw w) ca d tk st x y o hC0 hOk) z0 rfl mw3_106 mw3_107 mw3_108 mw1_1 mw3_109 rfl nm_X5_learn ⟨⟨Nat.le_of_ble_eq_true rfl, Nat.le_of_ble_eq_true rfl⟩, Nat.le_of_ble_eq_true rfl, Nat.le_of_ble_eq_true rfl⟩ rfl rfl (Nat.le_of_ble_eq_true rfl) dL_learn_7 (fun E ce q9 H1 locs1 hthr hG1 hcell hvm hcl => ?_) ?_
  · skip
    rcases hthr with ⟨ha, hE9⟩ | ⟨ha, hb9, hE9⟩ | ⟨ha, hb9, hc9, hE9⟩
    · skip
      refine g_catch1 hE htab rfl (by decide) mw1_227 (List.mem_of_getElem? (i := 2) rfl) hE9 hcell hvm hcl ?_
      have hG := hG1.sw
      rw [gSw_sw] at hG
      refine lv_astore (lv' := [(5, .ref q9), (0, .ref (ca 0)), (1, .int x), (2, .int y), (3, .int o), (4, .ref oa)]) hx hb dL_learn_15 hl (by decide) rfl (fun ls hl => ?_)
      refine lv_iconst (v := 1) hx hb dL_learn_17 (by decide) ?_
      subst hQ
      exact g_iret hE hG hr (Nat.le_of_ble_eq_true rfl) (Nat.le_of_ble_eq_true rfl) dL_learn_18 ⟨fun _ _ _ => rfl, of, h7, Or.inl ⟨by unfold m_go; rw [if_pos ha], by unfold m_la; rw [if_pos ha], hC⟩⟩
    · skip
      refine g_catch2 hE htab (by decide) mw1_227 (List.mem_of_getElem? (i := 1) rfl) rfl (by decide) mw1_134 (List.mem_of_getElem? (i := 0) rfl) hE9 hcell hvm hcl ?_
      have hG := hG1.sw
      rw [gSw_sw] at hG
      refine lv_astore (lv' := [(5, .ref q9), (0, .ref (ca 0)), (1, .int x), (2, .int y), (3, .int o), (4, .ref oa)]) hx hb dL_learn_19 hl (by decide) rfl (fun ls hl => ?_)
      refine lv_iconst (v := 2) hx hb dL_learn_21 (by decide) ?_
      subst hQ
      exact g_iret hE hG hr (Nat.le_of_ble_eq_true rfl) (Nat.le_of_ble_eq_true rfl) dL_learn_22 ⟨fun _ _ _ => rfl, of, h7, Or.inl ⟨by unfold m_go; rw [if_neg ha, if_pos hb9], by unfold m_la; rw [if_neg ha, if_pos hb9], hC⟩⟩
    · skip
      refine g_catch3 hE htab (by decide) mw1_227 (List.mem_of_getElem? (i := 3) rfl) (by decide) mw1_134 (List.mem_of_getElem? (i := 2) rfl) rfl (by decide) mw1_135 (List.mem_of_getElem? (i := 1) rfl) hE9 hcell hvm hcl ?_
      have hG := hG1.sw
      rw [gSw_sw] at hG
      refine lv_astore (lv' := [(5, .ref q9), (0, .ref (ca 0)), (1, .int x), (2, .int y), (3, .int o), (4, .ref oa)]) hx hb dL_learn_23 hl (by decide) rfl (fun ls hl => ?_)
      refine lv_iconst (v := 3) hx hb dL_learn_25 (by decide) ?_
      subst hQ
      exact g_iret hE hG hr (Nat.le_of_ble_eq_true rfl) (Nat.le_of_ble_eq_true rfl) dL_learn_26 ⟨fun _ _ _ => rfl, of, h7, Or.inl ⟨by unfold m_go; rw [if_neg ha, if_neg hb9, if_pos hc9], by unfold m_la; rw [if_neg ha, if_neg hb9, if_pos hc9], hC⟩⟩
  intro v9 w9 H locs h9 hG
  obtain ⟨hgo, e9, ⟨ca2, hca0, hC2⟩, hK9⟩ := h9
  rw [e9]; clear e9
  have z9 : w9 2000 = some (oa, .inl (tc 1, 1, .inr (.inl of))) := (hK9 2000 (by omega)).trans z8
  show W p l e _ s m args below meth c H locs _ _ _ (F0 m 10 ls [.int (nI (m_knc (upd (d 7) (6 * x + y).toNatClampNeg 1) y.toNatClampNeg (nU d))), .int 0, .ref oa])
  refine lv_i2l (v := (nI (m_knc (upd (d 7) (6 * x + y).toNatClampNeg 1) y.toNatClampNeg (nU d))).toInt64) hx hb dL_learn_10 rfl ?_
  refine g_last hE hG z9 (vp_in_nI (n := 0) (N := 1) (by decide) (by decide)) dL_learn_11 (fun H locs w_1 ew_1 hG => ?_)
  have h_2 : w_1 2000 = some (oa, .inl (tc 1, 1, .inr (.inl (vp_updL of (0 : Int32).toNatClampNeg ((nI (m_knc (upd (d 7) (6 * x + y).toNatClampNeg 1) y.toNatClampNeg (nU d))).toInt64))))) := gU_s ew_1
  refine lv_goto (tgt := 27) hx hb dL_learn_12 (by decide) ?_
  refine lv_iconst (v := 0) hx hb dL_learn_27 (by decide) ?_
  subst hQ
  have hID : iOk (sL (m_lrn d x y o) 0) (B + 100) := I_learn hI
  have hOkD := hID.1
  exact g_iret hE hG.sw hr (Nat.le_of_ble_eq_true rfl) (Nat.le_of_ble_eq_true rfl) dL_learn_28 ⟨fun k k1 k2 => by rw [gSw_o _ (by omega) (by omega), ew_1, gU_ne _ _ (by omega), hK9 k (by omega), gSw_o _ (by omega) (by omega)], _, h_2, Or.inr ⟨hgo, rfl, pk_uLs (k := 0), ca2, hca0, cW_cg hC2 hOkD (fun k h1 h2 => (gSw_o _ h2 (by omega)).trans (gU_at ew_1 (by omega)))⟩⟩
abbrev rm_L_slip : Room := { frames := 12, cells := 40, slots := 400, locals := 446 }
theorem nm_L_slip : gNm yL_slip 6 := ⟨by decide +kernel, by decide +kernel, by decide +kernel⟩
set_option maxHeartbeats 4000000 in
set_option maxRecDepth 100000 in
theorem c_L_slip (l : Launch) (hfl : l.stackTraces = false) (D : va_G) (tc : Nat → ClassId) (A : Nat → Prop) (w : gW) (ca : Nat → Nat) (d : gDt) (tk : Int64) (st : Nat → Int64) (x : Int32) (y : Int32) (z : Int32) (a : Int32) (oa : Nat) (of : Nat → Int64) (B : Nat) (hC : cW tc w ca d tk st) (hI : iOk d B) (hB : B ≤ 60000) (h7 : w 7 = some (oa, .inl (tc 1, 1, .inr (.inl of)))) : gMH l yL_slip cL_slip 7 (some .int) [(0, 14, 17, 21), (0, 14, 21, 13), (0, 14, 25, 15)] rm_L_slip D tc A [.ref (ca 0), .int x, .int y, .int z, .int a, .ref oa] w (fun v w' => gL w w' ∧ ∃ of' : Nat → Int64, w' 7 = some (oa, .inl (tc 1, 1, .inr (.inl of'))) ∧ ((m_go (ga_slip d x y z a) (gb_slip d x y z a) (gc_slip d x y z a) = 0 ∧ v = some (.int (m_la (ga_slip d x y z a) (gb_slip d x y z a) (gc_slip d x y z a))) ∧ cW tc w' ca d tk st) ∨ (¬ m_go (ga_slip d x y z a) (gb_slip d x y z a) (gc_slip d x y z a) = 0 ∧ v = some (.int 0) ∧ of' 0 = (d 8 (65 * (6 * x + y) + z).toNatClampNeg).toInt64 ∧ ∃ ca' : Nat → Nat, ca' 0 = ca 0 ∧ cW tc w' ca' (sL (gD d 8 (upd (d 8) (65 * (6 * x + y) + z).toNatClampNeg a)) 0) tk st))) (fun _ => False) := by
  refine gMH_of (by decide +kernel) (Nat.le_of_ble_eq_true rfl) ?_
  intro p e s m args below meth c ls Q hQ hE hG hr htab hl
  have hx := hE.1
  have hb := hE.2.1
  have hl : lv_has ls 7 [(0, .ref (ca 0)), (1, .int x), (2, .int y), (3, .int z), (4, .int a), (5, .ref oa)] := hl
  have hG := hG.sw
  obtain ⟨hOk, hF, hT, hpO, hrO, hj⟩ := id hI
  have hC0 : cW tc (gSw w) ca d tk st := cW_cg hC hOk (fun k h1 h2 => gSw_o w h2 (by omega))
  have z0 := hC0.1.1
  have z8 : gSw w 2000 = some (oa, .inl (tc 1, 1, .inr (.inl of))) := h7
  refine lv_aload hx hb dL_slip_0 (lv_at hl 5 rfl) ?_
  refine lv_iconst (v := 0) hx hb dL_slip_2 (by decide) ?_
  refine lv_aload_n hx hb dL_slip_3 rfl (lv_at hl 0 rfl) ?_
  refine lv_iload_n hx hb dL_slip_4 rfl (lv_at hl 1 rfl) ?_
  refine lv_iload_n hx hb dL_slip_5 rfl (lv_at hl 2 rfl) ?_
  refine lv_iload_n hx hb dL_slip_6 rfl (lv_at hl 3 rfl) ?_
  refine lv_iload hx hb dL_slip_7 (lv_at hl 4 rfl) ?_
  refine g_callV (rest := [.int 0, .ref oa]) (As := [.int x, .int y, .int z, .int a]) hE hG hl.1 (c_X5_slip l hfl D tc A (gSw w) ca d tk st x y z a hC0 hOk) z0 rfl mw3_144 mw3_145 mw3_146 mw1_1 mw3_147 rfl nm_X5_slip ⟨⟨Nat.le_of_ble_eq_true rfl, Nat.le_of_ble_eq_true rfl⟩, Nat.le_of_ble_eq_true rfl, Nat.le_of_ble_eq_true rfl⟩ rfl rfl (Nat.le_of_ble_eq_true rfl) dL_slip_9 (fun E ce q9 H1 locs1 hthr hG1 hcell hvm hcl => ?_) ?_
  · skip
    rcases hthr with ⟨ha, hE9⟩ | ⟨ha, hb9, hE9⟩ | ⟨ha, hb9, hc9, hE9⟩
    · skip
      refine g_catch1 hE htab rfl (by decide) mw1_227 (List.mem_of_getElem? (i := 2) rfl) hE9 hcell hvm hcl ?_
      have hG := hG1.sw
      rw [gSw_sw] at hG
      refine lv_astore (lv' := [(6, .ref q9), (0, .ref (ca 0)), (1, .int x), (2, .int y), (3, .int z), (4, .int a), (5, .ref oa)]) hx hb dL_slip_17 hl (by decide) rfl (fun ls hl => ?_)
      refine lv_iconst (v := 1) hx hb dL_slip_19 (by decide) ?_
      subst hQ
      exact g_iret hE hG hr (Nat.le_of_ble_eq_true rfl) (Nat.le_of_ble_eq_true rfl) dL_slip_20 ⟨fun _ _ _ => rfl, of, h7, Or.inl ⟨by unfold m_go; rw [if_pos ha], by unfold m_la; rw [if_pos ha], hC⟩⟩
    · skip
      refine g_catch2 hE htab (by decide) mw1_227 (List.mem_of_getElem? (i := 1) rfl) rfl (by decide) mw1_134 (List.mem_of_getElem? (i := 0) rfl) hE9 hcell hvm hcl ?_
      have hG := hG1.sw
      rw [gSw_sw] at hG
      refine lv_astore (lv' := [(6, .ref q9), (0, .ref (ca 0)), (1, .int x), (2, .int y), (3, .int z), (4, .int a), (5, .ref oa)]) hx hb dL_slip_21 hl (by decide) rfl (fun ls hl => ?_)
      refine lv_iconst (v := 2) hx hb dL_slip_23 (by decide) ?_
      subst hQ
      exact g_iret hE hG hr (Nat.le_of_ble_eq_true rfl) (Nat.le_of_ble_eq_true rfl) dL_slip_24 ⟨fun _ _ _ => rfl, of, h7, Or.inl ⟨by unfold m_go; rw [if_neg ha, if_pos hb9], by unfold m_la; rw [if_neg ha, if_pos hb9], hC⟩⟩
    · skip
      refine g_catch3 hE htab (by decide) mw1_227 (List.mem_of_getElem? (i := 3) rfl) (by decide) mw1_134 (List.mem_of_getElem? (i := 2) rfl) rfl (by decide) mw1_135 (List.mem_of_getElem? (i := 1) rfl) hE9 hcell hvm hcl ?_
      have hG := hG1.sw
      rw [gSw_sw] at hG
      refine lv_astore (lv' := [(6, .ref q9), (0, .ref (ca 0)), (1, .int x), (2, .int y), (3, .int z), (4, .int a), (5, .ref oa)]) hx hb dL_slip_25 hl (by decide) rfl (fun ls hl => ?_)
      refine lv_iconst (v := 3) hx hb dL_slip_27 (by decide) ?_
      subst hQ
      exact g_iret hE hG hr (Nat.le_of_ble_eq_true rfl) (Nat.le_of_ble_eq_true rfl) dL_slip_28 ⟨fun _ _ _ => rfl, of, h7, Or.inl ⟨by unfold m_go; rw [if_neg ha, if_neg hb9, if_pos hc9], by unfold m_la; rw [if_neg ha, if_neg hb9, if_pos hc9], hC⟩⟩
  intro v9 w9 H locs h9 hG
  obtain ⟨hgo, e9, ⟨ca2, hca0, hC2⟩, hK9⟩ := h9
  rw [e9]; clear e9
  have z9 : w9 2000 = some (oa, .inl (tc 1, 1, .inr (.inl of))) := (hK9 2000 (by omega)).trans z8
  show W p l e _ s m args below meth c H locs _ _ _ (F0 m 12 ls [.int (d 8 (65 * (6 * x + y) + z).toNatClampNeg), .int 0, .ref oa])
  refine lv_i2l (v := (d 8 (65 * (6 * x + y) + z).toNatClampNeg).toInt64) hx hb dL_slip_12 rfl ?_
  refine g_last hE hG z9 (vp_in_nI (n := 0) (N := 1) (by decide) (by decide)) dL_slip_13 (fun H locs w_1 ew_1 hG => ?_)
  have h_2 : w_1 2000 = some (oa, .inl (tc 1, 1, .inr (.inl (vp_updL of (0 : Int32).toNatClampNeg ((d 8 (65 * (6 * x + y) + z).toNatClampNeg).toInt64))))) := gU_s ew_1
  refine lv_goto (tgt := 29) hx hb dL_slip_14 (by decide) ?_
  refine lv_iconst (v := 0) hx hb dL_slip_29 (by decide) ?_
  subst hQ
  have hID : iOk (sL (gD d 8 (upd (d 8) (65 * (6 * x + y) + z).toNatClampNeg a)) 0) (B + 100) := I_slip hI
  have hOkD := hID.1
  exact g_iret hE hG.sw hr (Nat.le_of_ble_eq_true rfl) (Nat.le_of_ble_eq_true rfl) dL_slip_30 ⟨fun k k1 k2 => by rw [gSw_o _ (by omega) (by omega), ew_1, gU_ne _ _ (by omega), hK9 k (by omega), gSw_o _ (by omega) (by omega)], _, h_2, Or.inr ⟨hgo, rfl, pk_uLs (k := 0), ca2, hca0, cW_cg hC2 hOkD (fun k h1 h2 => (gSw_o _ h2 (by omega)).trans (gU_at ew_1 (by omega)))⟩⟩
abbrev rm_L_unlike : Room := { frames := 12, cells := 40, slots := 400, locals := 446 }
theorem nm_L_unlike : gNm yL_unlike 5 := ⟨by decide +kernel, by decide +kernel, by decide +kernel⟩
set_option maxHeartbeats 4000000 in
set_option maxRecDepth 100000 in
theorem c_L_unlike (l : Launch) (hfl : l.stackTraces = false) (D : va_G) (tc : Nat → ClassId) (A : Nat → Prop) (w : gW) (ca : Nat → Nat) (d : gDt) (tk : Int64) (st : Nat → Int64) (x : Int32) (o : Int32) (y : Int32) (oa : Nat) (of : Nat → Int64) (B : Nat) (hC : cW tc w ca d tk st) (hI : iOk d B) (hB : B ≤ 60000) (h7 : w 7 = some (oa, .inl (tc 1, 1, .inr (.inl of)))) : gMH l yL_unlike cL_unlike 6 (some .int) [(0, 12, 15, 21)] rm_L_unlike D tc A [.ref (ca 0), .int x, .int o, .int y, .ref oa] w (fun v w' => gL w w' ∧ ∃ of' : Nat → Int64, w' 7 = some (oa, .inl (tc 1, 1, .inr (.inl of'))) ∧ ((m_go (ga_unlike d x o y) (gb_unlike d x o y) (gc_unlike d x o y) = 0 ∧ v = some (.int (m_la (ga_unlike d x o y) (gb_unlike d x o y) (gc_unlike d x o y))) ∧ cW tc w' ca d tk st) ∨ (¬ m_go (ga_unlike d x o y) (gb_unlike d x o y) (gc_unlike d x o y) = 0 ∧ v = some (.int 0) ∧ of' 0 = (m_unlike d x o y).toInt64 ∧ ∃ ca' : Nat → Nat, ca' 0 = ca 0 ∧ cW tc w' ca' (sL d 0) tk st))) (fun _ => False) := by
  refine gMH_of (by decide +kernel) (Nat.le_of_ble_eq_true rfl) ?_
  intro p e s m args below meth c ls Q hQ hE hG hr htab hl
  have hx := hE.1
  have hb := hE.2.1
  have hl : lv_has ls 6 [(0, .ref (ca 0)), (1, .int x), (2, .int o), (3, .int y), (4, .ref oa)] := hl
  have hG := hG.sw
  obtain ⟨hOk, hF, hT, hpO, hrO, hj⟩ := id hI
  have hC0 : cW tc (gSw w) ca d tk st := cW_cg hC hOk (fun k h1 h2 => gSw_o w h2 (by omega))
  have z0 := hC0.1.1
  have z8 : gSw w 2000 = some (oa, .inl (tc 1, 1, .inr (.inl of))) := h7
  refine lv_aload hx hb dL_unlike_0 (lv_at hl 4 rfl) ?_
  refine lv_iconst (v := 0) hx hb dL_unlike_2 (by decide) ?_
  refine lv_aload_n hx hb dL_unlike_3 rfl (lv_at hl 0 rfl) ?_
  refine lv_iload_n hx hb dL_unlike_4 rfl (lv_at hl 1 rfl) ?_
  refine lv_iload_n hx hb dL_unlike_5 rfl (lv_at hl 2 rfl) ?_
  refine lv_iload_n hx hb dL_unlike_6 rfl (lv_at hl 3 rfl) ?_
  refine g_callV (rest := [.int 0, .ref oa]) (As := [.int x, .int o, .int y]) hE hG hl.1 (c_X5_unlike l hfl D tc A (gSw w) ca d tk st x o y hC0 hOk) z0 rfl mw3_152 mw3_153 mw3_154 mw1_1 mw3_155 rfl nm_X5_unlike ⟨⟨Nat.le_of_ble_eq_true rfl, Nat.le_of_ble_eq_true rfl⟩, Nat.le_of_ble_eq_true rfl, Nat.le_of_ble_eq_true rfl⟩ rfl rfl (Nat.le_of_ble_eq_true rfl) dL_unlike_7 (fun E ce q9 H1 locs1 hthr hG1 hcell hvm hcl => ?_) ?_
  · skip
    rcases hthr with ⟨ha, hE9⟩ | ⟨ha, hb9, hE9⟩ | ⟨ha, hb9, hc9, hE9⟩
    · skip
      refine g_catch1 hE htab rfl (by decide) mw1_227 (List.mem_of_getElem? (i := 2) rfl) hE9 hcell hvm hcl ?_
      have hG := hG1.sw
      rw [gSw_sw] at hG
      refine lv_astore (lv' := [(5, .ref q9), (0, .ref (ca 0)), (1, .int x), (2, .int o), (3, .int y), (4, .ref oa)]) hx hb dL_unlike_15 hl (by decide) rfl (fun ls hl => ?_)
      refine lv_iconst (v := 1) hx hb dL_unlike_17 (by decide) ?_
      subst hQ
      exact g_iret hE hG hr (Nat.le_of_ble_eq_true rfl) (Nat.le_of_ble_eq_true rfl) dL_unlike_18 ⟨fun _ _ _ => rfl, of, h7, Or.inl ⟨by unfold m_go; rw [if_pos ha], by unfold m_la; rw [if_pos ha], hC⟩⟩
    · skip
      exact absurd hb9 one_nz
    · skip
      exact absurd hc9 one_nz
  intro v9 w9 H locs h9 hG
  obtain ⟨hgo, e9, ⟨ca2, hca0, hC2⟩, hK9⟩ := h9
  rw [e9]; clear e9
  have z9 : w9 2000 = some (oa, .inl (tc 1, 1, .inr (.inl of))) := (hK9 2000 (by omega)).trans z8
  show W p l e _ s m args below meth c H locs _ _ _ (F0 m 10 ls [.int (m_unlike d x o y), .int 0, .ref oa])
  refine lv_i2l (v := (m_unlike d x o y).toInt64) hx hb dL_unlike_10 rfl ?_
  refine g_last hE hG z9 (vp_in_nI (n := 0) (N := 1) (by decide) (by decide)) dL_unlike_11 (fun H locs w_1 ew_1 hG => ?_)
  have h_2 : w_1 2000 = some (oa, .inl (tc 1, 1, .inr (.inl (vp_updL of (0 : Int32).toNatClampNeg ((m_unlike d x o y).toInt64))))) := gU_s ew_1
  refine lv_goto (tgt := 19) hx hb dL_unlike_12 (by decide) ?_
  refine lv_iconst (v := 0) hx hb dL_unlike_19 (by decide) ?_
  subst hQ
  have hID : iOk (sL d 0) (B + 100) := iOk_l hI 0
  have hOkD := hID.1
  exact g_iret hE hG.sw hr (Nat.le_of_ble_eq_true rfl) (Nat.le_of_ble_eq_true rfl) dL_unlike_20 ⟨fun k k1 k2 => by rw [gSw_o _ (by omega) (by omega), ew_1, gU_ne _ _ (by omega), hK9 k (by omega), gSw_o _ (by omega) (by omega)], _, h_2, Or.inr ⟨hgo, rfl, pk_uLs (k := 0), ca2, hca0, cW_cg hC2 hOkD (fun k h1 h2 => (gSw_o _ h2 (by omega)).trans (gU_at ew_1 (by omega)))⟩⟩
abbrev rm_L_covered : Room := { frames := 12, cells := 40, slots := 400, locals := 446 }
theorem nm_L_covered : gNm yL_covered 3 := ⟨by decide +kernel, by decide +kernel, by decide +kernel⟩
set_option maxHeartbeats 4000000 in
set_option maxRecDepth 100000 in
theorem c_L_covered (l : Launch) (hfl : l.stackTraces = false) (D : va_G) (tc : Nat → ClassId) (A : Nat → Prop) (w : gW) (ca : Nat → Nat) (d : gDt) (tk : Int64) (st : Nat → Int64) (x : Int32) (oa : Nat) (of : Nat → Int64) (B : Nat) (hC : cW tc w ca d tk st) (hI : iOk d B) (hB : B ≤ 60000) (h7 : w 7 = some (oa, .inl (tc 1, 1, .inr (.inl of)))) : gMH l yL_covered cL_covered 4 (some .int) [(0, 9, 12, 21)] rm_L_covered D tc A [.ref (ca 0), .int x, .ref oa] w (fun v w' => gL w w' ∧ ∃ of' : Nat → Int64, w' 7 = some (oa, .inl (tc 1, 1, .inr (.inl of'))) ∧ ((m_go (ga_covered d x) (gb_covered d x) (gc_covered d x) = 0 ∧ v = some (.int (m_la (ga_covered d x) (gb_covered d x) (gc_covered d x))) ∧ cW tc w' ca d tk st) ∨ (¬ m_go (ga_covered d x) (gb_covered d x) (gc_covered d x) = 0 ∧ v = some (.int 0) ∧ of' 0 = (m_most (m_cv d x.toNatClampNeg (nU d)) 16).toInt64 ∧ ∃ ca' : Nat → Nat, ca' 0 = ca 0 ∧ cW tc w' ca' (sL d 0) tk st))) (fun _ => False) := by
  refine gMH_of (by decide +kernel) (Nat.le_of_ble_eq_true rfl) ?_
  intro p e s m args below meth c ls Q hQ hE hG hr htab hl
  have hx := hE.1
  have hb := hE.2.1
  have hl : lv_has ls 4 [(0, .ref (ca 0)), (1, .int x), (2, .ref oa)] := hl
  have hG := hG.sw
  obtain ⟨hOk, hF, hT, hpO, hrO, hj⟩ := id hI
  have hC0 : cW tc (gSw w) ca d tk st := cW_cg hC hOk (fun k h1 h2 => gSw_o w h2 (by omega))
  have z0 := hC0.1.1
  have z8 : gSw w 2000 = some (oa, .inl (tc 1, 1, .inr (.inl of))) := h7
  refine lv_aload_n hx hb dL_covered_0 rfl (lv_at hl 2 rfl) ?_
  refine lv_iconst (v := 0) hx hb dL_covered_1 (by decide) ?_
  refine lv_aload_n hx hb dL_covered_2 rfl (lv_at hl 0 rfl) ?_
  refine lv_iload_n hx hb dL_covered_3 rfl (lv_at hl 1 rfl) ?_
  refine g_callV (rest := [.int 0, .ref oa]) (As := [.int x]) hE hG hl.1 (c_X5_covered l hfl D tc A (gSw w) ca d tk st x hC0 hOk) z0 rfl mw3_163 mw3_164 mw3_165 mw1_1 mw3_166 rfl nm_X5_covered ⟨⟨Nat.le_of_ble_eq_true rfl, Nat.le_of_ble_eq_true rfl⟩, Nat.le_of_ble_eq_true rfl, Nat.le_of_ble_eq_true rfl⟩ rfl rfl (Nat.le_of_ble_eq_true rfl) dL_covered_4 (fun E ce q9 H1 locs1 hthr hG1 hcell hvm hcl => ?_) ?_
  · skip
    rcases hthr with ⟨ha, hE9⟩ | ⟨ha, hb9, hE9⟩ | ⟨ha, hb9, hc9, hE9⟩
    · skip
      refine g_catch1 hE htab rfl (by decide) mw1_227 (List.mem_of_getElem? (i := 2) rfl) hE9 hcell hvm hcl ?_
      have hG := hG1.sw
      rw [gSw_sw] at hG
      refine lv_astore_n (lv' := [(3, .ref q9), (0, .ref (ca 0)), (1, .int x), (2, .ref oa)]) hx hb dL_covered_12 rfl hl (by decide) rfl (fun ls hl => ?_)
      refine lv_iconst (v := 1) hx hb dL_covered_13 (by decide) ?_
      subst hQ
      exact g_iret hE hG hr (Nat.le_of_ble_eq_true rfl) (Nat.le_of_ble_eq_true rfl) dL_covered_14 ⟨fun _ _ _ => rfl, of, h7, Or.inl ⟨by unfold m_go; rw [if_pos ha], by unfold m_la; rw [if_pos ha], hC⟩⟩
    · skip
      exact absurd hb9 one_nz
    · skip
      exact absurd hc9 one_nz
  intro v9 w9 H locs h9 hG
  obtain ⟨hgo, e9, ⟨ca2, hca0, hC2⟩, hK9⟩ := h9
  rw [e9]; clear e9
  have z9 : w9 2000 = some (oa, .inl (tc 1, 1, .inr (.inl of))) := (hK9 2000 (by omega)).trans z8
  show W p l e _ s m args below meth c H locs _ _ _ (F0 m 7 ls [.int (m_most (m_cv d x.toNatClampNeg (nU d)) 16), .int 0, .ref oa])
  refine lv_i2l (v := (m_most (m_cv d x.toNatClampNeg (nU d)) 16).toInt64) hx hb dL_covered_7 rfl ?_
  refine g_last hE hG z9 (vp_in_nI (n := 0) (N := 1) (by decide) (by decide)) dL_covered_8 (fun H locs w_1 ew_1 hG => ?_)
  have h_2 : w_1 2000 = some (oa, .inl (tc 1, 1, .inr (.inl (vp_updL of (0 : Int32).toNatClampNeg ((m_most (m_cv d x.toNatClampNeg (nU d)) 16).toInt64))))) := gU_s ew_1
  refine lv_goto (tgt := 15) hx hb dL_covered_9 (by decide) ?_
  refine lv_iconst (v := 0) hx hb dL_covered_15 (by decide) ?_
  subst hQ
  have hID : iOk (sL d 0) (B + 100) := iOk_l hI 0
  have hOkD := hID.1
  exact g_iret hE hG.sw hr (Nat.le_of_ble_eq_true rfl) (Nat.le_of_ble_eq_true rfl) dL_covered_16 ⟨fun k k1 k2 => by rw [gSw_o _ (by omega) (by omega), ew_1, gU_ne _ _ (by omega), hK9 k (by omega), gSw_o _ (by omega) (by omega)], _, h_2, Or.inr ⟨hgo, rfl, pk_uLs (k := 0), ca2, hca0, cW_cg hC2 hOkD (fun k h1 h2 => (gSw_o _ h2 (by omega)).trans (gU_at ew_1 (by omega)))⟩⟩
