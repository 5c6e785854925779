/-! GongCycles: now, depth, begin, drum, beats -/
theorem in05 {x : Int32} (h0 : ¬ x = 0) (h1 : ¬ x = 1) (h2 : ¬ x = 2) (h3 : ¬ x = 3) (h4 : ¬ x = 4) (h5 : ¬ x = 5) : f_in x 0 5 = 0 := by
  by_cases h : f_in x 0 5 = 0
  · exact h
  · obtain ⟨a, b⟩ := f_in_ne h
    obtain ⟨i, hi, e⟩ := nI_cnt (n := 6) (by decide) a b
    rcases (show i = 0 ∨ i = 1 ∨ i = 2 ∨ i = 3 ∨ i = 4 ∨ i = 5 by omega) with e9 | e9 | e9 | e9 | e9 | e9
    · rw [e9] at e; exact absurd e h0
    · rw [e9] at e; exact absurd e h1
    · rw [e9] at e; exact absurd e h2
    · rw [e9] at e; exact absurd e h3
    · rw [e9] at e; exact absurd e h4
    · rw [e9] at e; exact absurd e h5
abbrev rm_X5_now : Room := { frames := 6, cells := 8, slots := 48, locals := 230 }
theorem nm_X5_now : gNm yX5_now 1 := ⟨by decide +kernel, by decide +kernel, by decide +kernel⟩
set_option maxHeartbeats 4000000 in
set_option maxRecDepth 100000 in
theorem c_X5_now (l : Launch) (hfl : l.stackTraces = false) (D : va_G) (tc : Nat → ClassId) (A : Nat → Prop) (w : gW) (ca : Nat → Nat) (d : gDt) (tk : Int64) (st : Nat → Int64) (x : Int32) (hC : cW tc w ca d tk st) (hOk : mOk d) : gM l yX5_now cX5_now 2 (some .int) rm_X5_now D tc A [.ref (ca 0), .int x] w (fun v w' => ¬ m_go (ga_now d x) (gb_now d x) (gc_now d x) = 0 ∧ v = some (.int (m_now d x)) ∧ (∃ ca' : Nat → Nat, ca' 0 = ca 0 ∧ cW tc w' ca' (sL d 0) tk st) ∧ gK w w') (c_thr gIA gIS gIS (ga_now d x) (gb_now d x) (gc_now d x)) := by
  refine gM_of (by decide +kernel) (Nat.le_of_ble_eq_true rfl) ?_
  intro p e s m args below meth c ls Q hQ hE hG hr hnt hnm hl
  have hx := hE.1
  have hb := hE.2.1
  have hl : lv_has ls 2 [(0, .ref (ca 0)), (1, .int x)] := hl
  obtain ⟨⟨z0, z1, z2, z5, z6⟩, ⟨cy, ge, sf, z3, z4, hsf, hce, hcy⟩, zP, zS, zU, zV, zN⟩ := id hC
  refine lv_iload_n hx hb dX5_now_0 rfl (lv_at hl 1 rfl) ?_
  by_cases c_1 : x = 0
  · skip
    refine lv_tableIn (off := 39) (tgt := 40) hx hb dX5_now_1 (by rw [c_1]; decide) (by rw [c_1]; decide) (by rw [c_1]; rfl) (by decide) ?_
    refine lv_aload_n hx hb dX5_now_40 rfl (lv_at hl 0 rfl) ?_
    refine g_get hE hG z0 rfl inG5 4 (by decide) mw1_105 rfl dX5_now_41 ?_
    refine g_getN hE hG z3 rfl inG4 2 (by decide) (List.mem_of_getElem? (i := 1) rfl) rfl dX5_now_44 ?_
    subst hQ
    exact g_iret hE hG hr (Nat.le_of_ble_eq_true rfl) (Nat.le_of_ble_eq_true rfl) dX5_now_47 ⟨m_go_i (by show ¬ f_in x 0 5 = 0; rw [c_1]; decide) one_nz one_nz, by unfold m_now; rw [if_pos c_1], ⟨ca, rfl, cW_l hC 0⟩, gK_rf w⟩
  by_cases c_2 : x = 1
  · skip
    refine lv_tableIn (off := 47) (tgt := 48) hx hb dX5_now_1 (by rw [c_2]; decide) (by rw [c_2]; decide) (by rw [c_2]; rfl) (by decide) ?_
    refine lv_aload_n hx hb dX5_now_48 rfl (lv_at hl 0 rfl) ?_
    refine g_get hE hG z0 rfl inG5 4 (by decide) mw1_105 rfl dX5_now_49 ?_
    refine g_getN hE hG z3 rfl inG4 3 (by decide) (List.mem_of_getElem? (i := 2) rfl) rfl dX5_now_52 ?_
    subst hQ
    exact g_iret hE hG hr (Nat.le_of_ble_eq_true rfl) (Nat.le_of_ble_eq_true rfl) dX5_now_55 ⟨m_go_i (by show ¬ f_in x 0 5 = 0; rw [c_2]; decide) one_nz one_nz, by unfold m_now; rw [if_neg c_1, if_pos c_2], ⟨ca, rfl, cW_l hC 0⟩, gK_rf w⟩
  by_cases c_3 : x = 2
  · skip
    refine lv_tableIn (off := 55) (tgt := 56) hx hb dX5_now_1 (by rw [c_3]; decide) (by rw [c_3]; decide) (by rw [c_3]; rfl) (by decide) ?_
    refine lv_aload_n hx hb dX5_now_56 rfl (lv_at hl 0 rfl) ?_
    refine g_get hE hG z0 rfl inG5 4 (by decide) mw1_105 rfl dX5_now_57 ?_
    refine g_getN hE hG z3 rfl inG4 4 (by decide) (List.mem_of_getElem? (i := 3) rfl) rfl dX5_now_60 ?_
    subst hQ
    exact g_iret hE hG hr (Nat.le_of_ble_eq_true rfl) (Nat.le_of_ble_eq_true rfl) dX5_now_63 ⟨m_go_i (by show ¬ f_in x 0 5 = 0; rw [c_3]; decide) one_nz one_nz, by unfold m_now; rw [if_neg c_1, if_neg c_2, if_pos c_3], ⟨ca, rfl, cW_l hC 0⟩, gK_rf w⟩
  by_cases c_4 : x = 3
  · skip
    refine lv_tableIn (off := 63) (tgt := 64) hx hb dX5_now_1 (by rw [c_4]; decide) (by rw [c_4]; decide) (by rw [c_4]; rfl) (by decide) ?_
    refine lv_aload_n hx hb dX5_now_64 rfl (lv_at hl 0 rfl) ?_
    refine g_get hE hG z0 rfl inG5 4 (by decide) mw1_105 rfl dX5_now_65 ?_
    refine g_getN hE hG z3 rfl inG4 5 (by decide) (List.mem_of_getElem? (i := 4) rfl) rfl dX5_now_68 ?_
    subst hQ
    exact g_iret hE hG hr (Nat.le_of_ble_eq_true rfl) (Nat.le_of_ble_eq_true rfl) dX5_now_71 ⟨m_go_i (by show ¬ f_in x 0 5 = 0; rw [c_4]; decide) one_nz one_nz, by unfold m_now; rw [if_neg c_1, if_neg c_2, if_neg c_3, if_pos c_4], ⟨ca, rfl, cW_l hC 0⟩, gK_rf w⟩
  by_cases c_5 : x = 4
  · skip
    refine lv_tableIn (off := 71) (tgt := 72) hx hb dX5_now_1 (by rw [c_5]; decide) (by rw [c_5]; decide) (by rw [c_5]; rfl) (by decide) ?_
    refine lv_aload_n hx hb dX5_now_72 rfl (lv_at hl 0 rfl) ?_
    refine g_get hE hG z0 rfl inG5 4 (by decide) mw1_105 rfl dX5_now_73 ?_
    refine g_getN hE hG z3 rfl inG4 7 (by decide) (List.mem_of_getElem? (i := 5) rfl) rfl dX5_now_76 ?_
    refine lv_if_eq (tgt := 86) hx hb dX5_now_79 (by decide) (fun c_6 => ?_) (fun c_6 => ?_)
    · skip
      refine lv_iconst (v := 0) hx hb dX5_now_86 (by decide) ?_
      subst hQ
      exact g_iret hE hG hr (Nat.le_of_ble_eq_true rfl) (Nat.le_of_ble_eq_true rfl) dX5_now_87 ⟨m_go_i (by show ¬ f_in x 0 5 = 0; rw [c_5]; decide) one_nz one_nz, by unfold m_now; rw [if_neg c_1, if_neg c_2, if_neg c_3, if_neg c_4, if_pos c_5, if_pos c_6], ⟨ca, rfl, cW_l hC 0⟩, gK_rf w⟩
    · skip
      refine lv_iconst (v := 1) hx hb dX5_now_82 (by decide) ?_
      refine lv_goto (tgt := 87) hx hb dX5_now_83 (by decide) ?_
      subst hQ
      exact g_iret hE hG hr (Nat.le_of_ble_eq_true rfl) (Nat.le_of_ble_eq_true rfl) dX5_now_87 ⟨m_go_i (by show ¬ f_in x 0 5 = 0; rw [c_5]; decide) one_nz one_nz, by unfold m_now; rw [if_neg c_1, if_neg c_2, if_neg c_3, if_neg c_4, if_pos c_5, if_neg c_6], ⟨ca, rfl, cW_l hC 0⟩, gK_rf w⟩
  by_cases c_7 : x = 5
  · skip
    refine lv_tableIn (off := 87) (tgt := 88) hx hb dX5_now_1 (by rw [c_7]; decide) (by rw [c_7]; decide) (by rw [c_7]; rfl) (by decide) ?_
    refine lv_aload_n hx hb dX5_now_88 rfl (lv_at hl 0 rfl) ?_
    refine g_get hE hG z0 rfl inG5 4 (by decide) mw1_105 rfl dX5_now_89 ?_
    refine g_getN hE hG z3 rfl inG4 0 (by decide) (List.mem_of_getElem? (i := 0) rfl) rfl dX5_now_92 ?_
    subst hQ
    exact g_iret hE hG hr (Nat.le_of_ble_eq_true rfl) (Nat.le_of_ble_eq_true rfl) dX5_now_95 ⟨m_go_i (by show ¬ f_in x 0 5 = 0; rw [c_7]; decide) one_nz one_nz, by unfold m_now; rw [if_neg c_1, if_neg c_2, if_neg c_3, if_neg c_4, if_neg c_5], ⟨ca, rfl, cW_l hC 0⟩, gK_rf w⟩
  refine lv_tableOut (tgt := 96) hx hb dX5_now_1 (i32_tab (fun n9 h1 h2 h3 => by rcases (show n9 = 0 ∨ n9 = 1 ∨ n9 = 2 ∨ n9 = 3 ∨ n9 = 4 ∨ n9 = 5 by omega) with rfl | rfl | rfl | rfl | rfl | rfl <;> first | exact c_1 (h3.trans (by decide)) | exact c_2 (h3.trans (by decide)) | exact c_3 (h3.trans (by decide)) | exact c_4 (h3.trans (by decide)) | exact c_5 (h3.trans (by decide)) | exact c_7 (h3.trans (by decide))) (by decide) (by decide)) (by decide) ?_
  subst hQ
  exact g_thr (E := gIA) hfl hE hG hl.1 hnt gTgIA (List.mem_of_getElem? (i := 9) rfl) dX5_now_96 dX5_now_99 dX5_now_100 dX5_now_102 dX5_now_105 (by refine ⟨?_, ?_, ?_, ?_, ?_, ?_⟩ <;> exact Nat.le_of_ble_eq_true rfl) rfl (Or.inl ⟨in05 c_1 c_2 c_3 c_4 c_5 c_7, rfl⟩)
theorem isForm_s {d : gDt} {i : Nat} (hOk : mOk d) (hi : i < nF d) : ¬ m_isForm d (nI i) = 0 := by
  unfold m_isForm
  have := hOk.1.1
  rw [hOk.2.1.1]
  refine f_in_ok (nI_pos (by omega)) ?_
  rw [Int32.lt_iff_toInt_lt, nI_prd (by omega), nI_toInt (by omega)]
  omega
theorem nI_not_le0 {b : Nat} (h1 : 1 ≤ b) (h2 : b < 2 ^ 30) : ¬ nI b ≤ 0 := by
  rw [Int32.le_iff_toInt_le, nI_toInt (by omega)]
  have e0 : (0 : Int32).toInt = 0 := by decide
  omega
abbrev rm_X5_depth : Room := { frames := 7, cells := 8, slots := 48, locals := 266 }
theorem nm_X5_depth : gNm yX5_depth 2 := ⟨by decide +kernel, by decide +kernel, by decide +kernel⟩
set_option maxHeartbeats 4000000 in
set_option maxRecDepth 100000 in
theorem c_X5_depth (l : Launch) (hfl : l.stackTraces = false) (D : va_G) (tc : Nat → ClassId) (A : Nat → Prop) (w : gW) (ca : Nat → Nat) (d : gDt) (tk : Int64) (st : Nat → Int64) (x : Int32) (y : Int32) (hC : cW tc w ca d tk st) (hOk : mOk d) : gM l yX5_depth cX5_depth 6 (some .int) rm_X5_depth D tc A [.ref (ca 0), .int x, .int y] w (fun v w' => ¬ m_go (ga_depth d x y) (gb_depth d x y) (gc_depth d x y) = 0 ∧ v = some (.int (m_depth d x y)) ∧ (∃ ca' : Nat → Nat, ca' 0 = ca 0 ∧ cW tc w' ca' (sL d 0) tk st) ∧ gK w w') (c_thr gIO gIS gIS (ga_depth d x y) (gb_depth d x y) (gc_depth d x y)) := by
  refine gM_of (by decide +kernel) (Nat.le_of_ble_eq_true rfl) ?_
  intro p e s m args below meth c ls Q hQ hE hG hr hnt hnm hl
  have hx := hE.1
  have hb := hE.2.1
  have hl : lv_has ls 6 [(0, .ref (ca 0)), (1, .int x), (2, .int y)] := hl
  obtain ⟨⟨z0, z1, z2, z5, z6⟩, ⟨cy, ge, sf, z3, z4, hsf, hce, hcy⟩, zP, zS, zU, zV, zN⟩ := id hC
  refine lv_aload_n hx hb dX5_depth_0 rfl (lv_at hl 0 rfl) ?_
  refine lv_iload_n hx hb dX5_depth_1 rfl (lv_at hl 1 rfl) ?_
  refine g_callV (rest := []) (As := [.int x]) hE hG hl.1 (c_X5_lengthOfForm l hfl D tc A w ca d tk st x hC hOk) z0 rfl mw2_0 mw2_2 mws_1 mw1_1 mw2_3 rfl nm_X5_lengthOfForm ⟨⟨Nat.le_of_ble_eq_true rfl, Nat.le_of_ble_eq_true rfl⟩, Nat.le_of_ble_eq_true rfl, Nat.le_of_ble_eq_true rfl⟩ rfl rfl (Nat.le_of_ble_eq_true rfl) dX5_depth_2 (by subst hQ; exact g_out hE hnt rfl (fun E h => Or.inl ⟨by unfold ga_depth; rw [if_pos h.1], h.2⟩) (Nat.le_of_ble_eq_true rfl) (Nat.le_of_ble_eq_true rfl)) ?_
  intro v9 w9 H locs h9 hG
  obtain ⟨e8, i_1, hi_1, hxi_1, e9⟩ := h9
  rw [e9]; clear e9
  rw [e8] at hG; clear e8
  show W p l e _ s m args below meth c H locs _ _ _ (F0 m 5 ls [.int (d 0 i_1)])
  subst hxi_1
  obtain ⟨hb1, hb2, hb3, hb4⟩ := gLen_n (hOk.2.2.1 i_1 hi_1)
  have b9 := hOk.1.1
  refine lv_istore_n (lv' := [(3, .int (d 0 i_1)), (0, .ref (ca 0)), (1, .int (nI i_1)), (2, .int y)]) hx hb dX5_depth_5 rfl hl (by decide) rfl (fun ls hl => ?_)
  refine lv_iload_n hx hb dX5_depth_6 rfl (lv_at hl 3 rfl) ?_
  refine lv_iconst (v := 1) hx hb dX5_depth_7 (by decide) ?_
  refine lv_icmp_lt (tgt := 16) hx hb dX5_depth_8 (by decide) (fun c_2 => ?_) (fun c_2 => ?_)
  · skip
    subst hQ
    exact g_thr (E := gIO) hfl hE hG hl.1 hnt gTgIO (List.mem_of_getElem? (i := 2) rfl) dX5_depth_16 dX5_depth_19 dX5_depth_20 dX5_depth_22 dX5_depth_25 (by refine ⟨?_, ?_, ?_, ?_, ?_, ?_⟩ <;> exact Nat.le_of_ble_eq_true rfl) rfl (Or.inl ⟨by unfold ga_depth; rw [if_neg (isForm_s hOk hi_1), nI_clamp (by omega), if_pos (rng_lo c_2)], rfl⟩)
  · skip
    refine lv_iload_n hx hb dX5_depth_11 rfl (lv_at hl 3 rfl) ?_
    refine lv_iload_n hx hb dX5_depth_12 rfl (lv_at hl 0 rfl) ?_
    refine lv_icmp_le (tgt := 26) hx hb dX5_depth_13 (by decide) (fun c_3 => ?_) (fun c_3 => ?_)
    · skip
      refine lv_iconst (v := 0) hx hb dX5_depth_26 (by decide) ?_
      refine lv_istore (lv' := [(4, .int 0), (3, .int (d 0 i_1)), (0, .ref (ca 0)), (1, .int (nI i_1)), (2, .int y)]) hx hb dX5_depth_27 hl (by decide) rfl (fun ls hl => ?_)
      refine lv_iload_n hx hb dX5_depth_29 rfl (lv_at hl 1 rfl) ?_
      refine lv_istore (lv' := [(5, .int (d 0 i_1)), (4, .int 0), (3, .int (d 0 i_1)), (0, .ref (ca 0)), (1, .int (nI i_1)), (2, .int y)]) hx hb dX5_depth_30 hl (by decide) rfl (fun ls hl => ?_)
      have hl : lv_has ls 6 [(5, .int (nI (d 0 i_1).toNatClampNeg)), (4, .int (nI 0)), (3, .int (d 0 i_1)), (0, .ref (ca 0)), (1, .int (nI i_1)), (2, .int y)] := by rw [← hb1]; exact hl
      have hloop_4 : ∀ (k : Nat) (b : Nat) (n9 : Nat) (H : Heap) (locs : List Loc) (ls : Array Slot), 1 ≤ b ∧ b < 2 ^ k ∧ b ≤ 64 → m_dp y k b n9 = m_dp y 7 (d 0 i_1).toNatClampNeg 0 → gS D A s.heap w H locs → lv_has ls 6 [(5, .int (nI b)), (4, .int (nI n9)), (3, .int (d 0 i_1)), (0, .ref (ca 0)), (1, .int (nI i_1)), (2, .int y)] → W p l e rm_X5_depth s m args below meth c H locs (0 + rm_X5_lengthOfForm.cells) (0 + rm_X5_lengthOfForm.slots) Q (F0 m 32 ls []) := by
        intro k
        induction k with
        | zero =>
          intro b n9 H locs ls hbb hres hG hl
          exact absurd hbb.2.1 (by have := hbb.1; simp; omega)
        | succ k ih =>
          intro b n9 H locs ls hbb hres hG hl
          refine lv_iload hx hb dX5_depth_32 (lv_at hl 0 rfl) ?_
          refine lv_if_le (tgt := 68) hx hb dX5_depth_34 (by decide) (fun c9 => absurd c9 (nI_not_le0 (by omega) (by omega))) (fun c9 => ?_)
          refine lv_iload_n hx hb dX5_depth_37 rfl (lv_at hl 5 rfl) ?_
          refine lv_iload hx hb dX5_depth_38 (lv_at hl 0 rfl) ?_
          refine lv_irem hx hb dX5_depth_40 (nI_ne0 (by omega) (by omega)) ?_
          refine lv_if_ne (tgt := 47) hx hb dX5_depth_41 (by decide) (fun c_5 => ?_) (fun c_5 => ?_)
          · skip
            refine lv_iload hx hb dX5_depth_47 (lv_at hl 0 rfl) ?_
            refine lv_iconst (v := 2) hx hb dX5_depth_49 (by decide) ?_
            refine lv_irem hx hb dX5_depth_50 (by decide) ?_
            refine lv_if_eq (tgt := 56) hx hb dX5_depth_51 (by decide) (fun c_6 => ?_) (fun c_6 => ?_)
            · skip
              refine lv_iinc (v := (nI (n9 + 1))) (lv' := [(4, .int (nI (n9 + 1))), (5, .int (nI b)), (3, .int (d 0 i_1)), (0, .ref (ca 0)), (1, .int (nI i_1)), (2, .int y)]) hx hb dX5_depth_56 hl (k := 1) rfl (nI_1 n9) (by decide) rfl (fun ls hl => ?_)
              refine lv_iload hx hb dX5_depth_59 (lv_at hl 1 rfl) ?_
              refine lv_iconst (v := 2) hx hb dX5_depth_61 (by decide) ?_
              refine lv_idiv hx hb dX5_depth_62 (by decide) ?_
              rw [show (nI b / 2) = nI (b / 2) from pk_div (d := 2) (by omega) (by decide) (by decide)]
              refine lv_istore (lv' := [(5, .int (nI (b / 2))), (4, .int (nI (n9 + 1))), (3, .int (d 0 i_1)), (0, .ref (ca 0)), (1, .int (nI i_1)), (2, .int y)]) hx hb dX5_depth_63 hl (by decide) rfl (fun ls hl => ?_)
              refine lv_goto (tgt := 32) hx hb dX5_depth_65 (by decide) ?_
              exact ih (b / 2) (n9 + 1) _ _ _ (by have h9 := m_even (by omega) c_6; have h8 : 2 ^ (k + 1) = 2 * 2 ^ k := (by rw [Nat.pow_succ, Nat.mul_comm]); omega) (by rw [← hres]; show _ = (if _ then _ else _); rw [if_neg c_5, if_pos c_6]) hG (lv_sub hl [0, 1, 2, 3, 4, 5] rfl)
            · skip
              refine lv_iconst (v := (-1)) hx hb dX5_depth_54 (by decide) ?_
              subst hQ
              exact g_iret hE hG hr (Nat.le_of_ble_eq_true rfl) (Nat.le_of_ble_eq_true rfl) dX5_depth_55 ⟨m_go_i (by unfold ga_depth; rw [if_neg (isForm_s hOk hi_1), nI_clamp (by omega), if_neg (f_in_ok c_2 (Int32.not_lt.mpr c_3))]; decide) one_nz one_nz, (by unfold m_depth; rw [nI_clamp (by omega), ← hres]; show _ = some (Value.int (if _ then _ else _)); rw [if_neg c_5, if_neg c_6]), ⟨ca, rfl, cW_l hC 0⟩, gK_rf w⟩
          · skip
            refine lv_iload hx hb dX5_depth_44 (lv_at hl 1 rfl) ?_
            subst hQ
            exact g_iret hE hG hr (Nat.le_of_ble_eq_true rfl) (Nat.le_of_ble_eq_true rfl) dX5_depth_46 ⟨m_go_i (by unfold ga_depth; rw [if_neg (isForm_s hOk hi_1), nI_clamp (by omega), if_neg (f_in_ok c_2 (Int32.not_lt.mpr c_3))]; decide) one_nz one_nz, (by unfold m_depth; rw [nI_clamp (by omega), ← hres]; show _ = some (Value.int (if _ then _ else _)); rw [if_pos c_5]), ⟨ca, rfl, cW_l hC 0⟩, gK_rf w⟩
      exact hloop_4 7 ((d 0 i_1).toNatClampNeg) 0 _ _ _ ⟨by omega, by omega, by omega⟩ rfl hG (lv_sub hl [0, 1, 2, 3, 4, 5] rfl)
    · skip
      subst hQ
      exact g_thr (E := gIO) hfl hE hG hl.1 hnt gTgIO (List.mem_of_getElem? (i := 2) rfl) dX5_depth_16 dX5_depth_19 dX5_depth_20 dX5_depth_22 dX5_depth_25 (by refine ⟨?_, ?_, ?_, ?_, ?_, ?_⟩ <;> exact Nat.le_of_ble_eq_true rfl) rfl (Or.inl ⟨by unfold ga_depth; rw [if_neg (isForm_s hOk hi_1), nI_clamp (by omega), if_pos (rng_hi (Int32.not_le.mp c_3))], rfl⟩)
abbrev rm_X5_begin : Room := { frames := 7, cells := 8, slots := 48, locals := 266 }
theorem nm_X5_begin : gNm yX5_begin 1 := ⟨by decide +kernel, by decide +kernel, by decide +kernel⟩
set_option maxHeartbeats 4000000 in
set_option maxRecDepth 100000 in
theorem c_X5_begin (l : Launch) (hfl : l.stackTraces = false) (D : va_G) (tc : Nat → ClassId) (A : Nat → Prop) (w : gW) (ca : Nat → Nat) (d : gDt) (tk : Int64) (st : Nat → Int64) (x : Int32) (hC : cW tc w ca d tk st) (hOk : mOk d) : gM l yX5_begin cX5_begin 3 (some .int) rm_X5_begin D tc A [.ref (ca 0), .int x] w (fun v w' => ¬ m_go (ga_begin d x) (gb_begin d x) (gc_begin d x) = 0 ∧ v = some (.int (d 9 10 + 1)) ∧ (∃ ca' : Nat → Nat, ca' 0 = ca 0 ∧ cW tc w' ca' (sL (gD d 9 (upd (upd (upd (upd (upd (upd (upd (upd (upd (d 9) 2 1) 3 x) 4 0) 5 20) 6 0) 7 0) 8 0) 9 0) 10 (d 9 10 + 1))) 0) tk st) ∧ gK w w') (c_thr gIO gIS gIS (ga_begin d x) (gb_begin d x) (gc_begin d x)) := by
  refine gM_of (by decide +kernel) (Nat.le_of_ble_eq_true rfl) ?_
  intro p e s m args below meth c ls Q hQ hE hG hr hnt hnm hl
  have hx := hE.1
  have hb := hE.2.1
  have hl : lv_has ls 3 [(0, .ref (ca 0)), (1, .int x)] := hl
  obtain ⟨⟨z0, z1, z2, z5, z6⟩, ⟨cy, ge, sf, z3, z4, hsf, hce, hcy⟩, zP, zS, zU, zV, zN⟩ := id hC
  refine lv_aload_n hx hb dX5_begin_0 rfl (lv_at hl 0 rfl) ?_
  refine lv_iload_n hx hb dX5_begin_1 rfl (lv_at hl 1 rfl) ?_
  refine g_callV (rest := []) (As := [.int x]) hE hG hl.1 (c_X5_pieceAt l hfl D tc A w ca d tk st x hC hOk) z0 rfl mw2_57 mw2_59 mws_2 mw1_1 mw2_60 rfl nm_X5_pieceAt ⟨⟨Nat.le_of_ble_eq_true rfl, Nat.le_of_ble_eq_true rfl⟩, Nat.le_of_ble_eq_true rfl, Nat.le_of_ble_eq_true rfl⟩ rfl rfl (Nat.le_of_ble_eq_true rfl) dX5_begin_2 (by subst hQ; exact g_out hE hnt rfl (fun E h => Or.inl h) (Nat.le_of_ble_eq_true rfl) (Nat.le_of_ble_eq_true rfl)) ?_
  intro v9 w9 H locs h9 hG
  obtain ⟨e8, i_1, hi_1, hxi_1, e9⟩ := h9
  rw [e9]; clear e9
  rw [e8] at hG; clear e8
  show W p l e _ s m args below meth c H locs _ _ _ (F0 m 5 ls [.ref (ca (10 + i_1))])
  subst hxi_1
  have b9 := hOk.1.2.1
  have b8 := (mOk_len hOk hi_1).2.2.1
  obtain ⟨q1, q2, qf, q3, q4⟩ := zP i_1 hi_1
  refine lv_astore_n (lv' := [(2, .ref (ca (10 + i_1))), (0, .ref (ca 0)), (1, .int (nI i_1))]) hx hb dX5_begin_5 rfl hl (by decide) rfl (fun ls hl => ?_)
  refine lv_aload_n hx hb dX5_begin_6 rfl (lv_at hl 1 rfl) ?_
  refine g_get hE hG z0 rfl inG5 4 (by decide) mw1_105 rfl dX5_begin_7 ?_
  refine g_getN hE hG z3 rfl inG4 7 (by decide) (List.mem_of_getElem? (i := 5) rfl) rfl dX5_begin_10 ?_
  refine lv_if_eq (tgt := 26) hx hb dX5_begin_13 (by decide) (fun c_2 => ?_) (fun c_2 => ?_)
  · skip
    refine lv_aload_n hx hb dX5_begin_26 rfl (lv_at hl 0 rfl) ?_
    refine g_getN hE hG q1 rfl inG2 1 (by decide) (List.mem_of_getElem? (i := 9) rfl) rfl dX5_begin_27 ?_
    refine lv_aload_n hx hb dX5_begin_30 rfl (lv_at hl 1 rfl) ?_
    refine g_get hE hG z0 rfl inG5 6 (by decide) mw1_107 rfl dX5_begin_31 ?_
    refine lv_ishr hx hb dX5_begin_34 ?_
    refine lv_iconst (v := 1) hx hb dX5_begin_35 (by decide) ?_
    refine lv_iand hx hb dX5_begin_36 ?_
    refine lv_if_eq (tgt := 50) hx hb dX5_begin_37 (by decide) (fun c_3 => ?_) (fun c_3 => ?_)
    · skip
      refine lv_aload_n hx hb dX5_begin_50 rfl (lv_at hl 1 rfl) ?_
      refine g_get hE hG z0 rfl inG5 4 (by decide) mw1_105 rfl dX5_begin_51 ?_
      refine lv_iload_n hx hb dX5_begin_54 rfl (lv_at hl 2 rfl) ?_
      refine lv_aload_n hx hb dX5_begin_55 rfl (lv_at hl 0 rfl) ?_
      refine g_getN hE hG q1 rfl inG2 0 (by decide) (List.mem_of_getElem? (i := 8) rfl) rfl dX5_begin_56 ?_
      refine g_callV (rest := [.int (nI i_1), .ref (ca 3)]) (As := []) hE hG hl.1 (c_X1_length l hfl D tc A w (20 + i_1) (30 + i_1) (ca (20 + i_1)) (ca (30 + i_1)) (lenN d i_1) qf q2 q3 ) q2 rfl mw2_115 mw2_116 mw2_117 mw1_11 mw2_118 rfl nm_X1_length ⟨⟨Nat.le_of_ble_eq_true rfl, Nat.le_of_ble_eq_true rfl⟩, Nat.le_of_ble_eq_true rfl, Nat.le_of_ble_eq_true rfl⟩ rfl rfl (Nat.le_of_ble_eq_true rfl) dX5_begin_59 (g_no) ?_
      intro v9 w9 H locs h9 hG
      obtain ⟨e9, f9⟩ := h9
      rw [f9] at hG; rw [e9]; clear e9 f9
      show W p l e _ s m args below meth c H locs _ _ _ (F0 m 62 ls [.int (nI (lenN d i_1)), .int (nI i_1), .ref (ca 3)])
      refine g_callV (rest := []) (As := [.int (nI i_1), .int (nI (lenN d i_1))]) hE hG hl.1 (c_X4_startPiece l hfl D tc A w 3 (ca 3) (ca 4) (d 9 3) cy (d 9 4) (d 9 5) (d 9 6) (d 9 7) (d 9 8) (d 9 2) ge tk (nI i_1) (nI (lenN d i_1)) z3 ) z3 rfl mw2_119 mw2_120 mw2_121 mw1_2 mw2_122 rfl nm_X4_startPiece ⟨⟨Nat.le_of_ble_eq_true rfl, Nat.le_of_ble_eq_true rfl⟩, Nat.le_of_ble_eq_true rfl, Nat.le_of_ble_eq_true rfl⟩ rfl rfl (Nat.le_of_ble_eq_true rfl) dX5_begin_62 (g_no) ?_
      intro v9 w9 H locs h9 hG
      obtain ⟨e9, ew_4⟩ := h9
      rw [e9]; clear e9; revert w9; intro w_4 hG ew_4
      show W p l e _ s m args below meth c H locs _ _ _ (F0 m 65 ls [])
      have h_5 : w_4 0 = some ((ca 0), .inr (5, [.ref (ca 1), .int (d 9 0), .ref (ca 2), .int (d 9 1), .ref (ca 3), .int (d 9 10), .int (d 9 11), .ref (ca 5), .int (d 9 12), .ref (ca 6), .int (d 9 13)])) := gU_n ew_4 (by decide) z0
      have h_6 : w_4 1 = some ((ca 1), .inl (tc 0, 4, .inl (d 0))) := gU_n ew_4 (by decide) z1
      have h_7 : w_4 2 = some ((ca 2), .inl (tc 3, 6, .inr (.inr (.inr (.inr (c_pf ca (nP d))))))) := gU_n ew_4 (by decide) z2
      have h_8 : w_4 5 = some ((ca 5), .inl (tc 4, 4, .inr (.inr (.inr (.inr (c_sf ca)))))) := gU_n ew_4 (by decide) z5
      have h_9 : w_4 6 = some ((ca 6), .inl (tc 5, 8, .inr (.inr (.inr (.inr (c_uf ca (nU d))))))) := gU_n ew_4 (by decide) z6
      have h_10 : w_4 4 = some ((ca 4), .inl (tc 1, 4, .inr (.inl sf))) := gU_n ew_4 (by decide) z4
      have h_11 : w_4 (10 + i_1) = some ((ca (10 + i_1)), .inr (2, [.ref (ca (20 + i_1)), .int (d 2 i_1)])) := gU_n ew_4 (by omega) q1
      have h_12 : w_4 (20 + i_1) = some ((ca (20 + i_1)), .inr (1, [.ref (ca (30 + i_1))])) := gU_n ew_4 (by omega) q2
      have h_13 : w_4 (30 + i_1) = some ((ca (30 + i_1)), .inl (tc 0, (lenN d i_1), .inl qf)) := gU_n ew_4 (by omega) q3
      have h_14 : w_4 3 = some ((ca 3), .inr (4, [.int (nI i_1), .int (nI (lenN d i_1)), .int 0, .int 20, .int 0, .int 0, .int 0, .int 1, .int 0, .long tk, .ref (ca 4)])) := gU_s ew_4
      refine lv_aload_n hx hb dX5_begin_65 rfl (lv_at hl 1 rfl) ?_
      refine lv_dup hx hb dX5_begin_66 rfl ?_
      refine g_get hE hG h_5 rfl inG5 5 (by decide) mw1_106 rfl dX5_begin_67 ?_
      refine lv_iconst (v := 1) hx hb dX5_begin_70 (by decide) ?_
      refine lv_iadd hx hb dX5_begin_71 ?_
      refine g_put hE hG h_5 rfl inG5 tyX5 tyX5_ok nmX5 5 (by decide) mw1_106 rfl rfl rfl (Nat.le_of_ble_eq_true rfl) dX5_begin_72 (fun H locs w_15 ew_15 hG => ?_)
      have h_16 : w_15 1 = some ((ca 1), .inl (tc 0, 4, .inl (d 0))) := gU_n ew_15 (by decide) h_6
      have h_17 : w_15 2 = some ((ca 2), .inl (tc 3, 6, .inr (.inr (.inr (.inr (c_pf ca (nP d))))))) := gU_n ew_15 (by decide) h_7
      have h_18 : w_15 5 = some ((ca 5), .inl (tc 4, 4, .inr (.inr (.inr (.inr (c_sf ca)))))) := gU_n ew_15 (by decide) h_8
      have h_19 : w_15 6 = some ((ca 6), .inl (tc 5, 8, .inr (.inr (.inr (.inr (c_uf ca (nU d))))))) := gU_n ew_15 (by decide) h_9
      have h_20 : w_15 4 = some ((ca 4), .inl (tc 1, 4, .inr (.inl sf))) := gU_n ew_15 (by decide) h_10
      have h_21 : w_15 (10 + i_1) = some ((ca (10 + i_1)), .inr (2, [.ref (ca (20 + i_1)), .int (d 2 i_1)])) := gU_n ew_15 (by omega) h_11
      have h_22 : w_15 (20 + i_1) = some ((ca (20 + i_1)), .inr (1, [.ref (ca (30 + i_1))])) := gU_n ew_15 (by omega) h_12
      have h_23 : w_15 (30 + i_1) = some ((ca (30 + i_1)), .inl (tc 0, (lenN d i_1), .inl qf)) := gU_n ew_15 (by omega) h_13
      have h_24 : w_15 3 = some ((ca 3), .inr (4, [.int (nI i_1), .int (nI (lenN d i_1)), .int 0, .int 20, .int 0, .int 0, .int 0, .int 1, .int 0, .long tk, .ref (ca 4)])) := gU_n ew_15 (by decide) h_14
      have h_25 : w_15 0 = some ((ca 0), .inr (5, [.ref (ca 1), .int (d 9 0), .ref (ca 2), .int (d 9 1), .ref (ca 3), .int ((d 9 10) + 1), .int (d 9 11), .ref (ca 5), .int (d 9 12), .ref (ca 6), .int (d 9 13)])) := gU_s ew_15
      refine lv_aload_n hx hb dX5_begin_75 rfl (lv_at hl 1 rfl) ?_
      refine g_get hE hG h_25 rfl inG5 5 (by decide) mw1_106 rfl dX5_begin_76 ?_
      subst hQ
      exact g_iret hE hG hr (Nat.le_of_ble_eq_true rfl) (Nat.le_of_ble_eq_true rfl) dX5_begin_79 ⟨m_go_i (isPiece_s hOk hi_1) (by unfold gb_begin; rw [if_neg (isPiece_s hOk hi_1), if_pos c_2, nI_clamp (by omega), if_pos c_3]; decide) one_nz, rfl, ⟨ca, rfl, cW_hd hC (fun k h1 h2 => by rw [ew_15, gU_ne _ _ (by omega), ew_4, gU_ne _ _ (by omega)]) rfl rfl (fun _ _ => rfl) rfl rfl rfl rfl rfl rfl rfl h_25 h_16 h_17 h_18 h_19 ⟨nI (lenN d i_1), 0, sf, h_24, h_20, hsf, (fun _ => Or.inl ⟨rfl, rfl⟩), (fun _ => ⟨i_1, hi_1, rfl, rfl⟩)⟩ hOk⟩, gK_u (gK_u (gK_rf w) ew_4 (by omega)) ew_15 (by omega)⟩
    · skip
      subst hQ
      exact g_thr (E := gIS) hfl hE hG hl.1 hnt gTgIS (List.mem_of_getElem? (i := 6) rfl) dX5_begin_40 dX5_begin_43 dX5_begin_44 dX5_begin_46 dX5_begin_49 (by refine ⟨?_, ?_, ?_, ?_, ?_, ?_⟩ <;> exact Nat.le_of_ble_eq_true rfl) rfl (Or.inr (Or.inl ⟨isPiece_s hOk hi_1, by unfold gb_begin; rw [if_neg (isPiece_s hOk hi_1), if_pos c_2, nI_clamp (by omega), if_neg c_3], rfl⟩))
  · skip
    subst hQ
    exact g_thr (E := gIS) hfl hE hG hl.1 hnt gTgIS (List.mem_of_getElem? (i := 5) rfl) dX5_begin_16 dX5_begin_19 dX5_begin_20 dX5_begin_22 dX5_begin_25 (by refine ⟨?_, ?_, ?_, ?_, ?_, ?_⟩ <;> exact Nat.le_of_ble_eq_true rfl) rfl (Or.inr (Or.inl ⟨isPiece_s hOk hi_1, by unfold gb_begin; rw [if_neg (isPiece_s hOk hi_1), if_neg c_2], rfl⟩))
