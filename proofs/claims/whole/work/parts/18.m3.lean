/-! GongCyclesModel: playing, strokes -/
def ga_sounds (d : gDt) (x y : Int32) : Int32 := (m_isPlace d x y)
def gb_sounds (d : gDt) (x y : Int32) : Int32 := 1
def gc_sounds (d : gDt) (x y : Int32) : Int32 := 1
abbrev rm_X6_sounds : Room := { frames := 4, cells := 0, slots := 0, locals := 158 }
theorem nm_X6_sounds : gNm yX6_sounds 2 := ⟨by decide +kernel, by decide +kernel, by decide +kernel⟩
set_option maxHeartbeats 8000000 in
set_option maxRecDepth 100000 in
theorem c_X6_sounds (l : Launch) (hfl : l.stackTraces = false) (D : va_G) (tc : Nat → ClassId) (A : Nat → Prop) (w : gW) (ad : Nat → Nat) (d : gDt) (tk : Int64) (st : Nat → Int64) (x : Int32) (y : Int32) (hM : mW tc w ad d tk st) (hOk : mOk d) : gM l yX6_sounds cX6_sounds 3 (some .int) rm_X6_sounds D tc A [.ref (ad 0), .int x, .int y] w (fun v w' => (m_go (ga_sounds d x y) (gb_sounds d x y) (gc_sounds d x y) = 0 ∧ (∃ r, v = some (.int r)) ∧ mW tc w' ad (sL d (m_la (ga_sounds d x y) (gb_sounds d x y) (gc_sounds d x y))) tk st ∧ gF w w') ∨ (¬ m_go (ga_sounds d x y) (gb_sounds d x y) (gc_sounds d x y) = 0 ∧ v = some (.int (m_snd d x.toNatClampNeg y.toNatClampNeg)) ∧ mW tc w' ad (sL d 0) tk st ∧ gF w w')) (fun _ => False) := by
  refine gM_of (by decide +kernel) (Nat.le_of_ble_eq_true rfl) ?_
  intro p e s m args below meth c ls Q hQ hE hG hr hnt hnm hl
  have hx := hE.1
  have hb := hE.2.1
  have hl : lv_has ls 3 [(0, .ref (ad 0)), (1, .int x), (2, .int y)] := hl
  obtain ⟨o0, o1, o2, o3, o4, o5, o6, o7, o8, o9, o10⟩ := hM
  refine lv_aload_n hx hb dX6_sounds_0 rfl (lv_at hl 0 rfl) ?_
  refine lv_aload_n hx hb dX6_sounds_1 rfl (lv_at hl 0 rfl) ?_
  refine lv_iload_n hx hb dX6_sounds_2 rfl (lv_at hl 1 rfl) ?_
  refine lv_iload_n hx hb dX6_sounds_3 rfl (lv_at hl 2 rfl) ?_
  refine g_callV (rest := [.ref (ad 0)]) (As := [.int x, .int y]) hE hG hl.1 (c_X6_isPlace l hfl D tc A w ad d tk st x y ⟨o0, o1, o2, o3, o4, o5, o6, o7, o8, o9, o10⟩ hOk) o0 rfl mw4_58 mw4_60 mws_14 mw1_4 mw4_61 rfl nm_X6_isPlace ⟨⟨Nat.le_of_ble_eq_true rfl, Nat.le_of_ble_eq_true rfl⟩, Nat.le_of_ble_eq_true rfl, Nat.le_of_ble_eq_true rfl⟩ rfl rfl (Nat.le_of_ble_eq_true rfl) dX6_sounds_4 (g_no) ?_
  intro v9 w9 H locs h9 hG
  obtain ⟨e9, f9⟩ := h9
  rw [f9] at hG; rw [e9]; clear e9 f9
  show W p l e _ s m args below meth c H locs _ _ _ (F0 m 7 ls [.int (m_isPlace d x y), .ref (ad 0)])
  refine lv_iconst (v := 1) hx hb dX6_sounds_7 (by decide) ?_
  refine lv_iconst (v := 1) hx hb dX6_sounds_8 (by decide) ?_
  refine g_callV (rest := []) (As := [.int (m_isPlace d x y), .int 1, .int 1]) hE hG hl.1 (c_X6_goes l hfl D tc A w ad d tk st (m_isPlace d x y) 1 1 ⟨o0, o1, o2, o3, o4, o5, o6, o7, o8, o9, o10⟩ ) o0 rfl mw4_38 mw4_40 mws_12 mw1_4 mw4_41 rfl nm_X6_goes ⟨⟨Nat.le_of_ble_eq_true rfl, Nat.le_of_ble_eq_true rfl⟩, Nat.le_of_ble_eq_true rfl, Nat.le_of_ble_eq_true rfl⟩ rfl rfl (Nat.le_of_ble_eq_true rfl) dX6_sounds_9 (g_no) ?_
  intro v9 w_1 H locs h9 hG
  obtain ⟨e9, ew_1⟩ := h9
  rw [e9]; clear e9
  show W p l e _ s m args below meth c H locs _ _ _ (F0 m 12 ls [.int (m_go (m_isPlace d x y) 1 1)])
  have h_2 : w_1 1001 = some ((ad 1), .inl (tc 0, 4, .inl (d 0))) := gU_n ew_1 (by decide) o1
  have h_3 : w_1 1002 = some ((ad 2), .inl (tc 0, 6, .inl (d 1))) := gU_n ew_1 (by decide) o2
  have h_4 : w_1 1003 = some ((ad 3), .inl (tc 0, 6, .inl (d 2))) := gU_n ew_1 (by decide) o3
  have h_5 : w_1 1004 = some ((ad 4), .inl (tc 0, 390, .inl (d 3))) := gU_n ew_1 (by decide) o4
  have h_6 : w_1 1005 = some ((ad 5), .inl (tc 1, 4, .inr (.inl st))) := gU_n ew_1 (by decide) o5
  have h_7 : w_1 1006 = some ((ad 6), .inl (tc 0, 32, .inl (d 4))) := gU_n ew_1 (by decide) o6
  have h_8 : w_1 1007 = some ((ad 7), .inl (tc 0, 4, .inl (d 5))) := gU_n ew_1 (by decide) o7
  have h_9 : w_1 1008 = some ((ad 8), .inl (tc 0, 8, .inl (d 6))) := gU_n ew_1 (by decide) o8
  have h_10 : w_1 1009 = some ((ad 9), .inl (tc 2, 48, .inl (d 7))) := gU_n ew_1 (by decide) o9
  have h_11 : w_1 1010 = some ((ad 10), .inl (tc 0, 3120, .inl (d 8))) := gU_n ew_1 (by decide) o10
  have h_12 : w_1 1000 = some ((ad 0), .inr (6, [.ref (ad 1), .int (d 9 0), .ref (ad 2), .ref (ad 3), .ref (ad 4), .int (d 9 1), .int (d 9 2), .int (d 9 3), .int (d 9 4), .int (d 9 5), .int (d 9 6), .int (d 9 7), .int (d 9 8), .int (d 9 9), .long tk, .ref (ad 5), .int (d 9 10), .int (d 9 11), .ref (ad 6), .ref (ad 7), .int (d 9 12), .ref (ad 8), .ref (ad 9), .ref (ad 10), .int (d 9 13), .int (m_la (m_isPlace d x y) 1 1)])) := gU_s ew_1
  refine lv_if_eq (tgt := 24) hx hb dX6_sounds_12 (by decide) (fun c_13 => ?_) (fun c_13 => ?_)
  · skip
    refine lv_iconst (v := 0) hx hb dX6_sounds_24 (by decide) ?_
    subst hQ
    exact g_iret hE hG hr (Nat.le_of_ble_eq_true rfl) (Nat.le_of_ble_eq_true rfl) dX6_sounds_25 (Or.inl ⟨c_13, ⟨_, rfl⟩, mW_mk h_12 h_2 h_3 h_4 h_5 h_6 h_7 h_8 h_9 h_10 h_11, gF_u (gF_rf w) ew_1 (by decide)⟩)
  · skip
    obtain ⟨i, z, hi, hz1, hz2, hxi, hyz⟩ := m_isPlace_ne hOk (m_go_ne c_13).1
    subst hxi
    subst hyz
    refine lv_aload_n hx hb dX6_sounds_15 rfl (lv_at hl 0 rfl) ?_
    refine lv_iload_n hx hb dX6_sounds_16 rfl (lv_at hl 1 rfl) ?_
    refine lv_iload_n hx hb dX6_sounds_17 rfl (lv_at hl 2 rfl) ?_
    refine g_callV (rest := []) (As := [.int (nI i), .int (nI z)]) hE hG hl.1 (c_X6_soundOf l hfl D tc A w_1 ad (gD d 9 (upd (d 9) 14 (m_la (m_isPlace d (nI i) (nI z)) 1 1))) tk st i z ⟨h_12, h_2, h_3, h_4, h_5, h_6, h_7, h_8, h_9, h_10, h_11⟩ hOk hi ⟨hz1, hz2⟩) h_12 rfl mw4_78 mw4_80 mws_17 mw1_4 mw4_81 rfl nm_X6_soundOf ⟨⟨Nat.le_of_ble_eq_true rfl, Nat.le_of_ble_eq_true rfl⟩, Nat.le_of_ble_eq_true rfl, Nat.le_of_ble_eq_true rfl⟩ rfl rfl (Nat.le_of_ble_eq_true rfl) dX6_sounds_18 (g_no) ?_
    intro v9 w9 H locs h9 hG
    obtain ⟨e9, f9⟩ := h9
    rw [f9] at hG; rw [e9]; clear e9 f9
    show W p l e _ s m args below meth c H locs _ _ _ (F0 m 21 ls [.int (m_snd d i z)])
    refine lv_goto (tgt := 25) hx hb dX6_sounds_21 (by decide) ?_
    subst hQ
    rw [m_la_ok c_13] at h_12
    exact g_iret hE hG hr (Nat.le_of_ble_eq_true rfl) (Nat.le_of_ble_eq_true rfl) dX6_sounds_25 (Or.inr ⟨c_13, (by rw [nI_clamp (by have := hOk.1.2.1; have := (mOk_len hOk hi).2.2.1; omega), nI_clamp (by have := hOk.1.2.1; have := (mOk_len hOk hi).2.2.1; omega)]), ⟨h_12, h_2, h_3, h_4, h_5, h_6, h_7, h_8, h_9, h_10, h_11⟩, gF_u (gF_rf w) ew_1 (by decide)⟩)
def m_now (d : gDt) (x : Int32) : Int32 := if x = 0 then d 9 4 else if x = 1 then d 9 5 else if x = 2 then d 9 6 else if x = 3 then d 9 7 else if x = 4 then (if d 9 2 = 0 then 0 else 1) else d 9 3
def ga_now (d : gDt) (x : Int32) : Int32 := (f_in x 0 5)
def gb_now (d : gDt) (x : Int32) : Int32 := 1
def gc_now (d : gDt) (x : Int32) : Int32 := 1
abbrev rm_X6_now : Room := { frames := 4, cells := 0, slots := 0, locals := 158 }
theorem nm_X6_now : gNm yX6_now 1 := ⟨by decide +kernel, by decide +kernel, by decide +kernel⟩
set_option maxHeartbeats 8000000 in
set_option maxRecDepth 100000 in
theorem c_X6_now (l : Launch) (hfl : l.stackTraces = false) (D : va_G) (tc : Nat → ClassId) (A : Nat → Prop) (w : gW) (ad : Nat → Nat) (d : gDt) (tk : Int64) (st : Nat → Int64) (x : Int32) (hM : mW tc w ad d tk st) (hOk : mOk d) : gM l yX6_now cX6_now 2 (some .int) rm_X6_now D tc A [.ref (ad 0), .int x] w (fun v w' => (m_go (ga_now d x) (gb_now d x) (gc_now d x) = 0 ∧ (∃ r, v = some (.int r)) ∧ mW tc w' ad (sL d (m_la (ga_now d x) (gb_now d x) (gc_now d x))) tk st ∧ gF w w') ∨ (¬ m_go (ga_now d x) (gb_now d x) (gc_now d x) = 0 ∧ v = some (.int (m_now d x)) ∧ mW tc w' ad (sL d 0) tk st ∧ gF w w')) (fun _ => False) := by
  refine gM_of (by decide +kernel) (Nat.le_of_ble_eq_true rfl) ?_
  intro p e s m args below meth c ls Q hQ hE hG hr hnt hnm hl
  have hx := hE.1
  have hb := hE.2.1
  have hl : lv_has ls 2 [(0, .ref (ad 0)), (1, .int x)] := hl
  obtain ⟨o0, o1, o2, o3, o4, o5, o6, o7, o8, o9, o10⟩ := hM
  refine lv_aload_n hx hb dX6_now_0 rfl (lv_at hl 0 rfl) ?_
  refine lv_iload_n hx hb dX6_now_1 rfl (lv_at hl 1 rfl) ?_
  refine lv_iconst (v := 0) hx hb dX6_now_2 (by decide) ?_
  refine lv_iconst (v := 5) hx hb dX6_now_3 (by decide) ?_
  refine g_callS (rest := [.ref (ad 0)]) (As := [.int x, .int 0, .int 5]) hE hG hl.1 (c_X6_in l hfl D tc A w x 0 5 ) mw4_35 mw4_36 mw1_4 mw4_37 nm_X6_in ⟨⟨Nat.le_of_ble_eq_true rfl, Nat.le_of_ble_eq_true rfl⟩, Nat.le_of_ble_eq_true rfl, Nat.le_of_ble_eq_true rfl⟩ rfl rfl (Nat.le_of_ble_eq_true rfl) dX6_now_4 (g_no) ?_
  intro v9 w9 H locs h9 hG
  obtain ⟨e9, f9⟩ := h9
  rw [f9] at hG; rw [e9]; clear e9 f9
  show W p l e _ s m args below meth c H locs _ _ _ (F0 m 7 ls [.int (f_in x 0 5), .ref (ad 0)])
  refine lv_iconst (v := 1) hx hb dX6_now_7 (by decide) ?_
  refine lv_iconst (v := 1) hx hb dX6_now_8 (by decide) ?_
  refine g_callV (rest := []) (As := [.int (f_in x 0 5), .int 1, .int 1]) hE hG hl.1 (c_X6_goes l hfl D tc A w ad d tk st (f_in x 0 5) 1 1 ⟨o0, o1, o2, o3, o4, o5, o6, o7, o8, o9, o10⟩ ) o0 rfl mw4_38 mw4_40 mws_12 mw1_4 mw4_41 rfl nm_X6_goes ⟨⟨Nat.le_of_ble_eq_true rfl, Nat.le_of_ble_eq_true rfl⟩, Nat.le_of_ble_eq_true rfl, Nat.le_of_ble_eq_true rfl⟩ rfl rfl (Nat.le_of_ble_eq_true rfl) dX6_now_9 (g_no) ?_
  intro v9 w_1 H locs h9 hG
  obtain ⟨e9, ew_1⟩ := h9
  rw [e9]; clear e9
  show W p l e _ s m args below meth c H locs _ _ _ (F0 m 12 ls [.int (m_go (f_in x 0 5) 1 1)])
  have h_2 : w_1 1001 = some ((ad 1), .inl (tc 0, 4, .inl (d 0))) := gU_n ew_1 (by decide) o1
  have h_3 : w_1 1002 = some ((ad 2), .inl (tc 0, 6, .inl (d 1))) := gU_n ew_1 (by decide) o2
  have h_4 : w_1 1003 = some ((ad 3), .inl (tc 0, 6, .inl (d 2))) := gU_n ew_1 (by decide) o3
  have h_5 : w_1 1004 = some ((ad 4), .inl (tc 0, 390, .inl (d 3))) := gU_n ew_1 (by decide) o4
  have h_6 : w_1 1005 = some ((ad 5), .inl (tc 1, 4, .inr (.inl st))) := gU_n ew_1 (by decide) o5
  have h_7 : w_1 1006 = some ((ad 6), .inl (tc 0, 32, .inl (d 4))) := gU_n ew_1 (by decide) o6
  have h_8 : w_1 1007 = some ((ad 7), .inl (tc 0, 4, .inl (d 5))) := gU_n ew_1 (by decide) o7
  have h_9 : w_1 1008 = some ((ad 8), .inl (tc 0, 8, .inl (d 6))) := gU_n ew_1 (by decide) o8
  have h_10 : w_1 1009 = some ((ad 9), .inl (tc 2, 48, .inl (d 7))) := gU_n ew_1 (by decide) o9
  have h_11 : w_1 1010 = some ((ad 10), .inl (tc 0, 3120, .inl (d 8))) := gU_n ew_1 (by decide) o10
  have h_12 : w_1 1000 = some ((ad 0), .inr (6, [.ref (ad 1), .int (d 9 0), .ref (ad 2), .ref (ad 3), .ref (ad 4), .int (d 9 1), .int (d 9 2), .int (d 9 3), .int (d 9 4), .int (d 9 5), .int (d 9 6), .int (d 9 7), .int (d 9 8), .int (d 9 9), .long tk, .ref (ad 5), .int (d 9 10), .int (d 9 11), .ref (ad 6), .ref (ad 7), .int (d 9 12), .ref (ad 8), .ref (ad 9), .ref (ad 10), .int (d 9 13), .int (m_la (f_in x 0 5) 1 1)])) := gU_s ew_1
  refine lv_if_ne (tgt := 17) hx hb dX6_now_12 (by decide) (fun c_13 => ?_) (fun c_13 => ?_)
  · skip
    refine lv_iload_n hx hb dX6_now_17 rfl (lv_at hl 1 rfl) ?_
    refine lv_if_ne (tgt := 28) hx hb dX6_now_18 (by decide) (fun c_14 => ?_) (fun c_14 => ?_)
    · skip
      refine lv_iload_n hx hb dX6_now_28 rfl (lv_at hl 1 rfl) ?_
      refine lv_iconst (v := 1) hx hb dX6_now_29 (by decide) ?_
      refine lv_icmp_ne (tgt := 40) hx hb dX6_now_30 (by decide) (fun c_15 => ?_) (fun c_15 => ?_)
      · skip
        refine lv_iload_n hx hb dX6_now_40 rfl (lv_at hl 1 rfl) ?_
        refine lv_iconst (v := 2) hx hb dX6_now_41 (by decide) ?_
        refine lv_icmp_ne (tgt := 52) hx hb dX6_now_42 (by decide) (fun c_16 => ?_) (fun c_16 => ?_)
        · skip
          refine lv_iload_n hx hb dX6_now_52 rfl (lv_at hl 1 rfl) ?_
          refine lv_iconst (v := 3) hx hb dX6_now_53 (by decide) ?_
          refine lv_icmp_ne (tgt := 64) hx hb dX6_now_54 (by decide) (fun c_17 => ?_) (fun c_17 => ?_)
          · skip
            refine lv_iload_n hx hb dX6_now_64 rfl (lv_at hl 1 rfl) ?_
            refine lv_iconst (v := 4) hx hb dX6_now_65 (by decide) ?_
            refine lv_icmp_ne (tgt := 84) hx hb dX6_now_66 (by decide) (fun c_18 => ?_) (fun c_18 => ?_)
            · skip
              refine lv_aload_n hx hb dX6_now_84 rfl (lv_at hl 0 rfl) ?_
              refine g_get hE hG h_12 rfl inG6 7 (by decide) mw3_194 rfl dX6_now_85 ?_
              subst hQ
              rw [m_la_ok c_13] at h_12
              exact g_iret hE hG hr (Nat.le_of_ble_eq_true rfl) (Nat.le_of_ble_eq_true rfl) dX6_now_88 (Or.inr ⟨c_13, (by unfold m_now; rw [if_neg c_14, if_neg c_15, if_neg c_16, if_neg c_17, if_neg c_18]), ⟨h_12, h_2, h_3, h_4, h_5, h_6, h_7, h_8, h_9, h_10, h_11⟩, gF_u (gF_rf w) ew_1 (by decide)⟩)
            · skip
              refine lv_aload_n hx hb dX6_now_69 rfl (lv_at hl 0 rfl) ?_
              refine g_get hE hG h_12 rfl inG6 6 (by decide) mw3_193 rfl dX6_now_70 ?_
              refine lv_if_eq (tgt := 80) hx hb dX6_now_73 (by decide) (fun c_19 => ?_) (fun c_19 => ?_)
              · skip
                refine lv_iconst (v := 0) hx hb dX6_now_80 (by decide) ?_
                refine lv_goto (tgt := 88) hx hb dX6_now_81 (by decide) ?_
                subst hQ
                rw [m_la_ok c_13] at h_12
                exact g_iret hE hG hr (Nat.le_of_ble_eq_true rfl) (Nat.le_of_ble_eq_true rfl) dX6_now_88 (Or.inr ⟨c_13, (by unfold m_now; rw [if_neg c_14, if_neg c_15, if_neg c_16, if_neg c_17, if_pos c_18, if_pos c_19]), ⟨h_12, h_2, h_3, h_4, h_5, h_6, h_7, h_8, h_9, h_10, h_11⟩, gF_u (gF_rf w) ew_1 (by decide)⟩)
              · skip
                refine lv_iconst (v := 1) hx hb dX6_now_76 (by decide) ?_
                refine lv_goto (tgt := 88) hx hb dX6_now_77 (by decide) ?_
                subst hQ
                rw [m_la_ok c_13] at h_12
                exact g_iret hE hG hr (Nat.le_of_ble_eq_true rfl) (Nat.le_of_ble_eq_true rfl) dX6_now_88 (Or.inr ⟨c_13, (by unfold m_now; rw [if_neg c_14, if_neg c_15, if_neg c_16, if_neg c_17, if_pos c_18, if_neg c_19]), ⟨h_12, h_2, h_3, h_4, h_5, h_6, h_7, h_8, h_9, h_10, h_11⟩, gF_u (gF_rf w) ew_1 (by decide)⟩)
          · skip
            refine lv_aload_n hx hb dX6_now_57 rfl (lv_at hl 0 rfl) ?_
            refine g_get hE hG h_12 rfl inG6 11 (by decide) mw3_198 rfl dX6_now_58 ?_
            refine lv_goto (tgt := 88) hx hb dX6_now_61 (by decide) ?_
            subst hQ
            rw [m_la_ok c_13] at h_12
            exact g_iret hE hG hr (Nat.le_of_ble_eq_true rfl) (Nat.le_of_ble_eq_true rfl) dX6_now_88 (Or.inr ⟨c_13, (by unfold m_now; rw [if_neg c_14, if_neg c_15, if_neg c_16, if_pos c_17]), ⟨h_12, h_2, h_3, h_4, h_5, h_6, h_7, h_8, h_9, h_10, h_11⟩, gF_u (gF_rf w) ew_1 (by decide)⟩)
        · skip
          refine lv_aload_n hx hb dX6_now_45 rfl (lv_at hl 0 rfl) ?_
          refine g_get hE hG h_12 rfl inG6 10 (by decide) mw3_197 rfl dX6_now_46 ?_
          refine lv_goto (tgt := 88) hx hb dX6_now_49 (by decide) ?_
          subst hQ
          rw [m_la_ok c_13] at h_12
          exact g_iret hE hG hr (Nat.le_of_ble_eq_true rfl) (Nat.le_of_ble_eq_true rfl) dX6_now_88 (Or.inr ⟨c_13, (by unfold m_now; rw [if_neg c_14, if_neg c_15, if_pos c_16]), ⟨h_12, h_2, h_3, h_4, h_5, h_6, h_7, h_8, h_9, h_10, h_11⟩, gF_u (gF_rf w) ew_1 (by decide)⟩)
      · skip
        refine lv_aload_n hx hb dX6_now_33 rfl (lv_at hl 0 rfl) ?_
        refine g_get hE hG h_12 rfl inG6 9 (by decide) mw3_196 rfl dX6_now_34 ?_
        refine lv_goto (tgt := 88) hx hb dX6_now_37 (by decide) ?_
        subst hQ
        rw [m_la_ok c_13] at h_12
        exact g_iret hE hG hr (Nat.le_of_ble_eq_true rfl) (Nat.le_of_ble_eq_true rfl) dX6_now_88 (Or.inr ⟨c_13, (by unfold m_now; rw [if_neg c_14, if_pos c_15]), ⟨h_12, h_2, h_3, h_4, h_5, h_6, h_7, h_8, h_9, h_10, h_11⟩, gF_u (gF_rf w) ew_1 (by decide)⟩)
    · skip
      refine lv_aload_n hx hb dX6_now_21 rfl (lv_at hl 0 rfl) ?_
      refine g_get hE hG h_12 rfl inG6 8 (by decide) mw3_195 rfl dX6_now_22 ?_
      refine lv_goto (tgt := 88) hx hb dX6_now_25 (by decide) ?_
      subst hQ
      rw [m_la_ok c_13] at h_12
      exact g_iret hE hG hr (Nat.le_of_ble_eq_true rfl) (Nat.le_of_ble_eq_true rfl) dX6_now_88 (Or.inr ⟨c_13, (by unfold m_now; rw [if_pos c_14]), ⟨h_12, h_2, h_3, h_4, h_5, h_6, h_7, h_8, h_9, h_10, h_11⟩, gF_u (gF_rf w) ew_1 (by decide)⟩)
  · skip
    refine lv_iconst (v := 0) hx hb dX6_now_15 (by decide) ?_
    subst hQ
    exact g_iret hE hG hr (Nat.le_of_ble_eq_true rfl) (Nat.le_of_ble_eq_true rfl) dX6_now_16 (Or.inl ⟨c_13, ⟨_, rfl⟩, mW_mk h_12 h_2 h_3 h_4 h_5 h_6 h_7 h_8 h_9 h_10 h_11, gF_u (gF_rf w) ew_1 (by decide)⟩)
abbrev rm_X6_ticks : Room := { frames := 1, cells := 0, slots := 0, locals := 50 }
theorem nm_X6_ticks : gNm yX6_ticks 0 := ⟨by decide +kernel, by decide +kernel, by decide +kernel⟩
set_option maxHeartbeats 4000000 in
set_option maxRecDepth 100000 in
theorem c_X6_ticks (l : Launch) (hfl : l.stackTraces = false) (D : va_G) (tc : Nat → ClassId) (A : Nat → Prop) (w : gW) (ad : Nat → Nat) (d : gDt) (tk : Int64) (st : Nat → Int64) (hM : mW tc w ad d tk st) : gM l yX6_ticks cX6_ticks 1 (some .long) rm_X6_ticks D tc A [.ref (ad 0)] w (fun v w' => v = some (.long tk) ∧ mW tc w' ad (sL d 0) tk st ∧ gF w w') (fun _ => False) := by
  refine gM_of (by decide +kernel) (Nat.le_of_ble_eq_true rfl) ?_
  intro p e s m args below meth c ls Q hQ hE hG hr hnt hnm hl
  have hx := hE.1
  have hb := hE.2.1
  have hl : lv_has ls 1 [(0, .ref (ad 0))] := hl
  obtain ⟨o0, o1, o2, o3, o4, o5, o6, o7, o8, o9, o10⟩ := hM
  refine lv_aload_n hx hb dX6_ticks_0 rfl (lv_at hl 0 rfl) ?_
  refine lv_iconst (v := 0) hx hb dX6_ticks_1 (by decide) ?_
  refine g_put hE hG o0 rfl inG6 tyX6 tyX6_ok nmX6 25 (by decide) mw3_212 rfl rfl rfl (Nat.le_of_ble_eq_true rfl) dX6_ticks_2 (fun H locs w_1 ew_1 hG => ?_)
  have h_2 : w_1 1001 = some ((ad 1), .inl (tc 0, 4, .inl (d 0))) := gU_n ew_1 (by decide) o1
  have h_3 : w_1 1002 = some ((ad 2), .inl (tc 0, 6, .inl (d 1))) := gU_n ew_1 (by decide) o2
  have h_4 : w_1 1003 = some ((ad 3), .inl (tc 0, 6, .inl (d 2))) := gU_n ew_1 (by decide) o3
  have h_5 : w_1 1004 = some ((ad 4), .inl (tc 0, 390, .inl (d 3))) := gU_n ew_1 (by decide) o4
  have h_6 : w_1 1005 = some ((ad 5), .inl (tc 1, 4, .inr (.inl st))) := gU_n ew_1 (by decide) o5
  have h_7 : w_1 1006 = some ((ad 6), .inl (tc 0, 32, .inl (d 4))) := gU_n ew_1 (by decide) o6
  have h_8 : w_1 1007 = some ((ad 7), .inl (tc 0, 4, .inl (d 5))) := gU_n ew_1 (by decide) o7
  have h_9 : w_1 1008 = some ((ad 8), .inl (tc 0, 8, .inl (d 6))) := gU_n ew_1 (by decide) o8
  have h_10 : w_1 1009 = some ((ad 9), .inl (tc 2, 48, .inl (d 7))) := gU_n ew_1 (by decide) o9
  have h_11 : w_1 1010 = some ((ad 10), .inl (tc 0, 3120, .inl (d 8))) := gU_n ew_1 (by decide) o10
  have h_12 : w_1 1000 = some ((ad 0), .inr (6, [.ref (ad 1), .int (d 9 0), .ref (ad 2), .ref (ad 3), .ref (ad 4), .int (d 9 1), .int (d 9 2), .int (d 9 3), .int (d 9 4), .int (d 9 5), .int (d 9 6), .int (d 9 7), .int (d 9 8), .int (d 9 9), .long tk, .ref (ad 5), .int (d 9 10), .int (d 9 11), .ref (ad 6), .ref (ad 7), .int (d 9 12), .ref (ad 8), .ref (ad 9), .ref (ad 10), .int (d 9 13), .int 0])) := gU_s ew_1
  refine lv_aload_n hx hb dX6_ticks_5 rfl (lv_at hl 0 rfl) ?_
  refine g_get hE hG h_12 rfl inG6 14 (by decide) mw3_201 rfl dX6_ticks_6 ?_
  subst hQ
  exact g_lret hE hG hr (Nat.le_of_ble_eq_true rfl) (Nat.le_of_ble_eq_true rfl) dX6_ticks_9 ⟨rfl, ⟨h_12, h_2, h_3, h_4, h_5, h_6, h_7, h_8, h_9, h_10, h_11⟩, gF_u (gF_rf w) ew_1 (by decide)⟩
def m_fst (z : Nat) : Nat := z - 1 + z % 2
def m_stroke (d : gDt) (x a y b t : Int32) : Int32 := m_str a (m_den a b) (if y = nI (m_fst y.toNatClampNeg) then t else m_den a b + t) (m_snd d x.toNatClampNeg (m_fst y.toNatClampNeg)) (m_snd d x.toNatClampNeg (m_fst y.toNatClampNeg + 1))
theorem m_fst_e {z : Nat} (h : 1 ≤ z) (hz : z ≤ 64) : nI z - 1 + (nI z - nI z / 2 * 2) = nI (m_fst z) := by
  rw [show (2 : Int32) = nI 2 from rfl, pk_rem (by omega) (by decide) (by decide), show nI z - 1 = nI (z - 1) by rw [show z = (z - 1) + 1 by omega, nI_pred, Nat.add_sub_cancel], nI_add]
  rfl
theorem m_fst_b {z n : Nat} (h : 1 ≤ z) (hz : z ≤ n) (hn : n % 4 = 0) : 1 ≤ m_fst z ∧ m_fst z + 1 ≤ n := by
  unfold m_fst
  omega
def ga_stroke (d : gDt) (x a y b t : Int32) : Int32 := (if (m_isPlace d x y) = 0 then 0 else (if (m_isPart a) = 0 then 0 else 1 : Int32) : Int32)
def gb_stroke (d : gDt) (x a y b t : Int32) : Int32 := (if (if (m_isPlace d x y) = 0 then 0 else (if (m_isPart a) = 0 then 0 else 1 : Int32) : Int32) = 0 then 0 else (if (f_in b 0 3) = 0 then 0 else (if (f_in t 0 ((m_den a b) - 1)) = 0 then 0 else 1 : Int32) : Int32) : Int32)
def gc_stroke (d : gDt) (x a y b t : Int32) : Int32 := 1
abbrev rm_X6_stroke : Room := { frames := 4, cells := 0, slots := 0, locals := 158 }
theorem nm_X6_stroke : gNm yX6_stroke 5 := ⟨by decide +kernel, by decide +kernel, by decide +kernel⟩
set_option maxHeartbeats 8000000 in
set_option maxRecDepth 100000 in
theorem c_X6_stroke (l : Launch) (hfl : l.stackTraces = false) (D : va_G) (tc : Nat → ClassId) (A : Nat → Prop) (w : gW) (ad : Nat → Nat) (d : gDt) (tk : Int64) (st : Nat → Int64) (x : Int32) (a : Int32) (y : Int32) (b : Int32) (t : Int32) (hM : mW tc w ad d tk st) (hOk : mOk d) : gM l yX6_stroke cX6_stroke 12 (some .int) rm_X6_stroke D tc A [.ref (ad 0), .int x, .int a, .int y, .int b, .int t] w (fun v w' => (m_go (ga_stroke d x a y b t) (gb_stroke d x a y b t) (gc_stroke d x a y b t) = 0 ∧ (∃ r, v = some (.int r)) ∧ mW tc w' ad (sL d (m_la (ga_stroke d x a y b t) (gb_stroke d x a y b t) (gc_stroke d x a y b t))) tk st ∧ gF w w') ∨ (¬ m_go (ga_stroke d x a y b t) (gb_stroke d x a y b t) (gc_stroke d x a y b t) = 0 ∧ v = some (.int (m_stroke d x a y b t)) ∧ mW tc w' ad (sL d 0) tk st ∧ gF w w')) (fun _ => False) := by
  refine gM_of (by decide +kernel) (Nat.le_of_ble_eq_true rfl) ?_
  intro p e s m args below meth c ls Q hQ hE hG hr hnt hnm hl
  have hx := hE.1
  have hb := hE.2.1
  have hl : lv_has ls 12 [(0, .ref (ad 0)), (1, .int x), (2, .int a), (3, .int y), (4, .int b), (5, .int t)] := hl
  obtain ⟨o0, o1, o2, o3, o4, o5, o6, o7, o8, o9, o10⟩ := hM
  refine lv_aload_n hx hb dX6_stroke_0 rfl (lv_at hl 0 rfl) ?_
  refine lv_iload_n hx hb dX6_stroke_1 rfl (lv_at hl 1 rfl) ?_
  refine lv_iload_n hx hb dX6_stroke_2 rfl (lv_at hl 3 rfl) ?_
  refine g_callV (rest := []) (As := [.int x, .int y]) hE hG hl.1 (c_X6_isPlace l hfl D tc A w ad d tk st x y ⟨o0, o1, o2, o3, o4, o5, o6, o7, o8, o9, o10⟩ hOk) o0 rfl mw4_58 mw4_60 mws_14 mw1_4 mw4_61 rfl nm_X6_isPlace ⟨⟨Nat.le_of_ble_eq_true rfl, Nat.le_of_ble_eq_true rfl⟩, Nat.le_of_ble_eq_true rfl, Nat.le_of_ble_eq_true rfl⟩ rfl rfl (Nat.le_of_ble_eq_true rfl) dX6_stroke_3 (g_no) ?_
  intro v9 w9 H locs h9 hG
  obtain ⟨e9, f9⟩ := h9
  rw [f9] at hG; rw [e9]; clear e9 f9
  show W p l e _ s m args below meth c H locs _ _ _ (F0 m 6 ls [.int (m_isPlace d x y)])
  have j_2 : ∀ (v_1 : Int32) (H : Heap) (locs : List Loc), v_1 = (if (m_isPlace d x y) = 0 then 0 else (if (m_isPart a) = 0 then 0 else 1 : Int32) : Int32) → gS D A s.heap w H locs → W p l e rm_X6_stroke s m args below meth c H locs (0 + rm_X6_isPlace.cells) (0 + rm_X6_isPlace.slots) Q (F0 m 21 ls (.int v_1 :: [])) := by
    intro v_1 H locs ev_1 hG
    refine lv_istore (lv' := [(6, .int v_1), (0, .ref (ad 0)), (1, .int x), (2, .int a), (3, .int y), (4, .int b), (5, .int t)]) hx hb dX6_stroke_21 hl (by decide) rfl (fun ls hl => ?_)
    refine lv_iload hx hb dX6_stroke_23 (lv_at hl 0 rfl) ?_
    have j_4 : ∀ (v_3 : Int32) (H : Heap) (locs : List Loc), v_3 = (if v_1 = 0 then 0 else (if (f_in b 0 3) = 0 then 0 else (if (f_in t 0 ((m_den a b) - 1)) = 0 then 0 else 1 : Int32) : Int32) : Int32) → gS D A s.heap w H locs → W p l e rm_X6_stroke s m args below meth c H locs (0 + rm_X6_isPlace.cells) (0 + rm_X6_isPlace.slots) Q (F0 m 60 ls (.int v_3 :: [])) := by
      intro v_3 H locs ev_3 hG
      refine lv_istore (lv' := [(7, .int v_3), (6, .int v_1), (0, .ref (ad 0)), (1, .int x), (2, .int a), (3, .int y), (4, .int b), (5, .int t)]) hx hb dX6_stroke_60 hl (by decide) rfl (fun ls hl => ?_)
      refine lv_aload_n hx hb dX6_stroke_62 rfl (lv_at hl 2 rfl) ?_
      refine lv_iload hx hb dX6_stroke_63 (lv_at hl 1 rfl) ?_
      refine lv_iload hx hb dX6_stroke_65 (lv_at hl 0 rfl) ?_
      refine lv_iconst (v := 1) hx hb dX6_stroke_67 (by decide) ?_
      refine g_callV (rest := []) (As := [.int v_1, .int v_3, .int 1]) hE hG hl.1 (c_X6_goes l hfl D tc A w ad d tk st v_1 v_3 1 ⟨o0, o1, o2, o3, o4, o5, o6, o7, o8, o9, o10⟩ ) o0 rfl mw4_38 mw4_40 mws_12 mw1_4 mw4_41 rfl nm_X6_goes ⟨⟨Nat.le_of_ble_eq_true rfl, Nat.le_of_ble_eq_true rfl⟩, Nat.le_of_ble_eq_true rfl, Nat.le_of_ble_eq_true rfl⟩ rfl rfl (Nat.le_of_ble_eq_true rfl) dX6_stroke_68 (g_no) ?_
      intro v9 w_5 H locs h9 hG
      obtain ⟨e9, ew_5⟩ := h9
      rw [e9]; clear e9
      show W p l e _ s m args below meth c H locs _ _ _ (F0 m 71 ls [.int (m_go v_1 v_3 1)])
      have h_6 : w_5 1001 = some ((ad 1), .inl (tc 0, 4, .inl (d 0))) := gU_n ew_5 (by decide) o1
      have h_7 : w_5 1002 = some ((ad 2), .inl (tc 0, 6, .inl (d 1))) := gU_n ew_5 (by decide) o2
      have h_8 : w_5 1003 = some ((ad 3), .inl (tc 0, 6, .inl (d 2))) := gU_n ew_5 (by decide) o3
      have h_9 : w_5 1004 = some ((ad 4), .inl (tc 0, 390, .inl (d 3))) := gU_n ew_5 (by decide) o4
      have h_10 : w_5 1005 = some ((ad 5), .inl (tc 1, 4, .inr (.inl st))) := gU_n ew_5 (by decide) o5
      have h_11 : w_5 1006 = some ((ad 6), .inl (tc 0, 32, .inl (d 4))) := gU_n ew_5 (by decide) o6
      have h_12 : w_5 1007 = some ((ad 7), .inl (tc 0, 4, .inl (d 5))) := gU_n ew_5 (by decide) o7
      have h_13 : w_5 1008 = some ((ad 8), .inl (tc 0, 8, .inl (d 6))) := gU_n ew_5 (by decide) o8
      have h_14 : w_5 1009 = some ((ad 9), .inl (tc 2, 48, .inl (d 7))) := gU_n ew_5 (by decide) o9
      have h_15 : w_5 1010 = some ((ad 10), .inl (tc 0, 3120, .inl (d 8))) := gU_n ew_5 (by decide) o10
      have h_16 : w_5 1000 = some ((ad 0), .inr (6, [.ref (ad 1), .int (d 9 0), .ref (ad 2), .ref (ad 3), .ref (ad 4), .int (d 9 1), .int (d 9 2), .int (d 9 3), .int (d 9 4), .int (d 9 5), .int (d 9 6), .int (d 9 7), .int (d 9 8), .int (d 9 9), .long tk, .ref (ad 5), .int (d 9 10), .int (d 9 11), .ref (ad 6), .ref (ad 7), .int (d 9 12), .ref (ad 8), .ref (ad 9), .ref (ad 10), .int (d 9 13), .int (m_la v_1 v_3 1)])) := gU_s ew_5
      refine lv_if_ne (tgt := 76) hx hb dX6_stroke_71 (by decide) (fun c_17 => ?_) (fun c_17 => ?_)
      · skip
        have hkn := (m_go_ne c_17).1
        try rw [ev_1] at hkn
        try rw [ev_3] at hkn
        obtain ⟨i, z, hi, hz1, hz2, hxi, hyz⟩ := m_isPlace_ne hOk (and_ne hkn).1
        have hg_v_1 : v_1 = ga_stroke d x a y b t := ev_1
        subst hg_v_1
        have hg_v_3 : v_3 = gb_stroke d x a y b t := ev_3
        subst hg_v_3
        subst hxi
        subst hyz
        have hfb := m_fst_b hz1 hz2 (mOk_len hOk hi).2.2.2
        refine lv_iload_n hx hb dX6_stroke_76 rfl (lv_at hl 5 rfl) ?_
        refine lv_iconst (v := 1) hx hb dX6_stroke_77 (by decide) ?_
        refine lv_isub hx hb dX6_stroke_78 ?_
        refine lv_iload_n hx hb dX6_stroke_79 rfl (lv_at hl 5 rfl) ?_
        refine lv_iconst (v := 2) hx hb dX6_stroke_80 (by decide) ?_
        refine lv_irem hx hb dX6_stroke_81 (by decide) ?_
        refine lv_iadd hx hb dX6_stroke_82 ?_
        rw [m_fst_e hz1 (by have := (mOk_len hOk hi).2.2.1; omega)]
        refine lv_istore (lv' := [(8, .int (nI (m_fst z))), (7, .int (gb_stroke d (nI i) a (nI z) b t)), (6, .int (ga_stroke d (nI i) a (nI z) b t)), (0, .ref (ad 0)), (1, .int (nI i)), (2, .int a), (3, .int (nI z)), (4, .int b), (5, .int t)]) hx hb dX6_stroke_83 hl (by decide) rfl (fun ls hl => ?_)
        refine lv_aload_n hx hb dX6_stroke_85 rfl (lv_at hl 3 rfl) ?_
        refine lv_iload_n hx hb dX6_stroke_86 rfl (lv_at hl 4 rfl) ?_
        refine lv_iload hx hb dX6_stroke_87 (lv_at hl 0 rfl) ?_
        refine g_callV (rest := []) (As := [.int (nI i), .int (nI (m_fst z))]) hE hG hl.1 (c_X6_soundOf l hfl D tc A w_5 ad (gD d 9 (upd (d 9) 14 (m_la (ga_stroke d (nI i) a (nI z) b t) (gb_stroke d (nI i) a (nI z) b t) 1))) tk st i (m_fst z) ⟨h_16, h_6, h_7, h_8, h_9, h_10, h_11, h_12, h_13, h_14, h_15⟩ hOk hi ⟨hfb.1, Nat.le_of_succ_le hfb.2⟩) h_16 rfl mw4_78 mw4_80 mws_17 mw1_4 mw4_81 rfl nm_X6_soundOf ⟨⟨Nat.le_of_ble_eq_true rfl, Nat.le_of_ble_eq_true rfl⟩, Nat.le_of_ble_eq_true rfl, Nat.le_of_ble_eq_true rfl⟩ rfl rfl (Nat.le_of_ble_eq_true rfl) dX6_stroke_89 (g_no) ?_
        intro v9 w9 H locs h9 hG
        obtain ⟨e9, f9⟩ := h9
        rw [f9] at hG; rw [e9]; clear e9 f9
        show W p l e _ s m args below meth c H locs _ _ _ (F0 m 92 ls [.int (m_snd d i (m_fst z))])
        refine lv_istore (lv' := [(9, .int (m_snd d i (m_fst z))), (8, .int (nI (m_fst z))), (7, .int (gb_stroke d (nI i) a (nI z) b t)), (6, .int (ga_stroke d (nI i) a (nI z) b t)), (0, .ref (ad 0)), (1, .int (nI i)), (2, .int a), (3, .int (nI z)), (4, .int b), (5, .int t)]) hx hb dX6_stroke_92 hl (by decide) rfl (fun ls hl => ?_)
        refine lv_aload_n hx hb dX6_stroke_94 rfl (lv_at hl 4 rfl) ?_
        refine lv_iload_n hx hb dX6_stroke_95 rfl (lv_at hl 5 rfl) ?_
        refine lv_iload hx hb dX6_stroke_96 (lv_at hl 1 rfl) ?_
        refine lv_iconst (v := 1) hx hb dX6_stroke_98 (by decide) ?_
        refine lv_iadd hx hb dX6_stroke_99 ?_
        rw [nI_1]
        refine g_callV (rest := []) (As := [.int (nI i), .int (nI (m_fst z + 1))]) hE hG hl.1 (c_X6_soundOf l hfl D tc A w_5 ad (gD d 9 (upd (d 9) 14 (m_la (ga_stroke d (nI i) a (nI z) b t) (gb_stroke d (nI i) a (nI z) b t) 1))) tk st i (m_fst z + 1) ⟨h_16, h_6, h_7, h_8, h_9, h_10, h_11, h_12, h_13, h_14, h_15⟩ hOk hi ⟨Nat.le_add_left 1 _, hfb.2⟩) h_16 rfl mw4_78 mw4_80 mws_17 mw1_4 mw4_81 rfl nm_X6_soundOf ⟨⟨Nat.le_of_ble_eq_true rfl, Nat.le_of_ble_eq_true rfl⟩, Nat.le_of_ble_eq_true rfl, Nat.le_of_ble_eq_true rfl⟩ rfl rfl (Nat.le_of_ble_eq_true rfl) dX6_stroke_100 (g_no) ?_
        intro v9 w9 H locs h9 hG
        obtain ⟨e9, f9⟩ := h9
        rw [f9] at hG; rw [e9]; clear e9 f9
        show W p l e _ s m args below meth c H locs _ _ _ (F0 m 103 ls [.int (m_snd d i (m_fst z + 1))])
        refine lv_istore (lv' := [(10, .int (m_snd d i (m_fst z + 1))), (9, .int (m_snd d i (m_fst z))), (8, .int (nI (m_fst z))), (7, .int (gb_stroke d (nI i) a (nI z) b t)), (6, .int (ga_stroke d (nI i) a (nI z) b t)), (0, .ref (ad 0)), (1, .int (nI i)), (2, .int a), (3, .int (nI z)), (4, .int b), (5, .int t)]) hx hb dX6_stroke_103 hl (by decide) rfl (fun ls hl => ?_)
        refine lv_iload_n hx hb dX6_stroke_105 rfl (lv_at hl 7 rfl) ?_
        refine lv_iload hx hb dX6_stroke_106 (lv_at hl 9 rfl) ?_
        refine g_callS (rest := []) (As := [.int a, .int b]) hE hG hl.1 (c_X6_density l hfl D tc A w_5 a b ) mw4_89 mw4_90 mw1_4 mw4_91 nm_X6_density ⟨⟨Nat.le_of_ble_eq_true rfl, Nat.le_of_ble_eq_true rfl⟩, Nat.le_of_ble_eq_true rfl, Nat.le_of_ble_eq_true rfl⟩ rfl rfl (Nat.le_of_ble_eq_true rfl) dX6_stroke_108 (g_no) ?_
        intro v9 w9 H locs h9 hG
        obtain ⟨e9, f9⟩ := h9
        rw [f9] at hG; rw [e9]; clear e9 f9
        show W p l e _ s m args below meth c H locs _ _ _ (F0 m 111 ls [.int (m_den a b)])
        refine lv_istore (lv' := [(11, .int (m_den a b)), (10, .int (m_snd d i (m_fst z + 1))), (9, .int (m_snd d i (m_fst z))), (8, .int (nI (m_fst z))), (7, .int (gb_stroke d (nI i) a (nI z) b t)), (6, .int (ga_stroke d (nI i) a (nI z) b t)), (0, .ref (ad 0)), (1, .int (nI i)), (2, .int a), (3, .int (nI z)), (4, .int b), (5, .int t)]) hx hb dX6_stroke_111 hl (by decide) rfl (fun ls hl => ?_)
        refine lv_iload_n hx hb dX6_stroke_113 rfl (lv_at hl 8 rfl) ?_
        refine lv_iload hx hb dX6_stroke_114 (lv_at hl 0 rfl) ?_
        refine lv_iload_n hx hb dX6_stroke_116 rfl (lv_at hl 9 rfl) ?_
        refine lv_iload hx hb dX6_stroke_117 (lv_at hl 3 rfl) ?_
        have j_19 : ∀ (v_18 : Int32) (H : Heap) (locs : List Loc), v_18 = (if (nI z) = (nI (m_fst z)) then t else ((m_den a b) + t) : Int32) → gS D A s.heap w_5 H locs → W p l e rm_X6_stroke s m args below meth c H locs (((((0 + rm_X6_isPlace.cells) + rm_X6_goes.cells) + rm_X6_soundOf.cells) + rm_X6_soundOf.cells) + rm_X6_density.cells) (((((0 + rm_X6_isPlace.slots) + rm_X6_goes.slots) + rm_X6_soundOf.slots) + rm_X6_soundOf.slots) + rm_X6_density.slots) Q (F0 m 132 ls (.int v_18 :: [.int (m_den a b), .int a])) := by
          intro v_18 H locs ev_18 hG
          refine lv_iload hx hb dX6_stroke_132 (lv_at hl 2 rfl) ?_
          refine lv_iload hx hb dX6_stroke_134 (lv_at hl 1 rfl) ?_
          refine g_callS (rest := []) (As := [.int a, .int (m_den a b), .int v_18, .int (m_snd d i (m_fst z)), .int (m_snd d i (m_fst z + 1))]) hE hG hl.1 (c_X6_strikes l hfl D tc A w_5 a (m_den a b) v_18 (m_snd d i (m_fst z)) (m_snd d i (m_fst z + 1)) ) mw4_92 mw4_93 mw1_4 mw4_94 nm_X6_strikes ⟨⟨Nat.le_of_ble_eq_true rfl, Nat.le_of_ble_eq_true rfl⟩, Nat.le_of_ble_eq_true rfl, Nat.le_of_ble_eq_true rfl⟩ rfl rfl (Nat.le_of_ble_eq_true rfl) dX6_stroke_136 (g_no) ?_
          intro v9 w9 H locs h9 hG
          obtain ⟨e9, f9⟩ := h9
          rw [f9] at hG; rw [e9]; clear e9 f9
          show W p l e _ s m args below meth c H locs _ _ _ (F0 m 139 ls [.int (m_str a (m_den a b) v_18 (m_snd d i (m_fst z)) (m_snd d i (m_fst z + 1)))])
          subst hQ
          subst ev_18
          rw [m_la_ok c_17] at h_16
          exact g_iret hE hG hr (Nat.le_of_ble_eq_true rfl) (Nat.le_of_ble_eq_true rfl) dX6_stroke_139 (Or.inr ⟨c_17, (by unfold m_stroke; rw [nI_clamp (by have := hOk.1.2.1; have := (mOk_len hOk hi).2.2.1; omega), nI_clamp (by have := hOk.1.2.1; have := (mOk_len hOk hi).2.2.1; omega)]), ⟨h_16, h_6, h_7, h_8, h_9, h_10, h_11, h_12, h_13, h_14, h_15⟩, gF_u (gF_rf w) ew_5 (by decide)⟩)
        refine lv_icmp_ne (tgt := 127) hx hb dX6_stroke_119 (by decide) (fun c_20 => ?_) (fun c_20 => ?_)
        · skip
          refine lv_iload hx hb dX6_stroke_127 (lv_at hl 0 rfl) ?_
          refine lv_iload hx hb dX6_stroke_129 (lv_at hl 11 rfl) ?_
          refine lv_iadd hx hb dX6_stroke_131 ?_
          exact j_19 _ _ _ (by rw [if_neg c_20]) hG
        · skip
          refine lv_iload hx hb dX6_stroke_122 (lv_at hl 11 rfl) ?_
          refine lv_goto (tgt := 132) hx hb dX6_stroke_124 (by decide) ?_
          exact j_19 _ _ _ (by rw [if_pos c_20]) hG
      · skip
        refine lv_iconst (v := 0) hx hb dX6_stroke_74 (by decide) ?_
        subst hQ
        have hg_v_1 : v_1 = ga_stroke d x a y b t := ev_1
        subst hg_v_1
        have hg_v_3 : v_3 = gb_stroke d x a y b t := ev_3
        subst hg_v_3
        exact g_iret hE hG hr (Nat.le_of_ble_eq_true rfl) (Nat.le_of_ble_eq_true rfl) dX6_stroke_75 (Or.inl ⟨c_17, ⟨_, rfl⟩, mW_mk h_16 h_6 h_7 h_8 h_9 h_10 h_11 h_12 h_13 h_14 h_15, gF_u (gF_rf w) ew_5 (by decide)⟩)
    refine lv_if_eq (tgt := 59) hx hb dX6_stroke_25 (by decide) (fun c_21 => ?_) (fun c_21 => ?_)
    · skip
      refine lv_iconst (v := 0) hx hb dX6_stroke_59 (by decide) ?_
      exact j_4 _ _ _ (by rw [if_pos c_21]) hG
    · skip
      refine lv_iload hx hb dX6_stroke_28 (lv_at hl 5 rfl) ?_
      refine lv_iconst (v := 0) hx hb dX6_stroke_30 (by decide) ?_
      refine lv_iconst (v := 3) hx hb dX6_stroke_31 (by decide) ?_
      refine g_callS (rest := []) (As := [.int b, .int 0, .int 3]) hE hG hl.1 (c_X6_in l hfl D tc A w b 0 3 ) mw4_35 mw4_36 mw1_4 mw4_37 nm_X6_in ⟨⟨Nat.le_of_ble_eq_true rfl, Nat.le_of_ble_eq_true rfl⟩, Nat.le_of_ble_eq_true rfl, Nat.le_of_ble_eq_true rfl⟩ rfl rfl (Nat.le_of_ble_eq_true rfl) dX6_stroke_32 (g_no) ?_
      intro v9 w9 H locs h9 hG
      obtain ⟨e9, f9⟩ := h9
      rw [f9] at hG; rw [e9]; clear e9 f9
      show W p l e _ s m args below meth c H locs _ _ _ (F0 m 35 ls [.int (f_in b 0 3)])
      refine lv_if_eq (tgt := 59) hx hb dX6_stroke_35 (by decide) (fun c_22 => ?_) (fun c_22 => ?_)
      · skip
        refine lv_iconst (v := 0) hx hb dX6_stroke_59 (by decide) ?_
        exact j_4 _ _ _ (by rw [if_neg c_21, if_pos c_22]) hG
      · skip
        refine lv_iload hx hb dX6_stroke_38 (lv_at hl 6 rfl) ?_
        refine lv_iconst (v := 0) hx hb dX6_stroke_40 (by decide) ?_
        refine lv_iload_n hx hb dX6_stroke_41 rfl (lv_at hl 3 rfl) ?_
        refine lv_iload hx hb dX6_stroke_42 (lv_at hl 5 rfl) ?_
        refine g_callS (rest := [.int 0, .int t]) (As := [.int a, .int b]) hE hG hl.1 (c_X6_density l hfl D tc A w a b ) mw4_89 mw4_90 mw1_4 mw4_91 nm_X6_density ⟨⟨Nat.le_of_ble_eq_true rfl, Nat.le_of_ble_eq_true rfl⟩, Nat.le_of_ble_eq_true rfl, Nat.le_of_ble_eq_true rfl⟩ rfl rfl (Nat.le_of_ble_eq_true rfl) dX6_stroke_44 (g_no) ?_
        intro v9 w9 H locs h9 hG
        obtain ⟨e9, f9⟩ := h9
        rw [f9] at hG; rw [e9]; clear e9 f9
        show W p l e _ s m args below meth c H locs _ _ _ (F0 m 47 ls [.int (m_den a b), .int 0, .int t])
        refine lv_iconst (v := 1) hx hb dX6_stroke_47 (by decide) ?_
        refine lv_isub hx hb dX6_stroke_48 ?_
        refine g_callS (rest := []) (As := [.int t, .int 0, .int ((m_den a b) - 1)]) hE hG hl.1 (c_X6_in l hfl D tc A w t 0 ((m_den a b) - 1) ) mw4_35 mw4_36 mw1_4 mw4_37 nm_X6_in ⟨⟨Nat.le_of_ble_eq_true rfl, Nat.le_of_ble_eq_true rfl⟩, Nat.le_of_ble_eq_true rfl, Nat.le_of_ble_eq_true rfl⟩ rfl rfl (Nat.le_of_ble_eq_true rfl) dX6_stroke_49 (g_no) ?_
        intro v9 w9 H locs h9 hG
        obtain ⟨e9, f9⟩ := h9
        rw [f9] at hG; rw [e9]; clear e9 f9
        show W p l e _ s m args below meth c H locs _ _ _ (F0 m 52 ls [.int (f_in t 0 ((m_den a b) - 1))])
        refine lv_if_eq (tgt := 59) hx hb dX6_stroke_52 (by decide) (fun c_23 => ?_) (fun c_23 => ?_)
        · skip
          refine lv_iconst (v := 0) hx hb dX6_stroke_59 (by decide) ?_
          exact j_4 _ _ _ (by rw [if_neg c_21, if_neg c_22, if_pos c_23]) hG
        · skip
          refine lv_iconst (v := 1) hx hb dX6_stroke_55 (by decide) ?_
          refine lv_goto (tgt := 60) hx hb dX6_stroke_56 (by decide) ?_
          exact j_4 _ _ _ (by rw [if_neg c_21, if_neg c_22, if_neg c_23]) hG
  refine lv_if_eq (tgt := 20) hx hb dX6_stroke_6 (by decide) (fun c_24 => ?_) (fun c_24 => ?_)
  · skip
    refine lv_iconst (v := 0) hx hb dX6_stroke_20 (by decide) ?_
    exact j_2 _ _ _ (by rw [if_pos c_24]) hG
  · skip
    refine lv_iload_n hx hb dX6_stroke_9 rfl (lv_at hl 2 rfl) ?_
    refine g_callS (rest := []) (As := [.int a]) hE hG hl.1 (c_X6_isPart l hfl D tc A w a ) mw4_86 mw4_87 mw1_4 mw4_88 nm_X6_isPart ⟨⟨Nat.le_of_ble_eq_true rfl, Nat.le_of_ble_eq_true rfl⟩, Nat.le_of_ble_eq_true rfl, Nat.le_of_ble_eq_true rfl⟩ rfl rfl (Nat.le_of_ble_eq_true rfl) dX6_stroke_10 (g_no) ?_
    intro v9 w9 H locs h9 hG
    obtain ⟨e9, f9⟩ := h9
    rw [f9] at hG; rw [e9]; clear e9 f9
    show W p l e _ s m args below meth c H locs _ _ _ (F0 m 13 ls [.int (m_isPart a)])
    refine lv_if_eq (tgt := 20) hx hb dX6_stroke_13 (by decide) (fun c_25 => ?_) (fun c_25 => ?_)
    · skip
      refine lv_iconst (v := 0) hx hb dX6_stroke_20 (by decide) ?_
      exact j_2 _ _ _ (by rw [if_neg c_24, if_pos c_25]) hG
    · skip
      refine lv_iconst (v := 1) hx hb dX6_stroke_16 (by decide) ?_
      refine lv_goto (tgt := 21) hx hb dX6_stroke_17 (by decide) ?_
      exact j_2 _ _ _ (by rw [if_neg c_24, if_neg c_25]) hG
abbrev rm_X6_strokeAnew : Room := { frames := 5, cells := 0, slots := 0, locals := 194 }
theorem nm_X6_strokeAnew : gNm yX6_strokeAnew 5 := ⟨by decide +kernel, by decide +kernel, by decide +kernel⟩
set_option maxHeartbeats 4000000 in
set_option maxRecDepth 100000 in
theorem c_X6_strokeAnew (l : Launch) (hfl : l.stackTraces = false) (D : va_G) (tc : Nat → ClassId) (A : Nat → Prop) (w : gW) (ad : Nat → Nat) (d : gDt) (tk : Int64) (st : Nat → Int64) (x : Int32) (a : Int32) (y : Int32) (b : Int32) (t : Int32) (hM : mW tc w ad d tk st) (hOk : mOk d) : gM l yX6_strokeAnew cX6_strokeAnew 6 (some .int) rm_X6_strokeAnew D tc A [.ref (ad 0), .int x, .int a, .int y, .int b, .int t] w (fun v w' => (m_go (ga_stroke d x a y b t) (gb_stroke d x a y b t) (gc_stroke d x a y b t) = 0 ∧ (∃ r, v = some (.int r)) ∧ mW tc w' ad (sL d (m_la (ga_stroke d x a y b t) (gb_stroke d x a y b t) (gc_stroke d x a y b t))) tk st ∧ gF w w') ∨ (¬ m_go (ga_stroke d x a y b t) (gb_stroke d x a y b t) (gc_stroke d x a y b t) = 0 ∧ v = some (.int (m_stroke d x a y b t)) ∧ mW tc w' ad (sL d 0) tk st ∧ gF w w')) (fun _ => False) := by
  refine gM_of (by decide +kernel) (Nat.le_of_ble_eq_true rfl) ?_
  intro p e s m args below meth c ls Q hQ hE hG hr hnt hnm hl
  have hx := hE.1
  have hb := hE.2.1
  have hl : lv_has ls 6 [(0, .ref (ad 0)), (1, .int x), (2, .int a), (3, .int y), (4, .int b), (5, .int t)] := hl
  obtain ⟨o0, o1, o2, o3, o4, o5, o6, o7, o8, o9, o10⟩ := hM
  refine lv_aload_n hx hb dX6_strokeAnew_0 rfl (lv_at hl 0 rfl) ?_
  refine lv_iload_n hx hb dX6_strokeAnew_1 rfl (lv_at hl 1 rfl) ?_
  refine lv_iload_n hx hb dX6_strokeAnew_2 rfl (lv_at hl 2 rfl) ?_
  refine lv_iload_n hx hb dX6_strokeAnew_3 rfl (lv_at hl 3 rfl) ?_
  refine lv_iload hx hb dX6_strokeAnew_4 (lv_at hl 4 rfl) ?_
  refine lv_iload hx hb dX6_strokeAnew_6 (lv_at hl 5 rfl) ?_
  refine g_callV (rest := []) (As := [.int x, .int a, .int y, .int b, .int t]) hE hG hl.1 (c_X6_stroke l hfl D tc A w ad d tk st x a y b t ⟨o0, o1, o2, o3, o4, o5, o6, o7, o8, o9, o10⟩ hOk) o0 rfl mw4_102 mw4_83 mw4_84 mw1_4 mw4_85 rfl nm_X6_stroke ⟨⟨Nat.le_of_ble_eq_true rfl, Nat.le_of_ble_eq_true rfl⟩, Nat.le_of_ble_eq_true rfl, Nat.le_of_ble_eq_true rfl⟩ rfl rfl (Nat.le_of_ble_eq_true rfl) dX6_strokeAnew_8 (g_no) ?_
  intro v9 w_1 H locs h9 hG
  obtain ⟨r9, e9⟩ : ∃ r : Int32, v9 = some (.int r) := by rcases h9 with ⟨_, h, _⟩ | ⟨_, h, _⟩; exact h; exact ⟨_, h⟩
  subst e9
  show W p l e _ s m args below meth c H locs _ _ _ (F0 m 11 ls [.int r9])
  subst hQ
  exact g_iret hE hG hr (Nat.le_of_ble_eq_true rfl) (Nat.le_of_ble_eq_true rfl) dX6_strokeAnew_11 h9
def ga_begin (d : gDt) (x : Int32) : Int32 := (m_isPiece d x)
def gb_begin (d : gDt) (x : Int32) : Int32 := (if (m_isPiece d x) = 0 then 0 else (if (d 9 2) = 0 then (if ((((d 2) x.toNatClampNeg) >>> ((d 9 11) &&& 31)) &&& 1) = 0 then 1 else 0 : Int32) else 0 : Int32) : Int32)
def gc_begin (d : gDt) (x : Int32) : Int32 := 1
abbrev rm_X6_begin : Room := { frames := 4, cells := 0, slots := 0, locals := 158 }
theorem nm_X6_begin : gNm yX6_begin 1 := ⟨by decide +kernel, by decide +kernel, by decide +kernel⟩
set_option maxHeartbeats 8000000 in
set_option maxRecDepth 100000 in
theorem c_X6_begin (l : Launch) (hfl : l.stackTraces = false) (D : va_G) (tc : Nat → ClassId) (A : Nat → Prop) (w : gW) (ad : Nat → Nat) (d : gDt) (tk : Int64) (st : Nat → Int64) (x : Int32) (hM : mW tc w ad d tk st) (hOk : mOk d) : gM l yX6_begin cX6_begin 3 (some .int) rm_X6_begin D tc A [.ref (ad 0), .int x] w (fun v w' => (m_go (ga_begin d x) (gb_begin d x) (gc_begin d x) = 0 ∧ (∃ r, v = some (.int r)) ∧ mW tc w' ad (sL d (m_la (ga_begin d x) (gb_begin d x) (gc_begin d x))) tk st ∧ gF w w') ∨ (¬ m_go (ga_begin d x) (gb_begin d x) (gc_begin d x) = 0 ∧ v = some (.int (d 9 10 + 1)) ∧ mW tc w' ad (sL (gD d 9 (upd (upd (upd (upd (upd (upd (upd (upd (upd (d 9) 2 1) 3 x) 4 0) 5 20) 6 0) 7 0) 8 0) 9 0) 10 (d 9 10 + 1))) 0) tk st ∧ gF w w')) (fun _ => False) := by
  refine gM_of (by decide +kernel) (Nat.le_of_ble_eq_true rfl) ?_
  intro p e s m args below meth c ls Q hQ hE hG hr hnt hnm hl
  have hx := hE.1
  have hb := hE.2.1
  have hl : lv_has ls 3 [(0, .ref (ad 0)), (1, .int x)] := hl
  obtain ⟨o0, o1, o2, o3, o4, o5, o6, o7, o8, o9, o10⟩ := hM
  refine lv_aload_n hx hb dX6_begin_0 rfl (lv_at hl 0 rfl) ?_
  refine lv_iload_n hx hb dX6_begin_1 rfl (lv_at hl 1 rfl) ?_
  refine g_callV (rest := []) (As := [.int x]) hE hG hl.1 (c_X6_isPiece l hfl D tc A w ad d tk st x ⟨o0, o1, o2, o3, o4, o5, o6, o7, o8, o9, o10⟩ ) o0 rfl mw4_62 mw4_64 mws_15 mw1_4 mw4_65 rfl nm_X6_isPiece ⟨⟨Nat.le_of_ble_eq_true rfl, Nat.le_of_ble_eq_true rfl⟩, Nat.le_of_ble_eq_true rfl, Nat.le_of_ble_eq_true rfl⟩ rfl rfl (Nat.le_of_ble_eq_true rfl) dX6_begin_2 (g_no) ?_
  intro v9 w9 H locs h9 hG
  obtain ⟨e9, f9⟩ := h9
  rw [f9] at hG; rw [e9]; clear e9 f9
  show W p l e _ s m args below meth c H locs _ _ _ (F0 m 5 ls [.int (m_isPiece d x)])
  refine lv_istore_n (lv' := [(2, .int (m_isPiece d x)), (0, .ref (ad 0)), (1, .int x)]) hx hb dX6_begin_5 rfl hl (by decide) rfl (fun ls hl => ?_)
  refine lv_aload_n hx hb dX6_begin_6 rfl (lv_at hl 1 rfl) ?_
  refine lv_iload_n hx hb dX6_begin_7 rfl (lv_at hl 0 rfl) ?_
  refine lv_iload_n hx hb dX6_begin_8 rfl (lv_at hl 0 rfl) ?_
  have j_2 : ∀ (v_1 : Int32) (H : Heap) (locs : List Loc), v_1 = (if (m_isPiece d x) = 0 then 0 else (if (d 9 2) = 0 then (if ((((d 2) x.toNatClampNeg) >>> ((d 9 11) &&& 31)) &&& 1) = 0 then 1 else 0 : Int32) else 0 : Int32) : Int32) → gS D A s.heap w H locs → W p l e rm_X6_begin s m args below meth c H locs (0 + rm_X6_isPiece.cells) (0 + rm_X6_isPiece.slots) Q (F0 m 40 ls (.int v_1 :: [.int (m_isPiece d x), .ref (ad 0)])) := by
    intro v_1 H locs ev_1 hG
    refine lv_iconst (v := 1) hx hb dX6_begin_40 (by decide) ?_
    refine g_callV (rest := []) (As := [.int (m_isPiece d x), .int v_1, .int 1]) hE hG hl.1 (c_X6_goes l hfl D tc A w ad d tk st (m_isPiece d x) v_1 1 ⟨o0, o1, o2, o3, o4, o5, o6, o7, o8, o9, o10⟩ ) o0 rfl mw4_38 mw4_40 mws_12 mw1_4 mw4_41 rfl nm_X6_goes ⟨⟨Nat.le_of_ble_eq_true rfl, Nat.le_of_ble_eq_true rfl⟩, Nat.le_of_ble_eq_true rfl, Nat.le_of_ble_eq_true rfl⟩ rfl rfl (Nat.le_of_ble_eq_true rfl) dX6_begin_41 (g_no) ?_
    intro v9 w_3 H locs h9 hG
    obtain ⟨e9, ew_3⟩ := h9
    rw [e9]; clear e9
    show W p l e _ s m args below meth c H locs _ _ _ (F0 m 44 ls [.int (m_go (m_isPiece d x) v_1 1)])
    have h_4 : w_3 1001 = some ((ad 1), .inl (tc 0, 4, .inl (d 0))) := gU_n ew_3 (by decide) o1
    have h_5 : w_3 1002 = some ((ad 2), .inl (tc 0, 6, .inl (d 1))) := gU_n ew_3 (by decide) o2
    have h_6 : w_3 1003 = some ((ad 3), .inl (tc 0, 6, .inl (d 2))) := gU_n ew_3 (by decide) o3
    have h_7 : w_3 1004 = some ((ad 4), .inl (tc 0, 390, .inl (d 3))) := gU_n ew_3 (by decide) o4
    have h_8 : w_3 1005 = some ((ad 5), .inl (tc 1, 4, .inr (.inl st))) := gU_n ew_3 (by decide) o5
    have h_9 : w_3 1006 = some ((ad 6), .inl (tc 0, 32, .inl (d 4))) := gU_n ew_3 (by decide) o6
    have h_10 : w_3 1007 = some ((ad 7), .inl (tc 0, 4, .inl (d 5))) := gU_n ew_3 (by decide) o7
    have h_11 : w_3 1008 = some ((ad 8), .inl (tc 0, 8, .inl (d 6))) := gU_n ew_3 (by decide) o8
    have h_12 : w_3 1009 = some ((ad 9), .inl (tc 2, 48, .inl (d 7))) := gU_n ew_3 (by decide) o9
    have h_13 : w_3 1010 = some ((ad 10), .inl (tc 0, 3120, .inl (d 8))) := gU_n ew_3 (by decide) o10
    have h_14 : w_3 1000 = some ((ad 0), .inr (6, [.ref (ad 1), .int (d 9 0), .ref (ad 2), .ref (ad 3), .ref (ad 4), .int (d 9 1), .int (d 9 2), .int (d 9 3), .int (d 9 4), .int (d 9 5), .int (d 9 6), .int (d 9 7), .int (d 9 8), .int (d 9 9), .long tk, .ref (ad 5), .int (d 9 10), .int (d 9 11), .ref (ad 6), .ref (ad 7), .int (d 9 12), .ref (ad 8), .ref (ad 9), .ref (ad 10), .int (d 9 13), .int (m_la (m_isPiece d x) v_1 1)])) := gU_s ew_3
    refine lv_if_ne (tgt := 49) hx hb dX6_begin_44 (by decide) (fun c_15 => ?_) (fun c_15 => ?_)
    · skip
      refine lv_aload_n hx hb dX6_begin_49 rfl (lv_at hl 1 rfl) ?_
      refine lv_iconst (v := 1) hx hb dX6_begin_50 (by decide) ?_
      refine g_put hE hG h_14 rfl inG6 tyX6 tyX6_ok nmX6 6 (by decide) mw3_193 rfl (by decide) (by decide) (Nat.le_of_ble_eq_true rfl) dX6_begin_51 (fun H locs w_16 ew_16 hG => ?_)
      have h_17 : w_16 1001 = some ((ad 1), .inl (tc 0, 4, .inl (d 0))) := gU_n ew_16 (by decide) h_4
      have h_18 : w_16 1002 = some ((ad 2), .inl (tc 0, 6, .inl (d 1))) := gU_n ew_16 (by decide) h_5
      have h_19 : w_16 1003 = some ((ad 3), .inl (tc 0, 6, .inl (d 2))) := gU_n ew_16 (by decide) h_6
      have h_20 : w_16 1004 = some ((ad 4), .inl (tc 0, 390, .inl (d 3))) := gU_n ew_16 (by decide) h_7
      have h_21 : w_16 1005 = some ((ad 5), .inl (tc 1, 4, .inr (.inl st))) := gU_n ew_16 (by decide) h_8
      have h_22 : w_16 1006 = some ((ad 6), .inl (tc 0, 32, .inl (d 4))) := gU_n ew_16 (by decide) h_9
      have h_23 : w_16 1007 = some ((ad 7), .inl (tc 0, 4, .inl (d 5))) := gU_n ew_16 (by decide) h_10
      have h_24 : w_16 1008 = some ((ad 8), .inl (tc 0, 8, .inl (d 6))) := gU_n ew_16 (by decide) h_11
      have h_25 : w_16 1009 = some ((ad 9), .inl (tc 2, 48, .inl (d 7))) := gU_n ew_16 (by decide) h_12
      have h_26 : w_16 1010 = some ((ad 10), .inl (tc 0, 3120, .inl (d 8))) := gU_n ew_16 (by decide) h_13
      have h_27 : w_16 1000 = some ((ad 0), .inr (6, [.ref (ad 1), .int (d 9 0), .ref (ad 2), .ref (ad 3), .ref (ad 4), .int (d 9 1), .int 1, .int (d 9 3), .int (d 9 4), .int (d 9 5), .int (d 9 6), .int (d 9 7), .int (d 9 8), .int (d 9 9), .long tk, .ref (ad 5), .int (d 9 10), .int (d 9 11), .ref (ad 6), .ref (ad 7), .int (d 9 12), .ref (ad 8), .ref (ad 9), .ref (ad 10), .int (d 9 13), .int (m_la (m_isPiece d x) v_1 1)])) := gU_s ew_16
      refine lv_aload_n hx hb dX6_begin_54 rfl (lv_at hl 1 rfl) ?_
      refine lv_iload_n hx hb dX6_begin_55 rfl (lv_at hl 2 rfl) ?_
      refine g_put hE hG h_27 rfl inG6 tyX6 tyX6_ok nmX6 7 (by decide) mw3_194 rfl rfl rfl (Nat.le_of_ble_eq_true rfl) dX6_begin_56 (fun H locs w_28 ew_28 hG => ?_)
      have h_29 : w_28 1001 = some ((ad 1), .inl (tc 0, 4, .inl (d 0))) := gU_n ew_28 (by decide) h_17
      have h_30 : w_28 1002 = some ((ad 2), .inl (tc 0, 6, .inl (d 1))) := gU_n ew_28 (by decide) h_18
      have h_31 : w_28 1003 = some ((ad 3), .inl (tc 0, 6, .inl (d 2))) := gU_n ew_28 (by decide) h_19
      have h_32 : w_28 1004 = some ((ad 4), .inl (tc 0, 390, .inl (d 3))) := gU_n ew_28 (by decide) h_20
      have h_33 : w_28 1005 = some ((ad 5), .inl (tc 1, 4, .inr (.inl st))) := gU_n ew_28 (by decide) h_21
      have h_34 : w_28 1006 = some ((ad 6), .inl (tc 0, 32, .inl (d 4))) := gU_n ew_28 (by decide) h_22
      have h_35 : w_28 1007 = some ((ad 7), .inl (tc 0, 4, .inl (d 5))) := gU_n ew_28 (by decide) h_23
      have h_36 : w_28 1008 = some ((ad 8), .inl (tc 0, 8, .inl (d 6))) := gU_n ew_28 (by decide) h_24
      have h_37 : w_28 1009 = some ((ad 9), .inl (tc 2, 48, .inl (d 7))) := gU_n ew_28 (by decide) h_25
      have h_38 : w_28 1010 = some ((ad 10), .inl (tc 0, 3120, .inl (d 8))) := gU_n ew_28 (by decide) h_26
      have h_39 : w_28 1000 = some ((ad 0), .inr (6, [.ref (ad 1), .int (d 9 0), .ref (ad 2), .ref (ad 3), .ref (ad 4), .int (d 9 1), .int 1, .int x, .int (d 9 4), .int (d 9 5), .int (d 9 6), .int (d 9 7), .int (d 9 8), .int (d 9 9), .long tk, .ref (ad 5), .int (d 9 10), .int (d 9 11), .ref (ad 6), .ref (ad 7), .int (d 9 12), .ref (ad 8), .ref (ad 9), .ref (ad 10), .int (d 9 13), .int (m_la (m_isPiece d x) v_1 1)])) := gU_s ew_28
      refine lv_aload_n hx hb dX6_begin_59 rfl (lv_at hl 1 rfl) ?_
      refine lv_iconst (v := 0) hx hb dX6_begin_60 (by decide) ?_
      refine g_put hE hG h_39 rfl inG6 tyX6 tyX6_ok nmX6 8 (by decide) mw3_195 rfl rfl rfl (Nat.le_of_ble_eq_true rfl) dX6_begin_61 (fun H locs w_40 ew_40 hG => ?_)
      have h_41 : w_40 1001 = some ((ad 1), .inl (tc 0, 4, .inl (d 0))) := gU_n ew_40 (by decide) h_29
      have h_42 : w_40 1002 = some ((ad 2), .inl (tc 0, 6, .inl (d 1))) := gU_n ew_40 (by decide) h_30
      have h_43 : w_40 1003 = some ((ad 3), .inl (tc 0, 6, .inl (d 2))) := gU_n ew_40 (by decide) h_31
      have h_44 : w_40 1004 = some ((ad 4), .inl (tc 0, 390, .inl (d 3))) := gU_n ew_40 (by decide) h_32
      have h_45 : w_40 1005 = some ((ad 5), .inl (tc 1, 4, .inr (.inl st))) := gU_n ew_40 (by decide) h_33
      have h_46 : w_40 1006 = some ((ad 6), .inl (tc 0, 32, .inl (d 4))) := gU_n ew_40 (by decide) h_34
      have h_47 : w_40 1007 = some ((ad 7), .inl (tc 0, 4, .inl (d 5))) := gU_n ew_40 (by decide) h_35
      have h_48 : w_40 1008 = some ((ad 8), .inl (tc 0, 8, .inl (d 6))) := gU_n ew_40 (by decide) h_36
      have h_49 : w_40 1009 = some ((ad 9), .inl (tc 2, 48, .inl (d 7))) := gU_n ew_40 (by decide) h_37
      have h_50 : w_40 1010 = some ((ad 10), .inl (tc 0, 3120, .inl (d 8))) := gU_n ew_40 (by decide) h_38
      have h_51 : w_40 1000 = some ((ad 0), .inr (6, [.ref (ad 1), .int (d 9 0), .ref (ad 2), .ref (ad 3), .ref (ad 4), .int (d 9 1), .int 1, .int x, .int 0, .int (d 9 5), .int (d 9 6), .int (d 9 7), .int (d 9 8), .int (d 9 9), .long tk, .ref (ad 5), .int (d 9 10), .int (d 9 11), .ref (ad 6), .ref (ad 7), .int (d 9 12), .ref (ad 8), .ref (ad 9), .ref (ad 10), .int (d 9 13), .int (m_la (m_isPiece d x) v_1 1)])) := gU_s ew_40
      refine lv_aload_n hx hb dX6_begin_64 rfl (lv_at hl 1 rfl) ?_
      refine lv_bipush (v := 20) hx hb dX6_begin_65 (by decide) ?_
      refine g_put hE hG h_51 rfl inG6 tyX6 tyX6_ok nmX6 9 (by decide) mw3_196 rfl rfl rfl (Nat.le_of_ble_eq_true rfl) dX6_begin_67 (fun H locs w_52 ew_52 hG => ?_)
      have h_53 : w_52 1001 = some ((ad 1), .inl (tc 0, 4, .inl (d 0))) := gU_n ew_52 (by decide) h_41
      have h_54 : w_52 1002 = some ((ad 2), .inl (tc 0, 6, .inl (d 1))) := gU_n ew_52 (by decide) h_42
      have h_55 : w_52 1003 = some ((ad 3), .inl (tc 0, 6, .inl (d 2))) := gU_n ew_52 (by decide) h_43
      have h_56 : w_52 1004 = some ((ad 4), .inl (tc 0, 390, .inl (d 3))) := gU_n ew_52 (by decide) h_44
      have h_57 : w_52 1005 = some ((ad 5), .inl (tc 1, 4, .inr (.inl st))) := gU_n ew_52 (by decide) h_45
      have h_58 : w_52 1006 = some ((ad 6), .inl (tc 0, 32, .inl (d 4))) := gU_n ew_52 (by decide) h_46
      have h_59 : w_52 1007 = some ((ad 7), .inl (tc 0, 4, .inl (d 5))) := gU_n ew_52 (by decide) h_47
      have h_60 : w_52 1008 = some ((ad 8), .inl (tc 0, 8, .inl (d 6))) := gU_n ew_52 (by decide) h_48
      have h_61 : w_52 1009 = some ((ad 9), .inl (tc 2, 48, .inl (d 7))) := gU_n ew_52 (by decide) h_49
      have h_62 : w_52 1010 = some ((ad 10), .inl (tc 0, 3120, .inl (d 8))) := gU_n ew_52 (by decide) h_50
      have h_63 : w_52 1000 = some ((ad 0), .inr (6, [.ref (ad 1), .int (d 9 0), .ref (ad 2), .ref (ad 3), .ref (ad 4), .int (d 9 1), .int 1, .int x, .int 0, .int 20, .int (d 9 6), .int (d 9 7), .int (d 9 8), .int (d 9 9), .long tk, .ref (ad 5), .int (d 9 10), .int (d 9 11), .ref (ad 6), .ref (ad 7), .int (d 9 12), .ref (ad 8), .ref (ad 9), .ref (ad 10), .int (d 9 13), .int (m_la (m_isPiece d x) v_1 1)])) := gU_s ew_52
      refine lv_aload_n hx hb dX6_begin_70 rfl (lv_at hl 1 rfl) ?_
      refine lv_iconst (v := 0) hx hb dX6_begin_71 (by decide) ?_
      refine g_put hE hG h_63 rfl inG6 tyX6 tyX6_ok nmX6 10 (by decide) mw3_197 rfl rfl rfl (Nat.le_of_ble_eq_true rfl) dX6_begin_72 (fun H locs w_64 ew_64 hG => ?_)
      have h_65 : w_64 1001 = some ((ad 1), .inl (tc 0, 4, .inl (d 0))) := gU_n ew_64 (by decide) h_53
      have h_66 : w_64 1002 = some ((ad 2), .inl (tc 0, 6, .inl (d 1))) := gU_n ew_64 (by decide) h_54
      have h_67 : w_64 1003 = some ((ad 3), .inl (tc 0, 6, .inl (d 2))) := gU_n ew_64 (by decide) h_55
      have h_68 : w_64 1004 = some ((ad 4), .inl (tc 0, 390, .inl (d 3))) := gU_n ew_64 (by decide) h_56
      have h_69 : w_64 1005 = some ((ad 5), .inl (tc 1, 4, .inr (.inl st))) := gU_n ew_64 (by decide) h_57
      have h_70 : w_64 1006 = some ((ad 6), .inl (tc 0, 32, .inl (d 4))) := gU_n ew_64 (by decide) h_58
      have h_71 : w_64 1007 = some ((ad 7), .inl (tc 0, 4, .inl (d 5))) := gU_n ew_64 (by decide) h_59
      have h_72 : w_64 1008 = some ((ad 8), .inl (tc 0, 8, .inl (d 6))) := gU_n ew_64 (by decide) h_60
      have h_73 : w_64 1009 = some ((ad 9), .inl (tc 2, 48, .inl (d 7))) := gU_n ew_64 (by decide) h_61
      have h_74 : w_64 1010 = some ((ad 10), .inl (tc 0, 3120, .inl (d 8))) := gU_n ew_64 (by decide) h_62
      have h_75 : w_64 1000 = some ((ad 0), .inr (6, [.ref (ad 1), .int (d 9 0), .ref (ad 2), .ref (ad 3), .ref (ad 4), .int (d 9 1), .int 1, .int x, .int 0, .int 20, .int 0, .int (d 9 7), .int (d 9 8), .int (d 9 9), .long tk, .ref (ad 5), .int (d 9 10), .int (d 9 11), .ref (ad 6), .ref (ad 7), .int (d 9 12), .ref (ad 8), .ref (ad 9), .ref (ad 10), .int (d 9 13), .int (m_la (m_isPiece d x) v_1 1)])) := gU_s ew_64
      refine lv_aload_n hx hb dX6_begin_75 rfl (lv_at hl 1 rfl) ?_
      refine lv_iconst (v := 0) hx hb dX6_begin_76 (by decide) ?_
      refine g_put hE hG h_75 rfl inG6 tyX6 tyX6_ok nmX6 11 (by decide) mw3_198 rfl rfl rfl (Nat.le_of_ble_eq_true rfl) dX6_begin_77 (fun H locs w_76 ew_76 hG => ?_)
      have h_77 : w_76 1001 = some ((ad 1), .inl (tc 0, 4, .inl (d 0))) := gU_n ew_76 (by decide) h_65
      have h_78 : w_76 1002 = some ((ad 2), .inl (tc 0, 6, .inl (d 1))) := gU_n ew_76 (by decide) h_66
      have h_79 : w_76 1003 = some ((ad 3), .inl (tc 0, 6, .inl (d 2))) := gU_n ew_76 (by decide) h_67
      have h_80 : w_76 1004 = some ((ad 4), .inl (tc 0, 390, .inl (d 3))) := gU_n ew_76 (by decide) h_68
      have h_81 : w_76 1005 = some ((ad 5), .inl (tc 1, 4, .inr (.inl st))) := gU_n ew_76 (by decide) h_69
      have h_82 : w_76 1006 = some ((ad 6), .inl (tc 0, 32, .inl (d 4))) := gU_n ew_76 (by decide) h_70
      have h_83 : w_76 1007 = some ((ad 7), .inl (tc 0, 4, .inl (d 5))) := gU_n ew_76 (by decide) h_71
      have h_84 : w_76 1008 = some ((ad 8), .inl (tc 0, 8, .inl (d 6))) := gU_n ew_76 (by decide) h_72
      have h_85 : w_76 1009 = some ((ad 9), .inl (tc 2, 48, .inl (d 7))) := gU_n ew_76 (by decide) h_73
      have h_86 : w_76 1010 = some ((ad 10), .inl (tc 0, 3120, .inl (d 8))) := gU_n ew_76 (by decide) h_74
      have h_87 : w_76 1000 = some ((ad 0), .inr (6, [.ref (ad 1), .int (d 9 0), .ref (ad 2), .ref (ad 3), .ref (ad 4), .int (d 9 1), .int 1, .int x, .int 0, .int 20, .int 0, .int 0, .int (d 9 8), .int (d 9 9), .long tk, .ref (ad 5), .int (d 9 10), .int (d 9 11), .ref (ad 6), .ref (ad 7), .int (d 9 12), .ref (ad 8), .ref (ad 9), .ref (ad 10), .int (d 9 13), .int (m_la (m_isPiece d x) v_1 1)])) := gU_s ew_76
      refine lv_aload_n hx hb dX6_begin_80 rfl (lv_at hl 1 rfl) ?_
      refine lv_iconst (v := 0) hx hb dX6_begin_81 (by decide) ?_
      refine g_put hE hG h_87 rfl inG6 tyX6 tyX6_ok nmX6 12 (by decide) mw3_199 rfl rfl rfl (Nat.le_of_ble_eq_true rfl) dX6_begin_82 (fun H locs w_88 ew_88 hG => ?_)
      have h_89 : w_88 1001 = some ((ad 1), .inl (tc 0, 4, .inl (d 0))) := gU_n ew_88 (by decide) h_77
      have h_90 : w_88 1002 = some ((ad 2), .inl (tc 0, 6, .inl (d 1))) := gU_n ew_88 (by decide) h_78
      have h_91 : w_88 1003 = some ((ad 3), .inl (tc 0, 6, .inl (d 2))) := gU_n ew_88 (by decide) h_79
      have h_92 : w_88 1004 = some ((ad 4), .inl (tc 0, 390, .inl (d 3))) := gU_n ew_88 (by decide) h_80
      have h_93 : w_88 1005 = some ((ad 5), .inl (tc 1, 4, .inr (.inl st))) := gU_n ew_88 (by decide) h_81
      have h_94 : w_88 1006 = some ((ad 6), .inl (tc 0, 32, .inl (d 4))) := gU_n ew_88 (by decide) h_82
      have h_95 : w_88 1007 = some ((ad 7), .inl (tc 0, 4, .inl (d 5))) := gU_n ew_88 (by decide) h_83
      have h_96 : w_88 1008 = some ((ad 8), .inl (tc 0, 8, .inl (d 6))) := gU_n ew_88 (by decide) h_84
      have h_97 : w_88 1009 = some ((ad 9), .inl (tc 2, 48, .inl (d 7))) := gU_n ew_88 (by decide) h_85
      have h_98 : w_88 1010 = some ((ad 10), .inl (tc 0, 3120, .inl (d 8))) := gU_n ew_88 (by decide) h_86
      have h_99 : w_88 1000 = some ((ad 0), .inr (6, [.ref (ad 1), .int (d 9 0), .ref (ad 2), .ref (ad 3), .ref (ad 4), .int (d 9 1), .int 1, .int x, .int 0, .int 20, .int 0, .int 0, .int 0, .int (d 9 9), .long tk, .ref (ad 5), .int (d 9 10), .int (d 9 11), .ref (ad 6), .ref (ad 7), .int (d 9 12), .ref (ad 8), .ref (ad 9), .ref (ad 10), .int (d 9 13), .int (m_la (m_isPiece d x) v_1 1)])) := gU_s ew_88
      refine lv_aload_n hx hb dX6_begin_85 rfl (lv_at hl 1 rfl) ?_
      refine lv_iconst (v := 0) hx hb dX6_begin_86 (by decide) ?_
      refine g_put hE hG h_99 rfl inG6 tyX6 tyX6_ok nmX6 13 (by decide) mw3_200 rfl rfl rfl (Nat.le_of_ble_eq_true rfl) dX6_begin_87 (fun H locs w_100 ew_100 hG => ?_)
      have h_101 : w_100 1001 = some ((ad 1), .inl (tc 0, 4, .inl (d 0))) := gU_n ew_100 (by decide) h_89
      have h_102 : w_100 1002 = some ((ad 2), .inl (tc 0, 6, .inl (d 1))) := gU_n ew_100 (by decide) h_90
      have h_103 : w_100 1003 = some ((ad 3), .inl (tc 0, 6, .inl (d 2))) := gU_n ew_100 (by decide) h_91
      have h_104 : w_100 1004 = some ((ad 4), .inl (tc 0, 390, .inl (d 3))) := gU_n ew_100 (by decide) h_92
      have h_105 : w_100 1005 = some ((ad 5), .inl (tc 1, 4, .inr (.inl st))) := gU_n ew_100 (by decide) h_93
      have h_106 : w_100 1006 = some ((ad 6), .inl (tc 0, 32, .inl (d 4))) := gU_n ew_100 (by decide) h_94
      have h_107 : w_100 1007 = some ((ad 7), .inl (tc 0, 4, .inl (d 5))) := gU_n ew_100 (by decide) h_95
      have h_108 : w_100 1008 = some ((ad 8), .inl (tc 0, 8, .inl (d 6))) := gU_n ew_100 (by decide) h_96
      have h_109 : w_100 1009 = some ((ad 9), .inl (tc 2, 48, .inl (d 7))) := gU_n ew_100 (by decide) h_97
      have h_110 : w_100 1010 = some ((ad 10), .inl (tc 0, 3120, .inl (d 8))) := gU_n ew_100 (by decide) h_98
      have h_111 : w_100 1000 = some ((ad 0), .inr (6, [.ref (ad 1), .int (d 9 0), .ref (ad 2), .ref (ad 3), .ref (ad 4), .int (d 9 1), .int 1, .int x, .int 0, .int 20, .int 0, .int 0, .int 0, .int 0, .long tk, .ref (ad 5), .int (d 9 10), .int (d 9 11), .ref (ad 6), .ref (ad 7), .int (d 9 12), .ref (ad 8), .ref (ad 9), .ref (ad 10), .int (d 9 13), .int (m_la (m_isPiece d x) v_1 1)])) := gU_s ew_100
      refine lv_aload_n hx hb dX6_begin_90 rfl (lv_at hl 1 rfl) ?_
      refine lv_dup hx hb dX6_begin_91 rfl ?_
      refine g_get hE hG h_111 rfl inG6 16 (by decide) mw3_203 rfl dX6_begin_92 ?_
      refine lv_iconst (v := 1) hx hb dX6_begin_95 (by decide) ?_
      refine lv_iadd hx hb dX6_begin_96 ?_
      refine g_put hE hG h_111 rfl inG6 tyX6 tyX6_ok nmX6 16 (by decide) mw3_203 rfl rfl rfl (Nat.le_of_ble_eq_true rfl) dX6_begin_97 (fun H locs w_112 ew_112 hG => ?_)
      have h_113 : w_112 1001 = some ((ad 1), .inl (tc 0, 4, .inl (d 0))) := gU_n ew_112 (by decide) h_101
      have h_114 : w_112 1002 = some ((ad 2), .inl (tc 0, 6, .inl (d 1))) := gU_n ew_112 (by decide) h_102
      have h_115 : w_112 1003 = some ((ad 3), .inl (tc 0, 6, .inl (d 2))) := gU_n ew_112 (by decide) h_103
      have h_116 : w_112 1004 = some ((ad 4), .inl (tc 0, 390, .inl (d 3))) := gU_n ew_112 (by decide) h_104
      have h_117 : w_112 1005 = some ((ad 5), .inl (tc 1, 4, .inr (.inl st))) := gU_n ew_112 (by decide) h_105
      have h_118 : w_112 1006 = some ((ad 6), .inl (tc 0, 32, .inl (d 4))) := gU_n ew_112 (by decide) h_106
      have h_119 : w_112 1007 = some ((ad 7), .inl (tc 0, 4, .inl (d 5))) := gU_n ew_112 (by decide) h_107
      have h_120 : w_112 1008 = some ((ad 8), .inl (tc 0, 8, .inl (d 6))) := gU_n ew_112 (by decide) h_108
      have h_121 : w_112 1009 = some ((ad 9), .inl (tc 2, 48, .inl (d 7))) := gU_n ew_112 (by decide) h_109
      have h_122 : w_112 1010 = some ((ad 10), .inl (tc 0, 3120, .inl (d 8))) := gU_n ew_112 (by decide) h_110
      have h_123 : w_112 1000 = some ((ad 0), .inr (6, [.ref (ad 1), .int (d 9 0), .ref (ad 2), .ref (ad 3), .ref (ad 4), .int (d 9 1), .int 1, .int x, .int 0, .int 20, .int 0, .int 0, .int 0, .int 0, .long tk, .ref (ad 5), .int ((d 9 10) + 1), .int (d 9 11), .ref (ad 6), .ref (ad 7), .int (d 9 12), .ref (ad 8), .ref (ad 9), .ref (ad 10), .int (d 9 13), .int (m_la (m_isPiece d x) v_1 1)])) := gU_s ew_112
      refine lv_aload_n hx hb dX6_begin_100 rfl (lv_at hl 1 rfl) ?_
      refine g_get hE hG h_123 rfl inG6 16 (by decide) mw3_203 rfl dX6_begin_101 ?_
      subst hQ
      have hg_v_1 : v_1 = gb_begin d x := ev_1
      subst hg_v_1
      rw [m_la_ok c_15] at h_123
      exact g_iret hE hG hr (Nat.le_of_ble_eq_true rfl) (Nat.le_of_ble_eq_true rfl) dX6_begin_104 (Or.inr ⟨c_15, rfl, ⟨h_123, h_113, h_114, h_115, h_116, h_117, h_118, h_119, h_120, h_121, h_122⟩, gF_u (gF_u (gF_u (gF_u (gF_u (gF_u (gF_u (gF_u (gF_u (gF_u (gF_rf w) ew_3 (by decide)) ew_16 (by decide)) ew_28 (by decide)) ew_40 (by decide)) ew_52 (by decide)) ew_64 (by decide)) ew_76 (by decide)) ew_88 (by decide)) ew_100 (by decide)) ew_112 (by decide)⟩)
    · skip
      refine lv_iconst (v := 0) hx hb dX6_begin_47 (by decide) ?_
      subst hQ
      have hg_v_1 : v_1 = gb_begin d x := ev_1
      subst hg_v_1
      exact g_iret hE hG hr (Nat.le_of_ble_eq_true rfl) (Nat.le_of_ble_eq_true rfl) dX6_begin_48 (Or.inl ⟨c_15, ⟨_, rfl⟩, mW_mk h_14 h_4 h_5 h_6 h_7 h_8 h_9 h_10 h_11 h_12 h_13, gF_u (gF_rf w) ew_3 (by decide)⟩)
  refine lv_if_eq (tgt := 39) hx hb dX6_begin_9 (by decide) (fun c_124 => ?_) (fun c_124 => ?_)
  · skip
    refine lv_iconst (v := 0) hx hb dX6_begin_39 (by decide) ?_
    exact j_2 _ _ _ (by rw [if_pos c_124]) hG
  · skip
    refine lv_aload_n hx hb dX6_begin_12 rfl (lv_at hl 1 rfl) ?_
    refine g_get hE hG o0 rfl inG6 6 (by decide) mw3_193 rfl dX6_begin_13 ?_
    refine lv_if_ne (tgt := 39) hx hb dX6_begin_16 (by decide) (fun c_125 => ?_) (fun c_125 => ?_)
    · skip
      refine lv_iconst (v := 0) hx hb dX6_begin_39 (by decide) ?_
      exact j_2 _ _ _ (by rw [if_neg c_124, if_neg c_125]) hG
    · skip
      refine lv_aload_n hx hb dX6_begin_19 rfl (lv_at hl 1 rfl) ?_
      refine g_get hE hG o0 rfl inG6 3 (by decide) mw3_190 rfl dX6_begin_20 ?_
      refine lv_iload_n hx hb dX6_begin_23 rfl (lv_at hl 2 rfl) ?_
      refine g_iald hE hG o3 (ix_piece hOk c_124) dX6_begin_24 ?_
      refine lv_aload_n hx hb dX6_begin_25 rfl (lv_at hl 1 rfl) ?_
      refine g_get hE hG o0 rfl inG6 17 (by decide) mw3_204 rfl dX6_begin_26 ?_
      refine lv_ishr hx hb dX6_begin_29 ?_
      refine lv_iconst (v := 1) hx hb dX6_begin_30 (by decide) ?_
      refine lv_iand hx hb dX6_begin_31 ?_
      refine lv_if_ne (tgt := 39) hx hb dX6_begin_32 (by decide) (fun c_126 => ?_) (fun c_126 => ?_)
      · skip
        refine lv_iconst (v := 0) hx hb dX6_begin_39 (by decide) ?_
        exact j_2 _ _ _ (by rw [if_neg c_124, if_pos c_125, if_neg c_126]) hG
      · skip
        refine lv_iconst (v := 1) hx hb dX6_begin_35 (by decide) ?_
        refine lv_goto (tgt := 40) hx hb dX6_begin_36 (by decide) ?_
        exact j_2 _ _ _ (by rw [if_neg c_124, if_pos c_125, if_pos c_126]) hG
def m_drum (d : gDt) (x : Int32) : gDt := if x = 4 then gD d 9 (upd (d 9) 2 0) else if x = 3 then gD d 9 (upd (d 9) 9 (if d 9 9 ≤ 0 then (if nI (lenN d (d 9 3).toNatClampNeg) < 2 * d 9 4 then d 9 7 + 2 else d 9 7 + 1) else d 9 9)) else gD d 9 (upd (d 9) 8 x)
def ga_drum (d : gDt) (x : Int32) : Int32 := (f_in x 0 4)
def gb_drum (d : gDt) (x : Int32) : Int32 := (d 9 2)
def gc_drum (d : gDt) (x : Int32) : Int32 := 1
abbrev rm_X6_drum : Room := { frames := 4, cells := 0, slots := 0, locals := 158 }
theorem nm_X6_drum : gNm yX6_drum 1 := ⟨by decide +kernel, by decide +kernel, by decide +kernel⟩
set_option maxHeartbeats 8000000 in
set_option maxRecDepth 100000 in
theorem c_X6_drum (l : Launch) (hfl : l.stackTraces = false) (D : va_G) (tc : Nat → ClassId) (A : Nat → Prop) (w : gW) (ad : Nat → Nat) (d : gDt) (tk : Int64) (st : Nat → Int64) (x : Int32) (hM : mW tc w ad d tk st) (hOk : mOk d) (hcu : ¬ d 9 2 = 0 → ∃ i, i < nP d ∧ d 9 3 = nI i) : gM l yX6_drum cX6_drum 2 (some .int) rm_X6_drum D tc A [.ref (ad 0), .int x] w (fun v w' => (m_go (ga_drum d x) (gb_drum d x) (gc_drum d x) = 0 ∧ (∃ r, v = some (.int r)) ∧ mW tc w' ad (sL d (m_la (ga_drum d x) (gb_drum d x) (gc_drum d x))) tk st ∧ gF w w') ∨ (¬ m_go (ga_drum d x) (gb_drum d x) (gc_drum d x) = 0 ∧ v = some (.int (d 9 4)) ∧ mW tc w' ad (sL (m_drum d x) 0) tk st ∧ gF w w')) (fun _ => False) := by
  refine gM_of (by decide +kernel) (Nat.le_of_ble_eq_true rfl) ?_
  intro p e s m args below meth c ls Q hQ hE hG hr hnt hnm hl
  have hx := hE.1
  have hb := hE.2.1
  have hl : lv_has ls 2 [(0, .ref (ad 0)), (1, .int x)] := hl
  obtain ⟨o0, o1, o2, o3, o4, o5, o6, o7, o8, o9, o10⟩ := hM
  refine lv_aload_n hx hb dX6_drum_0 rfl (lv_at hl 0 rfl) ?_
  refine lv_iload_n hx hb dX6_drum_1 rfl (lv_at hl 1 rfl) ?_
  refine lv_iconst (v := 0) hx hb dX6_drum_2 (by decide) ?_
  refine lv_iconst (v := 4) hx hb dX6_drum_3 (by decide) ?_
  refine g_callS (rest := [.ref (ad 0)]) (As := [.int x, .int 0, .int 4]) hE hG hl.1 (c_X6_in l hfl D tc A w x 0 4 ) mw4_35 mw4_36 mw1_4 mw4_37 nm_X6_in ⟨⟨Nat.le_of_ble_eq_true rfl, Nat.le_of_ble_eq_true rfl⟩, Nat.le_of_ble_eq_true rfl, Nat.le_of_ble_eq_true rfl⟩ rfl rfl (Nat.le_of_ble_eq_true rfl) dX6_drum_4 (g_no) ?_
  intro v9 w9 H locs h9 hG
  obtain ⟨e9, f9⟩ := h9
  rw [f9] at hG; rw [e9]; clear e9 f9
  show W p l e _ s m args below meth c H locs _ _ _ (F0 m 7 ls [.int (f_in x 0 4), .ref (ad 0)])
  refine lv_aload_n hx hb dX6_drum_7 rfl (lv_at hl 0 rfl) ?_
  refine g_get hE hG o0 rfl inG6 6 (by decide) mw3_193 rfl dX6_drum_8 ?_
  refine lv_iconst (v := 1) hx hb dX6_drum_11 (by decide) ?_
  refine g_callV (rest := []) (As := [.int (f_in x 0 4), .int (d 9 2), .int 1]) hE hG hl.1 (c_X6_goes l hfl D tc A w ad d tk st (f_in x 0 4) (d 9 2) 1 ⟨o0, o1, o2, o3, o4, o5, o6, o7, o8, o9, o10⟩ ) o0 rfl mw4_38 mw4_40 mws_12 mw1_4 mw4_41 rfl nm_X6_goes ⟨⟨Nat.le_of_ble_eq_true rfl, Nat.le_of_ble_eq_true rfl⟩, Nat.le_of_ble_eq_true rfl, Nat.le_of_ble_eq_true rfl⟩ rfl rfl (Nat.le_of_ble_eq_true rfl) dX6_drum_12 (g_no) ?_
  intro v9 w_1 H locs h9 hG
  obtain ⟨e9, ew_1⟩ := h9
  rw [e9]; clear e9
  show W p l e _ s m args below meth c H locs _ _ _ (F0 m 15 ls [.int (m_go (f_in x 0 4) (d 9 2) 1)])
  have h_2 : w_1 1001 = some ((ad 1), .inl (tc 0, 4, .inl (d 0))) := gU_n ew_1 (by decide) o1
  have h_3 : w_1 1002 = some ((ad 2), .inl (tc 0, 6, .inl (d 1))) := gU_n ew_1 (by decide) o2
  have h_4 : w_1 1003 = some ((ad 3), .inl (tc 0, 6, .inl (d 2))) := gU_n ew_1 (by decide) o3
  have h_5 : w_1 1004 = some ((ad 4), .inl (tc 0, 390, .inl (d 3))) := gU_n ew_1 (by decide) o4
  have h_6 : w_1 1005 = some ((ad 5), .inl (tc 1, 4, .inr (.inl st))) := gU_n ew_1 (by decide) o5
  have h_7 : w_1 1006 = some ((ad 6), .inl (tc 0, 32, .inl (d 4))) := gU_n ew_1 (by decide) o6
  have h_8 : w_1 1007 = some ((ad 7), .inl (tc 0, 4, .inl (d 5))) := gU_n ew_1 (by decide) o7
  have h_9 : w_1 1008 = some ((ad 8), .inl (tc 0, 8, .inl (d 6))) := gU_n ew_1 (by decide) o8
  have h_10 : w_1 1009 = some ((ad 9), .inl (tc 2, 48, .inl (d 7))) := gU_n ew_1 (by decide) o9
  have h_11 : w_1 1010 = some ((ad 10), .inl (tc 0, 3120, .inl (d 8))) := gU_n ew_1 (by decide) o10
  have h_12 : w_1 1000 = some ((ad 0), .inr (6, [.ref (ad 1), .int (d 9 0), .ref (ad 2), .ref (ad 3), .ref (ad 4), .int (d 9 1), .int (d 9 2), .int (d 9 3), .int (d 9 4), .int (d 9 5), .int (d 9 6), .int (d 9 7), .int (d 9 8), .int (d 9 9), .long tk, .ref (ad 5), .int (d 9 10), .int (d 9 11), .ref (ad 6), .ref (ad 7), .int (d 9 12), .ref (ad 8), .ref (ad 9), .ref (ad 10), .int (d 9 13), .int (m_la (f_in x 0 4) (d 9 2) 1)])) := gU_s ew_1
  refine lv_if_ne (tgt := 20) hx hb dX6_drum_15 (by decide) (fun c_13 => ?_) (fun c_13 => ?_)
  · skip
    obtain ⟨i, hi, hcur⟩ := hcu (m_go_ne c_13).2.1
    have hcl : (d 9 3).toNatClampNeg = i := by rw [hcur, nI_clamp (by have := hOk.1.2.1; have := (mOk_len hOk hi).2.2.1; omega)]
    refine lv_iload_n hx hb dX6_drum_20 rfl (lv_at hl 1 rfl) ?_
    refine lv_iconst (v := 4) hx hb dX6_drum_21 (by decide) ?_
    refine lv_icmp_ne (tgt := 33) hx hb dX6_drum_22 (by decide) (fun c_14 => ?_) (fun c_14 => ?_)
    · skip
      refine lv_iload_n hx hb dX6_drum_33 rfl (lv_at hl 1 rfl) ?_
      refine lv_iconst (v := 3) hx hb dX6_drum_34 (by decide) ?_
      refine lv_icmp_ne (tgt := 86) hx hb dX6_drum_35 (by decide) (fun c_15 => ?_) (fun c_15 => ?_)
      · skip
        refine lv_aload_n hx hb dX6_drum_86 rfl (lv_at hl 0 rfl) ?_
        refine lv_iload_n hx hb dX6_drum_87 rfl (lv_at hl 1 rfl) ?_
        refine g_put hE hG h_12 rfl inG6 tyX6 tyX6_ok nmX6 12 (by decide) mw3_199 rfl rfl rfl (Nat.le_of_ble_eq_true rfl) dX6_drum_88 (fun H locs w_16 ew_16 hG => ?_)
        have h_17 : w_16 1001 = some ((ad 1), .inl (tc 0, 4, .inl (d 0))) := gU_n ew_16 (by decide) h_2
        have h_18 : w_16 1002 = some ((ad 2), .inl (tc 0, 6, .inl (d 1))) := gU_n ew_16 (by decide) h_3
        have h_19 : w_16 1003 = some ((ad 3), .inl (tc 0, 6, .inl (d 2))) := gU_n ew_16 (by decide) h_4
        have h_20 : w_16 1004 = some ((ad 4), .inl (tc 0, 390, .inl (d 3))) := gU_n ew_16 (by decide) h_5
        have h_21 : w_16 1005 = some ((ad 5), .inl (tc 1, 4, .inr (.inl st))) := gU_n ew_16 (by decide) h_6
        have h_22 : w_16 1006 = some ((ad 6), .inl (tc 0, 32, .inl (d 4))) := gU_n ew_16 (by decide) h_7
        have h_23 : w_16 1007 = some ((ad 7), .inl (tc 0, 4, .inl (d 5))) := gU_n ew_16 (by decide) h_8
        have h_24 : w_16 1008 = some ((ad 8), .inl (tc 0, 8, .inl (d 6))) := gU_n ew_16 (by decide) h_9
        have h_25 : w_16 1009 = some ((ad 9), .inl (tc 2, 48, .inl (d 7))) := gU_n ew_16 (by decide) h_10
        have h_26 : w_16 1010 = some ((ad 10), .inl (tc 0, 3120, .inl (d 8))) := gU_n ew_16 (by decide) h_11
        have h_27 : w_16 1000 = some ((ad 0), .inr (6, [.ref (ad 1), .int (d 9 0), .ref (ad 2), .ref (ad 3), .ref (ad 4), .int (d 9 1), .int (d 9 2), .int (d 9 3), .int (d 9 4), .int (d 9 5), .int (d 9 6), .int (d 9 7), .int x, .int (d 9 9), .long tk, .ref (ad 5), .int (d 9 10), .int (d 9 11), .ref (ad 6), .ref (ad 7), .int (d 9 12), .ref (ad 8), .ref (ad 9), .ref (ad 10), .int (d 9 13), .int (m_la (f_in x 0 4) (d 9 2) 1)])) := gU_s ew_16
        refine lv_aload_n hx hb dX6_drum_91 rfl (lv_at hl 0 rfl) ?_
        refine g_get hE hG h_27 rfl inG6 8 (by decide) mw3_195 rfl dX6_drum_92 ?_
        subst hQ
        rw [m_la_ok c_13] at h_27
        subst hcl
        exact g_iret hE hG hr (Nat.le_of_ble_eq_true rfl) (Nat.le_of_ble_eq_true rfl) dX6_drum_95 (Or.inr ⟨c_13, rfl, (by unfold m_drum; rw [if_neg c_14, if_neg c_15]; exact ⟨h_27, h_17, h_18, h_19, h_20, h_21, h_22, h_23, h_24, h_25, h_26⟩), gF_u (gF_u (gF_rf w) ew_1 (by decide)) ew_16 (by decide)⟩)
      · skip
        refine lv_aload_n hx hb dX6_drum_38 rfl (lv_at hl 0 rfl) ?_
        refine lv_aload_n hx hb dX6_drum_39 rfl (lv_at hl 0 rfl) ?_
        refine g_get hE hG h_12 rfl inG6 13 (by decide) mw3_200 rfl dX6_drum_40 ?_
        have j_29 : ∀ (v_28 : Int32) (H : Heap) (locs : List Loc), v_28 = (if (d 9 9) ≤ 0 then (if (nI (lenN d i)) < (2 * (d 9 4)) then ((d 9 7) + 2) else ((d 9 7) + 1) : Int32) else (d 9 9) : Int32) → gS D A s.heap w_1 H locs → W p l e rm_X6_drum s m args below meth c H locs ((0 + rm_X6_in.cells) + rm_X6_goes.cells) ((0 + rm_X6_in.slots) + rm_X6_goes.slots) Q (F0 m 80 ls (.int v_28 :: [.ref (ad 0)])) := by
          intro v_28 H locs ev_28 hG
          refine g_put hE hG h_12 rfl inG6 tyX6 tyX6_ok nmX6 13 (by decide) mw3_200 rfl rfl rfl (Nat.le_of_ble_eq_true rfl) dX6_drum_80 (fun H locs w_30 ew_30 hG => ?_)
          have h_31 : w_30 1001 = some ((ad 1), .inl (tc 0, 4, .inl (d 0))) := gU_n ew_30 (by decide) h_2
          have h_32 : w_30 1002 = some ((ad 2), .inl (tc 0, 6, .inl (d 1))) := gU_n ew_30 (by decide) h_3
          have h_33 : w_30 1003 = some ((ad 3), .inl (tc 0, 6, .inl (d 2))) := gU_n ew_30 (by decide) h_4
          have h_34 : w_30 1004 = some ((ad 4), .inl (tc 0, 390, .inl (d 3))) := gU_n ew_30 (by decide) h_5
          have h_35 : w_30 1005 = some ((ad 5), .inl (tc 1, 4, .inr (.inl st))) := gU_n ew_30 (by decide) h_6
          have h_36 : w_30 1006 = some ((ad 6), .inl (tc 0, 32, .inl (d 4))) := gU_n ew_30 (by decide) h_7
          have h_37 : w_30 1007 = some ((ad 7), .inl (tc 0, 4, .inl (d 5))) := gU_n ew_30 (by decide) h_8
          have h_38 : w_30 1008 = some ((ad 8), .inl (tc 0, 8, .inl (d 6))) := gU_n ew_30 (by decide) h_9
          have h_39 : w_30 1009 = some ((ad 9), .inl (tc 2, 48, .inl (d 7))) := gU_n ew_30 (by decide) h_10
          have h_40 : w_30 1010 = some ((ad 10), .inl (tc 0, 3120, .inl (d 8))) := gU_n ew_30 (by decide) h_11
          have h_41 : w_30 1000 = some ((ad 0), .inr (6, [.ref (ad 1), .int (d 9 0), .ref (ad 2), .ref (ad 3), .ref (ad 4), .int (d 9 1), .int (d 9 2), .int (d 9 3), .int (d 9 4), .int (d 9 5), .int (d 9 6), .int (d 9 7), .int (d 9 8), .int v_28, .long tk, .ref (ad 5), .int (d 9 10), .int (d 9 11), .ref (ad 6), .ref (ad 7), .int (d 9 12), .ref (ad 8), .ref (ad 9), .ref (ad 10), .int (d 9 13), .int (m_la (f_in x 0 4) (d 9 2) 1)])) := gU_s ew_30
          refine lv_goto (tgt := 91) hx hb dX6_drum_83 (by decide) ?_
          refine lv_aload_n hx hb dX6_drum_91 rfl (lv_at hl 0 rfl) ?_
          refine g_get hE hG h_41 rfl inG6 8 (by decide) mw3_195 rfl dX6_drum_92 ?_
          subst hQ
          subst ev_28
          rw [m_la_ok c_13] at h_41
          subst hcl
          exact g_iret hE hG hr (Nat.le_of_ble_eq_true rfl) (Nat.le_of_ble_eq_true rfl) dX6_drum_95 (Or.inr ⟨c_13, rfl, (by unfold m_drum; rw [if_neg c_14, if_pos c_15]; exact ⟨h_41, h_31, h_32, h_33, h_34, h_35, h_36, h_37, h_38, h_39, h_40⟩), gF_u (gF_u (gF_rf w) ew_1 (by decide)) ew_30 (by decide)⟩)
        refine lv_if_le (tgt := 53) hx hb dX6_drum_43 (by decide) (fun c_42 => ?_) (fun c_42 => ?_)
        · skip
          refine lv_aload_n hx hb dX6_drum_53 rfl (lv_at hl 0 rfl) ?_
          refine g_get hE hG h_12 rfl inG6 11 (by decide) mw3_198 rfl dX6_drum_54 ?_
          refine lv_iconst (v := 2) hx hb dX6_drum_57 (by decide) ?_
          refine lv_aload_n hx hb dX6_drum_58 rfl (lv_at hl 0 rfl) ?_
          refine g_get hE hG h_12 rfl inG6 8 (by decide) mw3_195 rfl dX6_drum_59 ?_
          refine lv_imul hx hb dX6_drum_62 ?_
          refine lv_aload_n hx hb dX6_drum_63 rfl (lv_at hl 0 rfl) ?_
          refine lv_aload_n hx hb dX6_drum_64 rfl (lv_at hl 0 rfl) ?_
          refine g_get hE hG h_12 rfl inG6 7 (by decide) mw3_194 rfl dX6_drum_65 ?_
          rw [hcur]
          refine g_callV (rest := [.int (2 * (d 9 4)), .int (d 9 7), .ref (ad 0)]) (As := [.int (nI i)]) hE hG hl.1 (c_X6_lengthOf l hfl D tc A w_1 ad (gD d 9 (upd (d 9) 14 (m_la (f_in x 0 4) (d 9 2) 1))) tk st i ⟨h_12, h_2, h_3, h_4, h_5, h_6, h_7, h_8, h_9, h_10, h_11⟩ hOk hi) h_12 rfl mw4_66 mw4_68 mws_16 mw1_4 mw4_69 rfl nm_X6_lengthOf ⟨⟨Nat.le_of_ble_eq_true rfl, Nat.le_of_ble_eq_true rfl⟩, Nat.le_of_ble_eq_true rfl, Nat.le_of_ble_eq_true rfl⟩ rfl rfl (Nat.le_of_ble_eq_true rfl) dX6_drum_68 (g_no) ?_
          intro v9 w9 H locs h9 hG
          obtain ⟨e9, f9⟩ := h9
          rw [f9] at hG; rw [e9]; clear e9 f9
          show W p l e _ s m args below meth c H locs _ _ _ (F0 m 71 ls [.int (nI (lenN d i)), .int (2 * (d 9 4)), .int (d 9 7), .ref (ad 0)])
          refine lv_icmp_gt (tgt := 78) hx hb dX6_drum_71 (by decide) (fun c_43 => ?_) (fun c_43 => ?_)
          · skip
            refine lv_iconst (v := 2) hx hb dX6_drum_78 (by decide) ?_
            refine lv_iadd hx hb dX6_drum_79 ?_
            exact j_29 _ _ _ (by rw [if_pos c_42, if_pos c_43]) hG
          · skip
            refine lv_iconst (v := 1) hx hb dX6_drum_74 (by decide) ?_
            refine lv_goto (tgt := 79) hx hb dX6_drum_75 (by decide) ?_
            refine lv_iadd hx hb dX6_drum_79 ?_
            exact j_29 _ _ _ (by rw [if_pos c_42, if_neg c_43]) hG
        · skip
          refine lv_aload_n hx hb dX6_drum_46 rfl (lv_at hl 0 rfl) ?_
          refine g_get hE hG h_12 rfl inG6 13 (by decide) mw3_200 rfl dX6_drum_47 ?_
          refine lv_goto (tgt := 80) hx hb dX6_drum_50 (by decide) ?_
          exact j_29 _ _ _ (by rw [if_neg c_42]) hG
    · skip
      refine lv_aload_n hx hb dX6_drum_25 rfl (lv_at hl 0 rfl) ?_
      refine lv_iconst (v := 0) hx hb dX6_drum_26 (by decide) ?_
      refine g_put hE hG h_12 rfl inG6 tyX6 tyX6_ok nmX6 6 (by decide) mw3_193 rfl (by decide) (by decide) (Nat.le_of_ble_eq_true rfl) dX6_drum_27 (fun H locs w_44 ew_44 hG => ?_)
      have h_45 : w_44 1001 = some ((ad 1), .inl (tc 0, 4, .inl (d 0))) := gU_n ew_44 (by decide) h_2
      have h_46 : w_44 1002 = some ((ad 2), .inl (tc 0, 6, .inl (d 1))) := gU_n ew_44 (by decide) h_3
      have h_47 : w_44 1003 = some ((ad 3), .inl (tc 0, 6, .inl (d 2))) := gU_n ew_44 (by decide) h_4
      have h_48 : w_44 1004 = some ((ad 4), .inl (tc 0, 390, .inl (d 3))) := gU_n ew_44 (by decide) h_5
      have h_49 : w_44 1005 = some ((ad 5), .inl (tc 1, 4, .inr (.inl st))) := gU_n ew_44 (by decide) h_6
      have h_50 : w_44 1006 = some ((ad 6), .inl (tc 0, 32, .inl (d 4))) := gU_n ew_44 (by decide) h_7
      have h_51 : w_44 1007 = some ((ad 7), .inl (tc 0, 4, .inl (d 5))) := gU_n ew_44 (by decide) h_8
      have h_52 : w_44 1008 = some ((ad 8), .inl (tc 0, 8, .inl (d 6))) := gU_n ew_44 (by decide) h_9
      have h_53 : w_44 1009 = some ((ad 9), .inl (tc 2, 48, .inl (d 7))) := gU_n ew_44 (by decide) h_10
      have h_54 : w_44 1010 = some ((ad 10), .inl (tc 0, 3120, .inl (d 8))) := gU_n ew_44 (by decide) h_11
      have h_55 : w_44 1000 = some ((ad 0), .inr (6, [.ref (ad 1), .int (d 9 0), .ref (ad 2), .ref (ad 3), .ref (ad 4), .int (d 9 1), .int 0, .int (d 9 3), .int (d 9 4), .int (d 9 5), .int (d 9 6), .int (d 9 7), .int (d 9 8), .int (d 9 9), .long tk, .ref (ad 5), .int (d 9 10), .int (d 9 11), .ref (ad 6), .ref (ad 7), .int (d 9 12), .ref (ad 8), .ref (ad 9), .ref (ad 10), .int (d 9 13), .int (m_la (f_in x 0 4) (d 9 2) 1)])) := gU_s ew_44
      refine lv_goto (tgt := 91) hx hb dX6_drum_30 (by decide) ?_
      refine lv_aload_n hx hb dX6_drum_91 rfl (lv_at hl 0 rfl) ?_
      refine g_get hE hG h_55 rfl inG6 8 (by decide) mw3_195 rfl dX6_drum_92 ?_
      subst hQ
      rw [m_la_ok c_13] at h_55
      subst hcl
      exact g_iret hE hG hr (Nat.le_of_ble_eq_true rfl) (Nat.le_of_ble_eq_true rfl) dX6_drum_95 (Or.inr ⟨c_13, rfl, (by unfold m_drum; rw [if_pos c_14]; exact ⟨h_55, h_45, h_46, h_47, h_48, h_49, h_50, h_51, h_52, h_53, h_54⟩), gF_u (gF_u (gF_rf w) ew_1 (by decide)) ew_44 (by decide)⟩)
  · skip
    refine lv_iconst (v := 0) hx hb dX6_drum_18 (by decide) ?_
    subst hQ
    exact g_iret hE hG hr (Nat.le_of_ble_eq_true rfl) (Nat.le_of_ble_eq_true rfl) dX6_drum_19 (Or.inl ⟨c_13, ⟨_, rfl⟩, mW_mk h_12 h_2 h_3 h_4 h_5 h_6 h_7 h_8 h_9 h_10 h_11, gF_u (gF_rf w) ew_1 (by decide)⟩)
