/-! GongCyclesModel: versions, tunings -/
def m_kn (d : gDt) (x y : Int32) : Int32 := if x = -1 then 1 else if d 7 (6 * x + y).toNatClampNeg = 0 then 0 else 1
theorem m_kn_b (d : gDt) (x y : Int32) : m_kn d x y = 0 ∨ m_kn d x y = 1 := by
  unfold m_kn
  repeat' split
  all_goals first | exact Or.inl rfl | exact Or.inr rfl
theorem ix_knI {u i : Nat} (hu : u < 8) (hi : i < 6) : (6 : Int32) * nI u + nI i = nI (6 * u + i) := by
  rw [show (6 : Int32) = nI 6 from rfl, pk_mul, nI_add]
theorem ix_kn {d : gDt} {x y : Int32} (hd : mOk d) (h1 : ¬ m_isPlayer d x = 0) (h2 : ¬ m_isPiece d y = 0) : vp_in (6 * x + y) 48 := by
  obtain ⟨u, hu, rfl⟩ := m_isPlayer_ne hd h1
  obtain ⟨i, hi, rfl⟩ := m_isPiece_ne hd h2
  have := hd.1.2.1
  have := hd.1.2.2
  rw [ix_knI (by omega) (by omega)]
  exact vp_in_nI (by omega) (by decide)
theorem ix_ver {u i y : Nat} (hu : u < 8) (hi : i < 6) (hy : y ≤ 64) : (65 : Int32) * (6 * nI u + nI i) + nI y = nI (65 * (6 * u + i) + y) := by
  rw [ix_knI hu hi, show (65 : Int32) = nI 65 from rfl, pk_mul, nI_add]
theorem isPl_piece {d : gDt} {x y : Int32} (h : ¬ m_isPlace d x y = 0) : ¬ m_isPiece d x = 0 := by
  unfold m_isPlace at h
  intro h1
  rw [if_pos h1] at h
  exact h rfl
abbrev rm_X6_knowsIt : Room := { frames := 1, cells := 0, slots := 0, locals := 50 }
theorem nm_X6_knowsIt : gNm yX6_knowsIt 2 := ⟨by decide +kernel, by decide +kernel, by decide +kernel⟩
set_option maxHeartbeats 4000000 in
set_option maxRecDepth 100000 in
theorem c_X6_knowsIt (l : Launch) (hfl : l.stackTraces = false) (D : va_G) (tc : Nat → ClassId) (A : Nat → Prop) (w : gW) (ad : Nat → Nat) (d : gDt) (tk : Int64) (st : Nat → Int64) (x : Int32) (y : Int32) (hM : mW tc w ad d tk st) (hix : x = -1 ∨ vp_in (6 * x + y) 48) : gM l yX6_knowsIt cX6_knowsIt 3 (some .boolean) rm_X6_knowsIt D tc A [.ref (ad 0), .int x, .int y] w (fun v w' => v = some (.int (m_kn d x y)) ∧ w' = w) (fun _ => False) := by
  refine gM_of (by decide +kernel) (Nat.le_of_ble_eq_true rfl) ?_
  intro p e s m args below meth c ls Q hQ hE hG hr hnt hnm hl
  have hx := hE.1
  have hb := hE.2.1
  have hl : lv_has ls 3 [(0, .ref (ad 0)), (1, .int x), (2, .int y)] := hl
  obtain ⟨o0, o1, o2, o3, o4, o5, o6, o7, o8, o9, o10⟩ := hM
  refine lv_iload_n hx hb dX6_knowsIt_0 rfl (lv_at hl 1 rfl) ?_
  refine lv_iconst (v := (-1)) hx hb dX6_knowsIt_1 (by decide) ?_
  refine lv_icmp_eq (tgt := 19) hx hb dX6_knowsIt_2 (by decide) (fun c_1 => ?_) (fun c_1 => ?_)
  · skip
    refine lv_iconst (v := 1) hx hb dX6_knowsIt_19 (by decide) ?_
    refine lv_goto (tgt := 24) hx hb dX6_knowsIt_20 (by decide) ?_
    subst hQ
    exact g_zret hE hG hr (by decide) (Nat.le_of_ble_eq_true rfl) (Nat.le_of_ble_eq_true rfl) dX6_knowsIt_24 ⟨by unfold m_kn; rw [if_pos c_1], rfl⟩
  · skip
    refine lv_aload_n hx hb dX6_knowsIt_5 rfl (lv_at hl 0 rfl) ?_
    refine g_get hE hG o0 rfl inG6 22 (by decide) mw3_209 rfl dX6_knowsIt_6 ?_
    refine lv_bipush (v := 6) hx hb dX6_knowsIt_9 (by decide) ?_
    refine lv_iload_n hx hb dX6_knowsIt_11 rfl (lv_at hl 1 rfl) ?_
    refine lv_imul hx hb dX6_knowsIt_12 ?_
    refine lv_iload_n hx hb dX6_knowsIt_13 rfl (lv_at hl 2 rfl) ?_
    refine lv_iadd hx hb dX6_knowsIt_14 ?_
    refine g_zald hE hG o9 (hix.resolve_left c_1) dX6_knowsIt_15 ?_
    refine lv_if_eq (tgt := 23) hx hb dX6_knowsIt_16 (by decide) (fun c_2 => ?_) (fun c_2 => ?_)
    · skip
      refine lv_iconst (v := 0) hx hb dX6_knowsIt_23 (by decide) ?_
      subst hQ
      exact g_zret hE hG hr (by decide) (Nat.le_of_ble_eq_true rfl) (Nat.le_of_ble_eq_true rfl) dX6_knowsIt_24 ⟨by unfold m_kn; rw [if_neg c_1, if_pos c_2], rfl⟩
    · skip
      refine lv_iconst (v := 1) hx hb dX6_knowsIt_19 (by decide) ?_
      refine lv_goto (tgt := 24) hx hb dX6_knowsIt_20 (by decide) ?_
      subst hQ
      exact g_zret hE hG hr (by decide) (Nat.le_of_ble_eq_true rfl) (Nat.le_of_ble_eq_true rfl) dX6_knowsIt_24 ⟨by unfold m_kn; rw [if_neg c_1, if_neg c_2], rfl⟩
def m_tof (d : gDt) (x : Int32) (i y : Nat) : Int32 := if x = -1 then d 3 (65 * i + y) else d 8 (65 * (6 * x.toNatClampNeg + i) + y)
abbrev rm_X6_toneOf : Room := { frames := 1, cells := 0, slots := 0, locals := 50 }
theorem nm_X6_toneOf : gNm yX6_toneOf 3 := ⟨by decide +kernel, by decide +kernel, by decide +kernel⟩
set_option maxHeartbeats 4000000 in
set_option maxRecDepth 100000 in
theorem c_X6_toneOf (l : Launch) (hfl : l.stackTraces = false) (D : va_G) (tc : Nat → ClassId) (A : Nat → Prop) (w : gW) (ad : Nat → Nat) (d : gDt) (tk : Int64) (st : Nat → Int64) (x : Int32) (i : Nat) (y : Nat) (hM : mW tc w ad d tk st) (hi6 : i < 6) (hy64 : y ≤ 64) (hx9 : x = -1 ∨ ∃ u, u < 8 ∧ x = nI u) : gM l yX6_toneOf cX6_toneOf 4 (some .int) rm_X6_toneOf D tc A [.ref (ad 0), .int x, .int (nI i), .int (nI y)] w (fun v w' => v = some (.int (m_tof d x i y)) ∧ w' = w) (fun _ => False) := by
  refine gM_of (by decide +kernel) (Nat.le_of_ble_eq_true rfl) ?_
  intro p e s m args below meth c ls Q hQ hE hG hr hnt hnm hl
  have hx := hE.1
  have hb := hE.2.1
  have hl : lv_has ls 4 [(0, .ref (ad 0)), (1, .int x), (2, .int (nI i)), (3, .int (nI y))] := hl
  obtain ⟨o0, o1, o2, o3, o4, o5, o6, o7, o8, o9, o10⟩ := hM
  refine lv_iload_n hx hb dX6_toneOf_0 rfl (lv_at hl 1 rfl) ?_
  refine lv_iconst (v := (-1)) hx hb dX6_toneOf_1 (by decide) ?_
  refine lv_icmp_ne (tgt := 19) hx hb dX6_toneOf_2 (by decide) (fun c_1 => ?_) (fun c_1 => ?_)
  · skip
    obtain ⟨u, hu, hxu⟩ := hx9.resolve_left c_1
    subst hxu
    refine lv_aload_n hx hb dX6_toneOf_19 rfl (lv_at hl 0 rfl) ?_
    refine g_get hE hG o0 rfl inG6 23 (by decide) mw3_210 rfl dX6_toneOf_20 ?_
    refine lv_bipush (v := 65) hx hb dX6_toneOf_23 (by decide) ?_
    refine lv_bipush (v := 6) hx hb dX6_toneOf_25 (by decide) ?_
    refine lv_iload_n hx hb dX6_toneOf_27 rfl (lv_at hl 1 rfl) ?_
    refine lv_imul hx hb dX6_toneOf_28 ?_
    refine lv_iload_n hx hb dX6_toneOf_29 rfl (lv_at hl 2 rfl) ?_
    refine lv_iadd hx hb dX6_toneOf_30 ?_
    refine lv_imul hx hb dX6_toneOf_31 ?_
    refine lv_iload_n hx hb dX6_toneOf_32 rfl (lv_at hl 3 rfl) ?_
    refine lv_iadd hx hb dX6_toneOf_33 ?_
    refine g_iald hE hG o10 (by rw [ix_ver hu hi6 hy64]; exact vp_in_nI (by omega) (by decide)) dX6_toneOf_34 ?_
    subst hQ
    exact g_iret hE hG hr (Nat.le_of_ble_eq_true rfl) (Nat.le_of_ble_eq_true rfl) dX6_toneOf_35 ⟨by unfold m_tof; rw [if_neg c_1, ix_ver hu hi6 hy64, nI_clamp (by omega), nI_clamp (by omega)], rfl⟩
  · skip
    refine lv_aload_n hx hb dX6_toneOf_5 rfl (lv_at hl 0 rfl) ?_
    refine g_get hE hG o0 rfl inG6 4 (by decide) mw3_191 rfl dX6_toneOf_6 ?_
    refine lv_bipush (v := 65) hx hb dX6_toneOf_9 (by decide) ?_
    refine lv_iload_n hx hb dX6_toneOf_11 rfl (lv_at hl 2 rfl) ?_
    refine lv_imul hx hb dX6_toneOf_12 ?_
    refine lv_iload_n hx hb dX6_toneOf_13 rfl (lv_at hl 3 rfl) ?_
    refine lv_iadd hx hb dX6_toneOf_14 ?_
    refine g_iald hE hG o4 (m_ixin hi6 hy64) dX6_toneOf_15 ?_
    refine lv_goto (tgt := 35) hx hb dX6_toneOf_16 (by decide) ?_
    subst hQ
    exact g_iret hE hG hr (Nat.le_of_ble_eq_true rfl) (Nat.le_of_ble_eq_true rfl) dX6_toneOf_35 ⟨by unfold m_tof; rw [if_pos c_1, m_ixc hi6 hy64], rfl⟩
theorem and3b_ne {a b c : Prop} [Decidable a] [Decidable b] [Decidable c] (h : ¬ (if a then (0 : Int32) else if b then 0 else if c then 0 else 1) = 0) : ¬ a ∧ ¬ b ∧ ¬ c := by
  by_cases ha : a
  · rw [if_pos ha] at h; exact absurd rfl h
  · rw [if_neg ha] at h
    exact ⟨ha, and_ne h⟩
def m_beat (d : gDt) (x y z : Int32) : Int32 := if 0 ≤ d 4 (8 * x + z).toNatClampNeg - d 4 (8 * y + z).toNatClampNeg then d 4 (8 * x + z).toNatClampNeg - d 4 (8 * y + z).toNatClampNeg else -(d 4 (8 * x + z).toNatClampNeg - d 4 (8 * y + z).toNatClampNeg)
def ga_beat (d : gDt) (x y z : Int32) : Int32 := (if (m_isSet x) = 0 then 0 else (if (m_isSet y) = 0 then 0 else (if (f_in z 1 7) = 0 then 0 else 1 : Int32) : Int32) : Int32)
def gb_beat (d : gDt) (x y z : Int32) : Int32 := 1
def gc_beat (d : gDt) (x y z : Int32) : Int32 := 1
abbrev rm_X6_beat : Room := { frames := 4, cells := 0, slots := 0, locals := 158 }
theorem nm_X6_beat : gNm yX6_beat 3 := ⟨by decide +kernel, by decide +kernel, by decide +kernel⟩
set_option maxHeartbeats 8000000 in
set_option maxRecDepth 100000 in
theorem c_X6_beat (l : Launch) (hfl : l.stackTraces = false) (D : va_G) (tc : Nat → ClassId) (A : Nat → Prop) (w : gW) (ad : Nat → Nat) (d : gDt) (tk : Int64) (st : Nat → Int64) (x : Int32) (y : Int32) (z : Int32) (hM : mW tc w ad d tk st) (hOk : mOk d) : gM l yX6_beat cX6_beat 5 (some .int) rm_X6_beat D tc A [.ref (ad 0), .int x, .int y, .int z] w (fun v w' => (m_go (ga_beat d x y z) (gb_beat d x y z) (gc_beat d x y z) = 0 ∧ (∃ r, v = some (.int r)) ∧ mW tc w' ad (sL d (m_la (ga_beat d x y z) (gb_beat d x y z) (gc_beat d x y z))) tk st ∧ gF w w') ∨ (¬ m_go (ga_beat d x y z) (gb_beat d x y z) (gc_beat d x y z) = 0 ∧ v = some (.int (m_beat d x y z)) ∧ mW tc w' ad (sL d 0) tk st ∧ gF w w')) (fun _ => False) := by
  refine gM_of (by decide +kernel) (Nat.le_of_ble_eq_true rfl) ?_
  intro p e s m args below meth c ls Q hQ hE hG hr hnt hnm hl
  have hx := hE.1
  have hb := hE.2.1
  have hl : lv_has ls 5 [(0, .ref (ad 0)), (1, .int x), (2, .int y), (3, .int z)] := hl
  obtain ⟨o0, o1, o2, o3, o4, o5, o6, o7, o8, o9, o10⟩ := hM
  refine lv_aload_n hx hb dX6_beat_0 rfl (lv_at hl 0 rfl) ?_
  refine lv_iload_n hx hb dX6_beat_1 rfl (lv_at hl 1 rfl) ?_
  refine g_callS (rest := [.ref (ad 0)]) (As := [.int x]) hE hG hl.1 (c_X6_isSet l hfl D tc A w x ) mw4_139 mw4_140 mw1_4 mw4_141 nm_X6_isSet ⟨⟨Nat.le_of_ble_eq_true rfl, Nat.le_of_ble_eq_true rfl⟩, Nat.le_of_ble_eq_true rfl, Nat.le_of_ble_eq_true rfl⟩ rfl rfl (Nat.le_of_ble_eq_true rfl) dX6_beat_2 (g_no) ?_
  intro v9 w9 H locs h9 hG
  obtain ⟨e9, f9⟩ := h9
  rw [f9] at hG; rw [e9]; clear e9 f9
  show W p l e _ s m args below meth c H locs _ _ _ (F0 m 5 ls [.int (m_isSet x), .ref (ad 0)])
  have j_2 : ∀ (v_1 : Int32) (H : Heap) (locs : List Loc), v_1 = (if (m_isSet x) = 0 then 0 else (if (m_isSet y) = 0 then 0 else (if (f_in z 1 7) = 0 then 0 else 1 : Int32) : Int32) : Int32) → gS D A s.heap w H locs → W p l e rm_X6_beat s m args below meth c H locs (0 + rm_X6_isSet.cells) (0 + rm_X6_isSet.slots) Q (F0 m 30 ls (.int v_1 :: [.ref (ad 0)])) := by
    intro v_1 H locs ev_1 hG
    refine lv_iconst (v := 1) hx hb dX6_beat_30 (by decide) ?_
    refine lv_iconst (v := 1) hx hb dX6_beat_31 (by decide) ?_
    refine g_callV (rest := []) (As := [.int v_1, .int 1, .int 1]) hE hG hl.1 (c_X6_goes l hfl D tc A w ad d tk st v_1 1 1 ⟨o0, o1, o2, o3, o4, o5, o6, o7, o8, o9, o10⟩ ) o0 rfl mw4_38 mw4_40 mws_12 mw1_4 mw4_41 rfl nm_X6_goes ⟨⟨Nat.le_of_ble_eq_true rfl, Nat.le_of_ble_eq_true rfl⟩, Nat.le_of_ble_eq_true rfl, Nat.le_of_ble_eq_true rfl⟩ rfl rfl (Nat.le_of_ble_eq_true rfl) dX6_beat_32 (g_no) ?_
    intro v9 w_3 H locs h9 hG
    obtain ⟨e9, ew_3⟩ := h9
    rw [e9]; clear e9
    show W p l e _ s m args below meth c H locs _ _ _ (F0 m 35 ls [.int (m_go v_1 1 1)])
    have h_4 : w_3 1001 = some ((ad 1), .inl (tc 0, 4, .inl (d 0))) := gU_n ew_3 (by decide) o1
    have h_5 : w_3 1002 = some ((ad 2), .inl (tc 0, 6, .inl (d 1))) := gU_n ew_3 (by decide) o2
    have h_6 : w_3 1003 = some ((ad 3), .inl (tc 0, 6, .inl (d 2))) := gU_n ew_3 (by decide) o3
    have h_7 : w_3 1004 = some ((ad 4), .inl (tc 0, 390, .inl (d 3))) := gU_n ew_3 (by decide) o4
    have h_8 : w_3 1005 = some ((ad 5), .inl (tc 1, 4, .inr (.inl st))) := gU_n ew_3 (by decide) o5
    have h_9 : w_3 1006 = some ((ad 6), .inl (tc 0, 32, .inl (d 4))) := gU_n ew_3 (by decide) o6
    have h_10 : w_3 1007 = some ((ad 7), .inl (tc 0, 4, .inl (d 5))) := gU_n ew_3 (by decide) o7
    have h_11 : w_3 1008 = some ((ad 8), .inl (tc 0, 8, .inl (d 6))) := gU_n ew_3 (by decide) o8
    have h_12 : w_3 1009 = some ((ad 9), .inl (tc 2, 48, .inl (d 7))) := gU_n ew_3 (by decide) o9
    have h_13 : w_3 1010 = some ((ad 10), .inl (tc 0, 3120, .inl (d 8))) := gU_n ew_3 (by decide) o10
    have h_14 : w_3 1000 = some ((ad 0), .inr (6, [.ref (ad 1), .int (d 9 0), .ref (ad 2), .ref (ad 3), .ref (ad 4), .int (d 9 1), .int (d 9 2), .int (d 9 3), .int (d 9 4), .int (d 9 5), .int (d 9 6), .int (d 9 7), .int (d 9 8), .int (d 9 9), .long tk, .ref (ad 5), .int (d 9 10), .int (d 9 11), .ref (ad 6), .ref (ad 7), .int (d 9 12), .ref (ad 8), .ref (ad 9), .ref (ad 10), .int (d 9 13), .int (m_la v_1 1 1)])) := gU_s ew_3
    refine lv_if_ne (tgt := 40) hx hb dX6_beat_35 (by decide) (fun c_15 => ?_) (fun c_15 => ?_)
    · skip
      have hlt := (m_go_ne c_15).1
      try rw [ev_1] at hlt
      refine lv_aload_n hx hb dX6_beat_40 rfl (lv_at hl 0 rfl) ?_
      refine g_get hE hG h_14 rfl inG6 18 (by decide) mw3_205 rfl dX6_beat_41 ?_
      refine lv_bipush (v := 8) hx hb dX6_beat_44 (by decide) ?_
      refine lv_iload_n hx hb dX6_beat_46 rfl (lv_at hl 1 rfl) ?_
      refine lv_imul hx hb dX6_beat_47 ?_
      refine lv_iload_n hx hb dX6_beat_48 rfl (lv_at hl 3 rfl) ?_
      refine lv_iadd hx hb dX6_beat_49 ?_
      refine g_iald hE hG h_9 (ix_pit (and3b_ne hlt).1 (and3b_ne hlt).2.2) dX6_beat_50 ?_
      refine lv_aload_n hx hb dX6_beat_51 rfl (lv_at hl 0 rfl) ?_
      refine g_get hE hG h_14 rfl inG6 18 (by decide) mw3_205 rfl dX6_beat_52 ?_
      refine lv_bipush (v := 8) hx hb dX6_beat_55 (by decide) ?_
      refine lv_iload_n hx hb dX6_beat_57 rfl (lv_at hl 2 rfl) ?_
      refine lv_imul hx hb dX6_beat_58 ?_
      refine lv_iload_n hx hb dX6_beat_59 rfl (lv_at hl 3 rfl) ?_
      refine lv_iadd hx hb dX6_beat_60 ?_
      refine g_iald hE hG h_9 (ix_pit (and3b_ne hlt).2.1 (and3b_ne hlt).2.2) dX6_beat_61 ?_
      refine lv_isub hx hb dX6_beat_62 ?_
      refine lv_istore (lv' := [(4, .int (((d 4) ((8 * x) + z).toNatClampNeg) - ((d 4) ((8 * y) + z).toNatClampNeg))), (0, .ref (ad 0)), (1, .int x), (2, .int y), (3, .int z)]) hx hb dX6_beat_63 hl (by decide) rfl (fun ls hl => ?_)
      refine lv_iload hx hb dX6_beat_65 (lv_at hl 0 rfl) ?_
      refine lv_if_ge (tgt := 76) hx hb dX6_beat_67 (by decide) (fun c_16 => ?_) (fun c_16 => ?_)
      · skip
        refine lv_iload hx hb dX6_beat_76 (lv_at hl 0 rfl) ?_
        subst hQ
        have hg_v_1 : v_1 = ga_beat d x y z := ev_1
        subst hg_v_1
        rw [m_la_ok c_15] at h_14
        exact g_iret hE hG hr (Nat.le_of_ble_eq_true rfl) (Nat.le_of_ble_eq_true rfl) dX6_beat_78 (Or.inr ⟨c_15, (by unfold m_beat; rw [if_pos c_16]), ⟨h_14, h_4, h_5, h_6, h_7, h_8, h_9, h_10, h_11, h_12, h_13⟩, gF_u (gF_rf w) ew_3 (by decide)⟩)
      · skip
        refine lv_iload hx hb dX6_beat_70 (lv_at hl 0 rfl) ?_
        refine lv_ineg hx hb dX6_beat_72 ?_
        refine lv_goto (tgt := 78) hx hb dX6_beat_73 (by decide) ?_
        subst hQ
        have hg_v_1 : v_1 = ga_beat d x y z := ev_1
        subst hg_v_1
        rw [m_la_ok c_15] at h_14
        exact g_iret hE hG hr (Nat.le_of_ble_eq_true rfl) (Nat.le_of_ble_eq_true rfl) dX6_beat_78 (Or.inr ⟨c_15, (by unfold m_beat; rw [if_neg c_16]), ⟨h_14, h_4, h_5, h_6, h_7, h_8, h_9, h_10, h_11, h_12, h_13⟩, gF_u (gF_rf w) ew_3 (by decide)⟩)
    · skip
      refine lv_iconst (v := 0) hx hb dX6_beat_38 (by decide) ?_
      subst hQ
      have hg_v_1 : v_1 = ga_beat d x y z := ev_1
      subst hg_v_1
      exact g_iret hE hG hr (Nat.le_of_ble_eq_true rfl) (Nat.le_of_ble_eq_true rfl) dX6_beat_39 (Or.inl ⟨c_15, ⟨_, rfl⟩, mW_mk h_14 h_4 h_5 h_6 h_7 h_8 h_9 h_10 h_11 h_12 h_13, gF_u (gF_rf w) ew_3 (by decide)⟩)
  refine lv_if_eq (tgt := 29) hx hb dX6_beat_5 (by decide) (fun c_17 => ?_) (fun c_17 => ?_)
  · skip
    refine lv_iconst (v := 0) hx hb dX6_beat_29 (by decide) ?_
    exact j_2 _ _ _ (by rw [if_pos c_17]) hG
  · skip
    refine lv_iload_n hx hb dX6_beat_8 rfl (lv_at hl 2 rfl) ?_
    refine g_callS (rest := [.ref (ad 0)]) (As := [.int y]) hE hG hl.1 (c_X6_isSet l hfl D tc A w y ) mw4_139 mw4_140 mw1_4 mw4_141 nm_X6_isSet ⟨⟨Nat.le_of_ble_eq_true rfl, Nat.le_of_ble_eq_true rfl⟩, Nat.le_of_ble_eq_true rfl, Nat.le_of_ble_eq_true rfl⟩ rfl rfl (Nat.le_of_ble_eq_true rfl) dX6_beat_9 (g_no) ?_
    intro v9 w9 H locs h9 hG
    obtain ⟨e9, f9⟩ := h9
    rw [f9] at hG; rw [e9]; clear e9 f9
    show W p l e _ s m args below meth c H locs _ _ _ (F0 m 12 ls [.int (m_isSet y), .ref (ad 0)])
    refine lv_if_eq (tgt := 29) hx hb dX6_beat_12 (by decide) (fun c_18 => ?_) (fun c_18 => ?_)
    · skip
      refine lv_iconst (v := 0) hx hb dX6_beat_29 (by decide) ?_
      exact j_2 _ _ _ (by rw [if_neg c_17, if_pos c_18]) hG
    · skip
      refine lv_iload_n hx hb dX6_beat_15 rfl (lv_at hl 3 rfl) ?_
      refine lv_iconst (v := 1) hx hb dX6_beat_16 (by decide) ?_
      refine lv_bipush (v := 7) hx hb dX6_beat_17 (by decide) ?_
      refine g_callS (rest := [.ref (ad 0)]) (As := [.int z, .int 1, .int 7]) hE hG hl.1 (c_X6_in l hfl D tc A w z 1 7 ) mw4_35 mw4_36 mw1_4 mw4_37 nm_X6_in ⟨⟨Nat.le_of_ble_eq_true rfl, Nat.le_of_ble_eq_true rfl⟩, Nat.le_of_ble_eq_true rfl, Nat.le_of_ble_eq_true rfl⟩ rfl rfl (Nat.le_of_ble_eq_true rfl) dX6_beat_19 (g_no) ?_
      intro v9 w9 H locs h9 hG
      obtain ⟨e9, f9⟩ := h9
      rw [f9] at hG; rw [e9]; clear e9 f9
      show W p l e _ s m args below meth c H locs _ _ _ (F0 m 22 ls [.int (f_in z 1 7), .ref (ad 0)])
      refine lv_if_eq (tgt := 29) hx hb dX6_beat_22 (by decide) (fun c_19 => ?_) (fun c_19 => ?_)
      · skip
        refine lv_iconst (v := 0) hx hb dX6_beat_29 (by decide) ?_
        exact j_2 _ _ _ (by rw [if_neg c_17, if_neg c_18, if_pos c_19]) hG
      · skip
        refine lv_iconst (v := 1) hx hb dX6_beat_25 (by decide) ?_
        refine lv_goto (tgt := 30) hx hb dX6_beat_26 (by decide) ?_
        exact j_2 _ _ _ (by rw [if_neg c_17, if_neg c_18, if_neg c_19]) hG
theorem ix_slip {d : gDt} {x y z : Int32} (hd : mOk d) (h1 : ¬ m_isPlayer d x = 0) (h2 : ¬ m_isPlace d y z = 0) : vp_in (65 * (6 * x + y) + z) 3120 := by
  obtain ⟨u, hu, rfl⟩ := m_isPlayer_ne hd h1
  obtain ⟨i, j, hi, hj1, hj2, rfl, rfl⟩ := m_isPlace_ne hd h2
  have := hd.1.2.1
  have := hd.1.2.2
  have := (mOk_len hd hi).2.2.1
  rw [ix_ver (by omega) (by omega) (by omega)]
  exact vp_in_nI (by omega) (by decide)
def ga_slip (d : gDt) (x y z a : Int32) : Int32 := (if (m_isPlayer d x) = 0 then 0 else (if (m_isPlace d y z) = 0 then 0 else 1 : Int32) : Int32)
def gb_slip (d : gDt) (x y z a : Int32) : Int32 := (f_in a 0 7)
def gc_slip (d : gDt) (x y z a : Int32) : Int32 := (if (if (m_isPlayer d x) = 0 then 0 else (if (m_isPlace d y z) = 0 then 0 else 1 : Int32) : Int32) = 0 then 0 else (if (m_kn d x y) = 0 then 0 else 1 : Int32) : Int32)
abbrev rm_X6_slip : Room := { frames := 4, cells := 0, slots := 0, locals := 158 }
theorem nm_X6_slip : gNm yX6_slip 4 := ⟨by decide +kernel, by decide +kernel, by decide +kernel⟩
set_option maxHeartbeats 8000000 in
set_option maxRecDepth 100000 in
theorem c_X6_slip (l : Launch) (hfl : l.stackTraces = false) (D : va_G) (tc : Nat → ClassId) (A : Nat → Prop) (w : gW) (ad : Nat → Nat) (d : gDt) (tk : Int64) (st : Nat → Int64) (x : Int32) (y : Int32) (z : Int32) (a : Int32) (hM : mW tc w ad d tk st) (hOk : mOk d) : gM l yX6_slip cX6_slip 8 (some .int) rm_X6_slip D tc A [.ref (ad 0), .int x, .int y, .int z, .int a] w (fun v w' => (m_go (ga_slip d x y z a) (gb_slip d x y z a) (gc_slip d x y z a) = 0 ∧ (∃ r, v = some (.int r)) ∧ mW tc w' ad (sL d (m_la (ga_slip d x y z a) (gb_slip d x y z a) (gc_slip d x y z a))) tk st ∧ gF w w') ∨ (¬ m_go (ga_slip d x y z a) (gb_slip d x y z a) (gc_slip d x y z a) = 0 ∧ v = some (.int (d 8 (65 * (6 * x + y) + z).toNatClampNeg)) ∧ mW tc w' ad (sL (gD d 8 (upd (d 8) (65 * (6 * x + y) + z).toNatClampNeg a)) 0) tk st ∧ gF w w')) (fun _ => False) := by
  refine gM_of (by decide +kernel) (Nat.le_of_ble_eq_true rfl) ?_
  intro p e s m args below meth c ls Q hQ hE hG hr hnt hnm hl
  have hx := hE.1
  have hb := hE.2.1
  have hl : lv_has ls 8 [(0, .ref (ad 0)), (1, .int x), (2, .int y), (3, .int z), (4, .int a)] := hl
  obtain ⟨o0, o1, o2, o3, o4, o5, o6, o7, o8, o9, o10⟩ := hM
  refine lv_aload_n hx hb dX6_slip_0 rfl (lv_at hl 0 rfl) ?_
  refine lv_iload_n hx hb dX6_slip_1 rfl (lv_at hl 1 rfl) ?_
  refine g_callV (rest := []) (As := [.int x]) hE hG hl.1 (c_X6_isPlayer l hfl D tc A w ad d tk st x ⟨o0, o1, o2, o3, o4, o5, o6, o7, o8, o9, o10⟩ ) o0 rfl mw4_169 mw4_171 mws_19 mw1_4 mw4_172 rfl nm_X6_isPlayer ⟨⟨Nat.le_of_ble_eq_true rfl, Nat.le_of_ble_eq_true rfl⟩, Nat.le_of_ble_eq_true rfl, Nat.le_of_ble_eq_true rfl⟩ rfl rfl (Nat.le_of_ble_eq_true rfl) dX6_slip_2 (g_no) ?_
  intro v9 w9 H locs h9 hG
  obtain ⟨e9, f9⟩ := h9
  rw [f9] at hG; rw [e9]; clear e9 f9
  show W p l e _ s m args below meth c H locs _ _ _ (F0 m 5 ls [.int (m_isPlayer d x)])
  have j_2 : ∀ (v_1 : Int32) (H : Heap) (locs : List Loc), v_1 = (if (m_isPlayer d x) = 0 then 0 else (if (m_isPlace d y z) = 0 then 0 else 1 : Int32) : Int32) → gS D A s.heap w H locs → W p l e rm_X6_slip s m args below meth c H locs (0 + rm_X6_isPlayer.cells) (0 + rm_X6_isPlayer.slots) Q (F0 m 22 ls (.int v_1 :: [])) := by
    intro v_1 H locs ev_1 hG
    refine lv_istore (lv' := [(5, .int v_1), (0, .ref (ad 0)), (1, .int x), (2, .int y), (3, .int z), (4, .int a)]) hx hb dX6_slip_22 hl (by decide) rfl (fun ls hl => ?_)
    refine lv_aload_n hx hb dX6_slip_24 rfl (lv_at hl 1 rfl) ?_
    refine lv_iload hx hb dX6_slip_25 (lv_at hl 0 rfl) ?_
    refine lv_iload hx hb dX6_slip_27 (lv_at hl 5 rfl) ?_
    refine lv_iconst (v := 0) hx hb dX6_slip_29 (by decide) ?_
    refine lv_bipush (v := 7) hx hb dX6_slip_30 (by decide) ?_
    refine g_callS (rest := [.int v_1, .ref (ad 0)]) (As := [.int a, .int 0, .int 7]) hE hG hl.1 (c_X6_in l hfl D tc A w a 0 7 ) mw4_35 mw4_36 mw1_4 mw4_37 nm_X6_in ⟨⟨Nat.le_of_ble_eq_true rfl, Nat.le_of_ble_eq_true rfl⟩, Nat.le_of_ble_eq_true rfl, Nat.le_of_ble_eq_true rfl⟩ rfl rfl (Nat.le_of_ble_eq_true rfl) dX6_slip_32 (g_no) ?_
    intro v9 w9 H locs h9 hG
    obtain ⟨e9, f9⟩ := h9
    rw [f9] at hG; rw [e9]; clear e9 f9
    show W p l e _ s m args below meth c H locs _ _ _ (F0 m 35 ls [.int (f_in a 0 7), .int v_1, .ref (ad 0)])
    refine lv_iload hx hb dX6_slip_35 (lv_at hl 0 rfl) ?_
    have j_4 : ∀ (v_3 : Int32) (H : Heap) (locs : List Loc), v_3 = (if v_1 = 0 then 0 else (if (m_kn d x y) = 0 then 0 else 1 : Int32) : Int32) → gS D A s.heap w H locs → W p l e rm_X6_slip s m args below meth c H locs ((0 + rm_X6_isPlayer.cells) + rm_X6_in.cells) ((0 + rm_X6_isPlayer.slots) + rm_X6_in.slots) Q (F0 m 54 ls (.int v_3 :: [.int (f_in a 0 7), .int v_1, .ref (ad 0)])) := by
      intro v_3 H locs ev_3 hG
      refine g_callV (rest := []) (As := [.int v_1, .int (f_in a 0 7), .int v_3]) hE hG hl.1 (c_X6_goes l hfl D tc A w ad d tk st v_1 (f_in a 0 7) v_3 ⟨o0, o1, o2, o3, o4, o5, o6, o7, o8, o9, o10⟩ ) o0 rfl mw4_38 mw4_40 mws_12 mw1_4 mw4_41 rfl nm_X6_goes ⟨⟨Nat.le_of_ble_eq_true rfl, Nat.le_of_ble_eq_true rfl⟩, Nat.le_of_ble_eq_true rfl, Nat.le_of_ble_eq_true rfl⟩ rfl rfl (Nat.le_of_ble_eq_true rfl) dX6_slip_54 (g_no) ?_
      intro v9 w_5 H locs h9 hG
      obtain ⟨e9, ew_5⟩ := h9
      rw [e9]; clear e9
      show W p l e _ s m args below meth c H locs _ _ _ (F0 m 57 ls [.int (m_go v_1 (f_in a 0 7) v_3)])
      have h_6 : w_5 1001 = some ((ad 1), .inl (tc 0, 4, .inl (d 0))) := gU_n ew_5 (by decide) o1
      have h_7 : w_5 1002 = some ((ad 2), .inl (tc 0, 6, .inl (d 1))) := gU_n ew_5 (by decide) o2
      have h_8 : w_5 1003 = some ((ad 3), .inl (tc 0, 6, .inl (d 2))) := gU_n ew_5 (by decide) o3
      have h_9 : w_5 1004 = some ((ad 4), .inl (tc 0, 390, .inl (d 3))) := gU_n ew_5 (by decide) o4
      have h_10 : w_5 1005 = some ((ad 5), .inl (tc 1, 4, .inr (.inl st))) := gU_n ew_5 (by decide) o5
      have h_11 : w_5 1006 = some ((ad 6), .inl (tc 0, 32, .inl (d 4))) := gU_n ew_5 (by decide) o6
      have h_12 : w_5 1007 = some ((ad 7), .inl (tc 0, 4, .inl (d 5))) := gU_n ew_5 (by decide) o7
      have h_13 : w_5 1008 = some ((ad 8), .inl (tc 0, 8, .inl (d 6))) := gU_n ew_5 (by decide) o8
      have h_14 : w_5 1009 = some ((ad 9), .inl (tc 2, 48, .inl (d 7))) := gU_n ew_5 (by decide) o9
      have h_15 : w_5 1010 = some ((ad 10), .inl (tc 0, 3120, .inl (d 8))) := gU_n ew_5 (by decide) o10
      have h_16 : w_5 1000 = some ((ad 0), .inr (6, [.ref (ad 1), .int (d 9 0), .ref (ad 2), .ref (ad 3), .ref (ad 4), .int (d 9 1), .int (d 9 2), .int (d 9 3), .int (d 9 4), .int (d 9 5), .int (d 9 6), .int (d 9 7), .int (d 9 8), .int (d 9 9), .long tk, .ref (ad 5), .int (d 9 10), .int (d 9 11), .ref (ad 6), .ref (ad 7), .int (d 9 12), .ref (ad 8), .ref (ad 9), .ref (ad 10), .int (d 9 13), .int (m_la v_1 (f_in a 0 7) v_3)])) := gU_s ew_5
      refine lv_if_ne (tgt := 62) hx hb dX6_slip_57 (by decide) (fun c_17 => ?_) (fun c_17 => ?_)
      · skip
        have hkn := (m_go_ne c_17).1
        rw [ev_1] at hkn
        have hin9 := ix_slip hOk (and_ne hkn).1 (and_ne hkn).2
        clear hkn
        refine lv_bipush (v := 65) hx hb dX6_slip_62 (by decide) ?_
        refine lv_bipush (v := 6) hx hb dX6_slip_64 (by decide) ?_
        refine lv_iload_n hx hb dX6_slip_66 rfl (lv_at hl 2 rfl) ?_
        refine lv_imul hx hb dX6_slip_67 ?_
        refine lv_iload_n hx hb dX6_slip_68 rfl (lv_at hl 3 rfl) ?_
        refine lv_iadd hx hb dX6_slip_69 ?_
        refine lv_imul hx hb dX6_slip_70 ?_
        refine lv_iload_n hx hb dX6_slip_71 rfl (lv_at hl 4 rfl) ?_
        refine lv_iadd hx hb dX6_slip_72 ?_
        refine lv_istore (lv' := [(6, .int ((65 * ((6 * x) + y)) + z)), (5, .int v_1), (0, .ref (ad 0)), (1, .int x), (2, .int y), (3, .int z), (4, .int a)]) hx hb dX6_slip_73 hl (by decide) rfl (fun ls hl => ?_)
        refine lv_aload_n hx hb dX6_slip_75 rfl (lv_at hl 2 rfl) ?_
        refine g_get hE hG h_16 rfl inG6 23 (by decide) mw3_210 rfl dX6_slip_76 ?_
        refine lv_iload hx hb dX6_slip_79 (lv_at hl 0 rfl) ?_
        refine g_iald hE hG h_15 hin9 dX6_slip_81 ?_
        refine lv_istore (lv' := [(7, .int ((d 8) ((65 * ((6 * x) + y)) + z).toNatClampNeg)), (6, .int ((65 * ((6 * x) + y)) + z)), (5, .int v_1), (0, .ref (ad 0)), (1, .int x), (2, .int y), (3, .int z), (4, .int a)]) hx hb dX6_slip_82 hl (by decide) rfl (fun ls hl => ?_)
        refine lv_aload_n hx hb dX6_slip_84 rfl (lv_at hl 3 rfl) ?_
        refine g_get hE hG h_16 rfl inG6 23 (by decide) mw3_210 rfl dX6_slip_85 ?_
        refine lv_iload hx hb dX6_slip_88 (lv_at hl 1 rfl) ?_
        refine lv_iload hx hb dX6_slip_90 (lv_at hl 7 rfl) ?_
        refine g_iast hE hG h_15 hin9 dX6_slip_92 (fun H locs w_18 ew_18 hG => ?_)
        have h_19 : w_18 1001 = some ((ad 1), .inl (tc 0, 4, .inl (d 0))) := gU_n ew_18 (by decide) h_6
        have h_20 : w_18 1002 = some ((ad 2), .inl (tc 0, 6, .inl (d 1))) := gU_n ew_18 (by decide) h_7
        have h_21 : w_18 1003 = some ((ad 3), .inl (tc 0, 6, .inl (d 2))) := gU_n ew_18 (by decide) h_8
        have h_22 : w_18 1004 = some ((ad 4), .inl (tc 0, 390, .inl (d 3))) := gU_n ew_18 (by decide) h_9
        have h_23 : w_18 1005 = some ((ad 5), .inl (tc 1, 4, .inr (.inl st))) := gU_n ew_18 (by decide) h_10
        have h_24 : w_18 1006 = some ((ad 6), .inl (tc 0, 32, .inl (d 4))) := gU_n ew_18 (by decide) h_11
        have h_25 : w_18 1007 = some ((ad 7), .inl (tc 0, 4, .inl (d 5))) := gU_n ew_18 (by decide) h_12
        have h_26 : w_18 1008 = some ((ad 8), .inl (tc 0, 8, .inl (d 6))) := gU_n ew_18 (by decide) h_13
        have h_27 : w_18 1009 = some ((ad 9), .inl (tc 2, 48, .inl (d 7))) := gU_n ew_18 (by decide) h_14
        have h_28 : w_18 1000 = some ((ad 0), .inr (6, [.ref (ad 1), .int (d 9 0), .ref (ad 2), .ref (ad 3), .ref (ad 4), .int (d 9 1), .int (d 9 2), .int (d 9 3), .int (d 9 4), .int (d 9 5), .int (d 9 6), .int (d 9 7), .int (d 9 8), .int (d 9 9), .long tk, .ref (ad 5), .int (d 9 10), .int (d 9 11), .ref (ad 6), .ref (ad 7), .int (d 9 12), .ref (ad 8), .ref (ad 9), .ref (ad 10), .int (d 9 13), .int (m_la v_1 (f_in a 0 7) v_3)])) := gU_n ew_18 (by decide) h_16
        have h_29 : w_18 1010 = some ((ad 10), .inl (tc 0, 3120, .inl (upd (d 8) ((65 * ((6 * x) + y)) + z).toNatClampNeg a))) := gU_s ew_18
        refine lv_iload hx hb dX6_slip_93 (lv_at hl 0 rfl) ?_
        subst hQ
        have hg_v_1 : v_1 = ga_slip d x y z a := ev_1
        subst hg_v_1
        have hg_v_3 : v_3 = gc_slip d x y z a := ev_3
        subst hg_v_3
        rw [m_la_ok c_17] at h_28
        exact g_iret hE hG hr (Nat.le_of_ble_eq_true rfl) (Nat.le_of_ble_eq_true rfl) dX6_slip_95 (Or.inr ⟨c_17, rfl, ⟨h_28, h_19, h_20, h_21, h_22, h_23, h_24, h_25, h_26, h_27, h_29⟩, gF_u (gF_u (gF_rf w) ew_5 (by decide)) ew_18 (by decide)⟩)
      · skip
        refine lv_iconst (v := 0) hx hb dX6_slip_60 (by decide) ?_
        subst hQ
        have hg_v_1 : v_1 = ga_slip d x y z a := ev_1
        subst hg_v_1
        have hg_v_3 : v_3 = gc_slip d x y z a := ev_3
        subst hg_v_3
        exact g_iret hE hG hr (Nat.le_of_ble_eq_true rfl) (Nat.le_of_ble_eq_true rfl) dX6_slip_61 (Or.inl ⟨c_17, ⟨_, rfl⟩, mW_mk h_16 h_6 h_7 h_8 h_9 h_10 h_11 h_12 h_13 h_14 h_15, gF_u (gF_rf w) ew_5 (by decide)⟩)
    refine lv_if_eq (tgt := 53) hx hb dX6_slip_37 (by decide) (fun c_30 => ?_) (fun c_30 => ?_)
    · skip
      refine lv_iconst (v := 0) hx hb dX6_slip_53 (by decide) ?_
      exact j_4 _ _ _ (by rw [if_pos c_30]) hG
    · skip
      refine lv_aload_n hx hb dX6_slip_40 rfl (lv_at hl 1 rfl) ?_
      refine lv_iload_n hx hb dX6_slip_41 rfl (lv_at hl 2 rfl) ?_
      refine lv_iload_n hx hb dX6_slip_42 rfl (lv_at hl 3 rfl) ?_
      refine g_callV (rest := [.int (f_in a 0 7), .int v_1, .ref (ad 0)]) (As := [.int x, .int y]) hE hG hl.1 (c_X6_knowsIt l hfl D tc A w ad d tk st x y ⟨o0, o1, o2, o3, o4, o5, o6, o7, o8, o9, o10⟩ (Or.inr (ix_kn hOk (and_ne (fun h => c_30 (ev_1.trans h))).1 (isPl_piece (and_ne (fun h => c_30 (ev_1.trans h))).2)))) o0 rfl mw4_173 mw4_175 mws_20 mw1_4 mw4_176 rfl nm_X6_knowsIt ⟨⟨Nat.le_of_ble_eq_true rfl, Nat.le_of_ble_eq_true rfl⟩, Nat.le_of_ble_eq_true rfl, Nat.le_of_ble_eq_true rfl⟩ rfl rfl (Nat.le_of_ble_eq_true rfl) dX6_slip_43 (g_no) ?_
      intro v9 w9 H locs h9 hG
      obtain ⟨e9, f9⟩ := h9
      rw [f9] at hG; rw [e9]; clear e9 f9
      show W p l e _ s m args below meth c H locs _ _ _ (F0 m 46 ls [.int (m_kn d x y), .int (f_in a 0 7), .int v_1, .ref (ad 0)])
      refine lv_if_eq (tgt := 53) hx hb dX6_slip_46 (by decide) (fun c_31 => ?_) (fun c_31 => ?_)
      · skip
        refine lv_iconst (v := 0) hx hb dX6_slip_53 (by decide) ?_
        exact j_4 _ _ _ (by rw [if_neg c_30, if_pos c_31]) hG
      · skip
        refine lv_iconst (v := 1) hx hb dX6_slip_49 (by decide) ?_
        refine lv_goto (tgt := 54) hx hb dX6_slip_50 (by decide) ?_
        exact j_4 _ _ _ (by rw [if_neg c_30, if_neg c_31]) hG
  refine lv_if_eq (tgt := 21) hx hb dX6_slip_5 (by decide) (fun c_32 => ?_) (fun c_32 => ?_)
  · skip
    refine lv_iconst (v := 0) hx hb dX6_slip_21 (by decide) ?_
    exact j_2 _ _ _ (by rw [if_pos c_32]) hG
  · skip
    refine lv_aload_n hx hb dX6_slip_8 rfl (lv_at hl 0 rfl) ?_
    refine lv_iload_n hx hb dX6_slip_9 rfl (lv_at hl 2 rfl) ?_
    refine lv_iload_n hx hb dX6_slip_10 rfl (lv_at hl 3 rfl) ?_
    refine g_callV (rest := []) (As := [.int y, .int z]) hE hG hl.1 (c_X6_isPlace l hfl D tc A w ad d tk st y z ⟨o0, o1, o2, o3, o4, o5, o6, o7, o8, o9, o10⟩ hOk) o0 rfl mw4_58 mw4_60 mws_14 mw1_4 mw4_61 rfl nm_X6_isPlace ⟨⟨Nat.le_of_ble_eq_true rfl, Nat.le_of_ble_eq_true rfl⟩, Nat.le_of_ble_eq_true rfl, Nat.le_of_ble_eq_true rfl⟩ rfl rfl (Nat.le_of_ble_eq_true rfl) dX6_slip_11 (g_no) ?_
    intro v9 w9 H locs h9 hG
    obtain ⟨e9, f9⟩ := h9
    rw [f9] at hG; rw [e9]; clear e9 f9
    show W p l e _ s m args below meth c H locs _ _ _ (F0 m 14 ls [.int (m_isPlace d y z)])
    refine lv_if_eq (tgt := 21) hx hb dX6_slip_14 (by decide) (fun c_33 => ?_) (fun c_33 => ?_)
    · skip
      refine lv_iconst (v := 0) hx hb dX6_slip_21 (by decide) ?_
      exact j_2 _ _ _ (by rw [if_neg c_32, if_pos c_33]) hG
    · skip
      refine lv_iconst (v := 1) hx hb dX6_slip_17 (by decide) ?_
      refine lv_goto (tgt := 22) hx hb dX6_slip_18 (by decide) ?_
      exact j_2 _ _ _ (by rw [if_neg c_32, if_neg c_33]) hG
def m_unl (d : gDt) (x o : Int32) (i : Nat) : Nat → Nat
  | 0 => 0
  | k + 1 => if m_tof d x i (k + 1) = m_tof d o i (k + 1) then m_unl d x o i k else m_unl d x o i k + 1
def m_unlike (d : gDt) (x o y : Int32) : Int32 := if m_kn d x y = 0 then -1 else if m_kn d o y = 0 then -1 else nI (m_unl d x o y.toNatClampNeg (lenN d y.toNatClampNeg))
theorem m_unl_s {d : gDt} {x o : Int32} {i k : Nat} {v : Int32} (e : v = if m_tof d x i (k + 1) = m_tof d o i (k + 1) then (0 : Int32) else 1) : nI (m_unl d x o i k) + v = nI (m_unl d x o i (k + 1)) := by
  rw [e]
  show _ = nI (if _ then _ else _)
  split
  · exact Int32.add_zero _
  · exact nI_1 _
theorem unl_ne {d : gDt} {x o y : Int32} (h : ¬ (if m_isPlayer d x = 0 then (0 : Int32) else if o = -1 then (if m_isPiece d y = 0 then 0 else 1) else if m_isPlayer d o = 0 then 0 else (if m_isPiece d y = 0 then 0 else 1)) = 0) : ¬ m_isPlayer d x = 0 ∧ (o = -1 ∨ ¬ m_isPlayer d o = 0) ∧ ¬ m_isPiece d y = 0 := by
  by_cases h1 : m_isPlayer d x = 0
  · rw [if_pos h1] at h; exact absurd rfl h
  · rw [if_neg h1] at h
    by_cases h2 : o = -1
    · rw [if_pos h2] at h
      exact ⟨h1, Or.inl h2, one_ne h⟩
    · rw [if_neg h2] at h
      exact ⟨h1, Or.inr (and_ne h).1, (and_ne h).2⟩
def ga_unlike (d : gDt) (x o y : Int32) : Int32 := (if (m_isPlayer d x) = 0 then 0 else (if o = (-1) then (if (m_isPiece d y) = 0 then 0 else 1 : Int32) else (if (m_isPlayer d o) = 0 then 0 else (if (m_isPiece d y) = 0 then 0 else 1 : Int32) : Int32) : Int32) : Int32)
def gb_unlike (d : gDt) (x o y : Int32) : Int32 := 1
def gc_unlike (d : gDt) (x o y : Int32) : Int32 := 1
abbrev rm_X6_unlike : Room := { frames := 4, cells := 0, slots := 0, locals := 158 }
theorem nm_X6_unlike : gNm yX6_unlike 3 := ⟨by decide +kernel, by decide +kernel, by decide +kernel⟩
set_option maxHeartbeats 8000000 in
set_option maxRecDepth 100000 in
theorem c_X6_unlike (l : Launch) (hfl : l.stackTraces = false) (D : va_G) (tc : Nat → ClassId) (A : Nat → Prop) (w : gW) (ad : Nat → Nat) (d : gDt) (tk : Int64) (st : Nat → Int64) (x : Int32) (o : Int32) (y : Int32) (hM : mW tc w ad d tk st) (hOk : mOk d) : gM l yX6_unlike cX6_unlike 7 (some .int) rm_X6_unlike D tc A [.ref (ad 0), .int x, .int o, .int y] w (fun v w' => (m_go (ga_unlike d x o y) (gb_unlike d x o y) (gc_unlike d x o y) = 0 ∧ (∃ r, v = some (.int r)) ∧ mW tc w' ad (sL d (m_la (ga_unlike d x o y) (gb_unlike d x o y) (gc_unlike d x o y))) tk st ∧ gF w w') ∨ (¬ m_go (ga_unlike d x o y) (gb_unlike d x o y) (gc_unlike d x o y) = 0 ∧ v = some (.int (m_unlike d x o y)) ∧ mW tc w' ad (sL d 0) tk st ∧ gF w w')) (fun _ => False) := by
  refine gM_of (by decide +kernel) (Nat.le_of_ble_eq_true rfl) ?_
  intro p e s m args below meth c ls Q hQ hE hG hr hnt hnm hl
  have hx := hE.1
  have hb := hE.2.1
  have hl : lv_has ls 7 [(0, .ref (ad 0)), (1, .int x), (2, .int o), (3, .int y)] := hl
  obtain ⟨o0, o1, o2, o3, o4, o5, o6, o7, o8, o9, o10⟩ := hM
  refine lv_aload_n hx hb dX6_unlike_0 rfl (lv_at hl 0 rfl) ?_
  refine lv_iload_n hx hb dX6_unlike_1 rfl (lv_at hl 1 rfl) ?_
  refine g_callV (rest := []) (As := [.int x]) hE hG hl.1 (c_X6_isPlayer l hfl D tc A w ad d tk st x ⟨o0, o1, o2, o3, o4, o5, o6, o7, o8, o9, o10⟩ ) o0 rfl mw4_169 mw4_171 mws_19 mw1_4 mw4_172 rfl nm_X6_isPlayer ⟨⟨Nat.le_of_ble_eq_true rfl, Nat.le_of_ble_eq_true rfl⟩, Nat.le_of_ble_eq_true rfl, Nat.le_of_ble_eq_true rfl⟩ rfl rfl (Nat.le_of_ble_eq_true rfl) dX6_unlike_2 (g_no) ?_
  intro v9 w9 H locs h9 hG
  obtain ⟨e9, f9⟩ := h9
  rw [f9] at hG; rw [e9]; clear e9 f9
  show W p l e _ s m args below meth c H locs _ _ _ (F0 m 5 ls [.int (m_isPlayer d x)])
  have j_2 : ∀ (v_1 : Int32) (H : Heap) (locs : List Loc), v_1 = (if (m_isPlayer d x) = 0 then 0 else (if o = (-1) then (if (m_isPiece d y) = 0 then 0 else 1 : Int32) else (if (m_isPlayer d o) = 0 then 0 else (if (m_isPiece d y) = 0 then 0 else 1 : Int32) : Int32) : Int32) : Int32) → gS D A s.heap w H locs → W p l e rm_X6_unlike s m args below meth c H locs (0 + rm_X6_isPlayer.cells) (0 + rm_X6_isPlayer.slots) Q (F0 m 34 ls (.int v_1 :: [])) := by
    intro v_1 H locs ev_1 hG
    refine lv_istore (lv' := [(4, .int v_1), (0, .ref (ad 0)), (1, .int x), (2, .int o), (3, .int y)]) hx hb dX6_unlike_34 hl (by decide) rfl (fun ls hl => ?_)
    refine lv_aload_n hx hb dX6_unlike_36 rfl (lv_at hl 1 rfl) ?_
    refine lv_iload hx hb dX6_unlike_37 (lv_at hl 0 rfl) ?_
    refine lv_iconst (v := 1) hx hb dX6_unlike_39 (by decide) ?_
    refine lv_iconst (v := 1) hx hb dX6_unlike_40 (by decide) ?_
    refine g_callV (rest := []) (As := [.int v_1, .int 1, .int 1]) hE hG hl.1 (c_X6_goes l hfl D tc A w ad d tk st v_1 1 1 ⟨o0, o1, o2, o3, o4, o5, o6, o7, o8, o9, o10⟩ ) o0 rfl mw4_38 mw4_40 mws_12 mw1_4 mw4_41 rfl nm_X6_goes ⟨⟨Nat.le_of_ble_eq_true rfl, Nat.le_of_ble_eq_true rfl⟩, Nat.le_of_ble_eq_true rfl, Nat.le_of_ble_eq_true rfl⟩ rfl rfl (Nat.le_of_ble_eq_true rfl) dX6_unlike_41 (g_no) ?_
    intro v9 w_3 H locs h9 hG
    obtain ⟨e9, ew_3⟩ := h9
    rw [e9]; clear e9
    show W p l e _ s m args below meth c H locs _ _ _ (F0 m 44 ls [.int (m_go v_1 1 1)])
    have h_4 : w_3 1001 = some ((ad 1), .inl (tc 0, 4, .inl (d 0))) := gU_n ew_3 (by decide) o1
    have h_5 : w_3 1002 = some ((ad 2), .inl (tc 0, 6, .inl (d 1))) := gU_n ew_3 (by decide) o2
    have h_6 : w_3 1003 = some ((ad 3), .inl (tc 0, 6, .inl (d 2))) := gU_n ew_3 (by decide) o3
    have h_7 : w_3 1004 = some ((ad 4), .inl (tc 0, 390, .inl (d 3))) := gU_n ew_3 (by decide) o4
    have h_8 : w_3 1005 = some ((ad 5), .inl (tc 1, 4, .inr (.inl st))) := gU_n ew_3 (by decide) o5
    have h_9 : w_3 1006 = some ((ad 6), .inl (tc 0, 32, .inl (d 4))) := gU_n ew_3 (by decide) o6
    have h_10 : w_3 1007 = some ((ad 7), .inl (tc 0, 4, .inl (d 5))) := gU_n ew_3 (by decide) o7
    have h_11 : w_3 1008 = some ((ad 8), .inl (tc 0, 8, .inl (d 6))) := gU_n ew_3 (by decide) o8
    have h_12 : w_3 1009 = some ((ad 9), .inl (tc 2, 48, .inl (d 7))) := gU_n ew_3 (by decide) o9
    have h_13 : w_3 1010 = some ((ad 10), .inl (tc 0, 3120, .inl (d 8))) := gU_n ew_3 (by decide) o10
    have h_14 : w_3 1000 = some ((ad 0), .inr (6, [.ref (ad 1), .int (d 9 0), .ref (ad 2), .ref (ad 3), .ref (ad 4), .int (d 9 1), .int (d 9 2), .int (d 9 3), .int (d 9 4), .int (d 9 5), .int (d 9 6), .int (d 9 7), .int (d 9 8), .int (d 9 9), .long tk, .ref (ad 5), .int (d 9 10), .int (d 9 11), .ref (ad 6), .ref (ad 7), .int (d 9 12), .ref (ad 8), .ref (ad 9), .ref (ad 10), .int (d 9 13), .int (m_la v_1 1 1)])) := gU_s ew_3
    refine lv_if_ne (tgt := 49) hx hb dX6_unlike_44 (by decide) (fun c_15 => ?_) (fun c_15 => ?_)
    · skip
      have hkn := (m_go_ne c_15).1
      rw [ev_1] at hkn
      obtain ⟨hkp, hko, hki⟩ := unl_ne hkn
      obtain ⟨u, hu, hxu⟩ := m_isPlayer_ne hOk hkp
      obtain ⟨i, hi, hyi⟩ := m_isPiece_ne hOk hki
      have hu8 : u < 8 := by have := hOk.1.2.2; omega
      have hi6 : i < 6 := by have := hOk.1.2.1; omega
      have hkx : vp_in (6 * x + y) 48 := ix_kn hOk hkp hki
      have hx9 : x = -1 ∨ ∃ u, u < 8 ∧ x = nI u := Or.inr ⟨u, hu8, hxu⟩
      have ho9 : o = -1 ∨ ∃ u, u < 8 ∧ o = nI u := hko.imp id (fun h => by obtain ⟨q, hq, e9⟩ := m_isPlayer_ne hOk h; exact ⟨q, by have := hOk.1.2.2; omega, e9⟩)
      have hkq : o = -1 ∨ vp_in (6 * o + y) 48 := hko.imp id (fun h => ix_kn hOk h hki)
      clear hkn hkp hko hki
      have hg_v_1 : v_1 = ga_unlike d x o y := ev_1
      subst hg_v_1
      subst hyi
      have hn64 := (mOk_len hOk hi).2.2.1
      refine lv_aload_n hx hb dX6_unlike_49 rfl (lv_at hl 1 rfl) ?_
      refine lv_iload_n hx hb dX6_unlike_50 rfl (lv_at hl 2 rfl) ?_
      refine lv_iload_n hx hb dX6_unlike_51 rfl (lv_at hl 4 rfl) ?_
      refine g_callV (rest := []) (As := [.int x, .int (nI i)]) hE hG hl.1 (c_X6_knowsIt l hfl D tc A w_3 ad (gD d 9 (upd (d 9) 14 (m_la (ga_unlike d x o (nI i)) 1 1))) tk st x (nI i) ⟨h_14, h_4, h_5, h_6, h_7, h_8, h_9, h_10, h_11, h_12, h_13⟩ (Or.inr hkx)) h_14 rfl mw4_173 mw4_175 mws_20 mw1_4 mw4_176 rfl nm_X6_knowsIt ⟨⟨Nat.le_of_ble_eq_true rfl, Nat.le_of_ble_eq_true rfl⟩, Nat.le_of_ble_eq_true rfl, Nat.le_of_ble_eq_true rfl⟩ rfl rfl (Nat.le_of_ble_eq_true rfl) dX6_unlike_52 (g_no) ?_
      intro v9 w9 H locs h9 hG
      obtain ⟨e9, f9⟩ := h9
      rw [f9] at hG; rw [e9]; clear e9 f9
      show W p l e _ s m args below meth c H locs _ _ _ (F0 m 55 ls [.int (m_kn d x (nI i))])
      refine lv_if_eq (tgt := 67) hx hb dX6_unlike_55 (by decide) (fun c_16 => ?_) (fun c_16 => ?_)
      · skip
        refine lv_iconst (v := (-1)) hx hb dX6_unlike_67 (by decide) ?_
        subst hQ
        rw [m_la_ok c_15] at h_14
        exact g_iret hE hG hr (Nat.le_of_ble_eq_true rfl) (Nat.le_of_ble_eq_true rfl) dX6_unlike_68 (Or.inr ⟨c_15, (by unfold m_unlike; rw [if_pos c_16] <;> rfl), ⟨h_14, h_4, h_5, h_6, h_7, h_8, h_9, h_10, h_11, h_12, h_13⟩, gF_u (gF_rf w) ew_3 (by decide)⟩)
      · skip
        refine lv_aload_n hx hb dX6_unlike_58 rfl (lv_at hl 1 rfl) ?_
        refine lv_iload_n hx hb dX6_unlike_59 rfl (lv_at hl 3 rfl) ?_
        refine lv_iload_n hx hb dX6_unlike_60 rfl (lv_at hl 4 rfl) ?_
        refine g_callV (rest := []) (As := [.int o, .int (nI i)]) hE hG hl.1 (c_X6_knowsIt l hfl D tc A w_3 ad (gD d 9 (upd (d 9) 14 (m_la (ga_unlike d x o (nI i)) 1 1))) tk st o (nI i) ⟨h_14, h_4, h_5, h_6, h_7, h_8, h_9, h_10, h_11, h_12, h_13⟩ hkq) h_14 rfl mw4_173 mw4_175 mws_20 mw1_4 mw4_176 rfl nm_X6_knowsIt ⟨⟨Nat.le_of_ble_eq_true rfl, Nat.le_of_ble_eq_true rfl⟩, Nat.le_of_ble_eq_true rfl, Nat.le_of_ble_eq_true rfl⟩ rfl rfl (Nat.le_of_ble_eq_true rfl) dX6_unlike_61 (g_no) ?_
        intro v9 w9 H locs h9 hG
        obtain ⟨e9, f9⟩ := h9
        rw [f9] at hG; rw [e9]; clear e9 f9
        show W p l e _ s m args below meth c H locs _ _ _ (F0 m 64 ls [.int (m_kn d o (nI i))])
        refine lv_if_ne (tgt := 69) hx hb dX6_unlike_64 (by decide) (fun c_17 => ?_) (fun c_17 => ?_)
        · skip
          refine lv_iconst (v := 0) hx hb dX6_unlike_69 (by decide) ?_
          refine lv_istore (lv' := [(5, .int 0), (4, .int (ga_unlike d x o (nI i))), (0, .ref (ad 0)), (1, .int x), (2, .int o), (3, .int (nI i))]) hx hb dX6_unlike_70 hl (by decide) rfl (fun ls hl => ?_)
          refine lv_iconst (v := 1) hx hb dX6_unlike_72 (by decide) ?_
          refine lv_istore (lv' := [(6, .int 1), (5, .int 0), (4, .int (ga_unlike d x o (nI i))), (0, .ref (ad 0)), (1, .int x), (2, .int o), (3, .int (nI i))]) hx hb dX6_unlike_73 hl (by decide) rfl (fun ls hl => ?_)
          have hl : lv_has ls 7 [(6, .int (nI ((lenN d i) - (lenN d i) + 1))), (5, .int (nI (m_unl d x o i ((lenN d i) - (lenN d i))))), (4, .int (ga_unlike d x o (nI i))), (0, .ref (ad 0)), (1, .int x), (2, .int o), (3, .int (nI i))] := by rw [Nat.sub_self]; exact hl
          have hloop_20 : ∀ (k_18 : Nat) (H : Heap) (locs : List Loc) (ls : Array Slot), k_18 ≤ (lenN d i) → gS D A s.heap w_3 H locs → lv_has ls 7 [(6, .int (nI ((lenN d i) - k_18 + 1))), (5, .int (nI (m_unl d x o i ((lenN d i) - k_18)))), (4, .int (ga_unlike d x o (nI i))), (0, .ref (ad 0)), (1, .int x), (2, .int o), (3, .int (nI i))] → W p l e rm_X6_unlike s m args below meth c H locs ((((0 + rm_X6_isPlayer.cells) + rm_X6_goes.cells) + rm_X6_knowsIt.cells) + rm_X6_knowsIt.cells) ((((0 + rm_X6_isPlayer.slots) + rm_X6_goes.slots) + rm_X6_knowsIt.slots) + rm_X6_knowsIt.slots) Q (F0 m 75 ls []) := by
            intro k_18
            induction k_18 with
            | zero =>
              intro H locs ls hk_19 hG hl
              refine lv_iload hx hb dX6_unlike_75 (lv_at hl 0 rfl) ?_
              refine lv_aload_n hx hb dX6_unlike_77 rfl (lv_at hl 3 rfl) ?_
              refine lv_iload_n hx hb dX6_unlike_78 rfl (lv_at hl 6 rfl) ?_
              refine g_callV (rest := [.int (nI ((lenN d i) - 0 + 1))]) (As := [.int (nI i)]) hE hG hl.1 (c_X6_lengthOf l hfl D tc A w_3 ad (gD d 9 (upd (d 9) 14 (m_la (ga_unlike d x o (nI i)) 1 1))) tk st i ⟨h_14, h_4, h_5, h_6, h_7, h_8, h_9, h_10, h_11, h_12, h_13⟩ hOk hi) h_14 rfl mw4_66 mw4_68 mws_16 mw1_4 mw4_69 rfl nm_X6_lengthOf ⟨⟨Nat.le_of_ble_eq_true rfl, Nat.le_of_ble_eq_true rfl⟩, Nat.le_of_ble_eq_true rfl, Nat.le_of_ble_eq_true rfl⟩ rfl rfl (Nat.le_of_ble_eq_true rfl) dX6_unlike_79 (g_no) ?_
              intro v9 w9 H locs h9 hG
              obtain ⟨e9, f9⟩ := h9
              rw [f9] at hG; rw [e9]; clear e9 f9
              show W p l e _ s m args below meth c H locs _ _ _ (F0 m 82 ls [.int (nI (lenN d i)), .int (nI ((lenN d i) - 0 + 1))])
              refine lv_icmp_gt (tgt := 120) hx hb dX6_unlike_82 (by decide) (fun c9 => ?_) (fun c9 => (c9 (nI_lt (a := (lenN d i)) (by omega) (by omega))).elim)
              refine lv_iload hx hb dX6_unlike_120 (lv_at hl 1 rfl) ?_
              subst hQ
              rw [m_la_ok c_15] at h_14
              exact g_iret hE hG hr (Nat.le_of_ble_eq_true rfl) (Nat.le_of_ble_eq_true rfl) dX6_unlike_122 (Or.inr ⟨c_15, (by unfold m_unlike; rw [if_neg c_16, if_neg c_17, nI_clamp (by omega)] <;> rfl), ⟨h_14, h_4, h_5, h_6, h_7, h_8, h_9, h_10, h_11, h_12, h_13⟩, gF_u (gF_rf w) ew_3 (by decide)⟩)
            | succ k_18 ihk_18 =>
              intro H locs ls hk_19 hG hl
              refine lv_iload hx hb dX6_unlike_75 (lv_at hl 0 rfl) ?_
              refine lv_aload_n hx hb dX6_unlike_77 rfl (lv_at hl 3 rfl) ?_
              refine lv_iload_n hx hb dX6_unlike_78 rfl (lv_at hl 6 rfl) ?_
              refine g_callV (rest := [.int (nI ((lenN d i) - (k_18 + 1) + 1))]) (As := [.int (nI i)]) hE hG hl.1 (c_X6_lengthOf l hfl D tc A w_3 ad (gD d 9 (upd (d 9) 14 (m_la (ga_unlike d x o (nI i)) 1 1))) tk st i ⟨h_14, h_4, h_5, h_6, h_7, h_8, h_9, h_10, h_11, h_12, h_13⟩ hOk hi) h_14 rfl mw4_66 mw4_68 mws_16 mw1_4 mw4_69 rfl nm_X6_lengthOf ⟨⟨Nat.le_of_ble_eq_true rfl, Nat.le_of_ble_eq_true rfl⟩, Nat.le_of_ble_eq_true rfl, Nat.le_of_ble_eq_true rfl⟩ rfl rfl (Nat.le_of_ble_eq_true rfl) dX6_unlike_79 (g_no) ?_
              intro v9 w9 H locs h9 hG
              obtain ⟨e9, f9⟩ := h9
              rw [f9] at hG; rw [e9]; clear e9 f9
              show W p l e _ s m args below meth c H locs _ _ _ (F0 m 82 ls [.int (nI (lenN d i)), .int (nI ((lenN d i) - (k_18 + 1) + 1))])
              refine lv_icmp_gt (tgt := 120) hx hb dX6_unlike_82 (by decide) (fun c9 => absurd c9 (nI_nlt (a := (lenN d i)) (by omega) (by omega))) (fun c9 => ?_)
              refine lv_iload hx hb dX6_unlike_85 (lv_at hl 1 rfl) ?_
              refine lv_aload_n hx hb dX6_unlike_87 rfl (lv_at hl 3 rfl) ?_
              refine lv_iload_n hx hb dX6_unlike_88 rfl (lv_at hl 4 rfl) ?_
              refine lv_iload_n hx hb dX6_unlike_89 rfl (lv_at hl 6 rfl) ?_
              refine lv_iload hx hb dX6_unlike_90 (lv_at hl 0 rfl) ?_
              refine g_callV (rest := [.int (nI (m_unl d x o i ((lenN d i) - (k_18 + 1))))]) (As := [.int x, .int (nI i), .int (nI ((lenN d i) - (k_18 + 1) + 1))]) hE hG hl.1 (c_X6_toneOf l hfl D tc A w_3 ad (gD d 9 (upd (d 9) 14 (m_la (ga_unlike d x o (nI i)) 1 1))) tk st x i ((lenN d i) - (k_18 + 1) + 1) ⟨h_14, h_4, h_5, h_6, h_7, h_8, h_9, h_10, h_11, h_12, h_13⟩ hi6 (by omega) hx9) h_14 rfl mw4_177 mw4_179 mws_21 mw1_4 mw4_180 rfl nm_X6_toneOf ⟨⟨Nat.le_of_ble_eq_true rfl, Nat.le_of_ble_eq_true rfl⟩, Nat.le_of_ble_eq_true rfl, Nat.le_of_ble_eq_true rfl⟩ rfl rfl (Nat.le_of_ble_eq_true rfl) dX6_unlike_92 (g_no) ?_
              intro v9 w9 H locs h9 hG
              obtain ⟨e9, f9⟩ := h9
              rw [f9] at hG; rw [e9]; clear e9 f9
              show W p l e _ s m args below meth c H locs _ _ _ (F0 m 95 ls [.int (m_tof d x i ((lenN d i) - (k_18 + 1) + 1)), .int (nI (m_unl d x o i ((lenN d i) - (k_18 + 1))))])
              refine lv_aload_n hx hb dX6_unlike_95 rfl (lv_at hl 3 rfl) ?_
              refine lv_iload_n hx hb dX6_unlike_96 rfl (lv_at hl 5 rfl) ?_
              refine lv_iload_n hx hb dX6_unlike_97 rfl (lv_at hl 6 rfl) ?_
              refine lv_iload hx hb dX6_unlike_98 (lv_at hl 0 rfl) ?_
              refine g_callV (rest := [.int (m_tof d x i ((lenN d i) - (k_18 + 1) + 1)), .int (nI (m_unl d x o i ((lenN d i) - (k_18 + 1))))]) (As := [.int o, .int (nI i), .int (nI ((lenN d i) - (k_18 + 1) + 1))]) hE hG hl.1 (c_X6_toneOf l hfl D tc A w_3 ad (gD d 9 (upd (d 9) 14 (m_la (ga_unlike d x o (nI i)) 1 1))) tk st o i ((lenN d i) - (k_18 + 1) + 1) ⟨h_14, h_4, h_5, h_6, h_7, h_8, h_9, h_10, h_11, h_12, h_13⟩ hi6 (by omega) ho9) h_14 rfl mw4_177 mw4_179 mws_21 mw1_4 mw4_180 rfl nm_X6_toneOf ⟨⟨Nat.le_of_ble_eq_true rfl, Nat.le_of_ble_eq_true rfl⟩, Nat.le_of_ble_eq_true rfl, Nat.le_of_ble_eq_true rfl⟩ rfl rfl (Nat.le_of_ble_eq_true rfl) dX6_unlike_100 (g_no) ?_
              intro v9 w9 H locs h9 hG
              obtain ⟨e9, f9⟩ := h9
              rw [f9] at hG; rw [e9]; clear e9 f9
              show W p l e _ s m args below meth c H locs _ _ _ (F0 m 103 ls [.int (m_tof d o i ((lenN d i) - (k_18 + 1) + 1)), .int (m_tof d x i ((lenN d i) - (k_18 + 1) + 1)), .int (nI (m_unl d x o i ((lenN d i) - (k_18 + 1))))])
              have j_22 : ∀ (v_21 : Int32) (H : Heap) (locs : List Loc), v_21 = (if (m_tof d x i ((lenN d i) - (k_18 + 1) + 1)) = (m_tof d o i ((lenN d i) - (k_18 + 1) + 1)) then 0 else 1 : Int32) → gS D A s.heap w_3 H locs → W p l e rm_X6_unlike s m args below meth c H locs (((((((0 + rm_X6_isPlayer.cells) + rm_X6_goes.cells) + rm_X6_knowsIt.cells) + rm_X6_knowsIt.cells) + rm_X6_lengthOf.cells) + rm_X6_toneOf.cells) + rm_X6_toneOf.cells) (((((((0 + rm_X6_isPlayer.slots) + rm_X6_goes.slots) + rm_X6_knowsIt.slots) + rm_X6_knowsIt.slots) + rm_X6_lengthOf.slots) + rm_X6_toneOf.slots) + rm_X6_toneOf.slots) Q (F0 m 111 ls (.int v_21 :: [.int (nI (m_unl d x o i ((lenN d i) - (k_18 + 1))))])) := by
                intro v_21 H locs ev_21 hG
                refine lv_iadd hx hb dX6_unlike_111 ?_
                rw [m_unl_s ev_21]
                refine lv_istore (lv' := [(5, .int (nI (m_unl d x o i (lenN d i - (k_18 + 1) + 1)))), (6, .int (nI ((lenN d i) - (k_18 + 1) + 1))), (4, .int (ga_unlike d x o (nI i))), (0, .ref (ad 0)), (1, .int x), (2, .int o), (3, .int (nI i))]) hx hb dX6_unlike_112 hl (by decide) rfl (fun ls hl => ?_)
                refine lv_iinc (v := (nI ((lenN d i) - k_18 + 1))) (lv' := [(6, .int (nI ((lenN d i) - k_18 + 1))), (5, .int (nI (m_unl d x o i (lenN d i - (k_18 + 1) + 1)))), (4, .int (ga_unlike d x o (nI i))), (0, .ref (ad 0)), (1, .int x), (2, .int o), (3, .int (nI i))]) hx hb dX6_unlike_114 hl (k := 1) rfl (by rw [show (lenN d i) - k_18 + 1 = ((lenN d i) - (k_18 + 1) + 1) + 1 by omega]; exact nI_1 _) (by decide) rfl (fun ls hl => ?_)
                refine lv_goto (tgt := 75) hx hb dX6_unlike_117 (by decide) ?_
                have hl : lv_has ls 7 [(6, .int (nI ((lenN d i) - k_18 + 1))), (5, .int (nI (m_unl d x o i ((lenN d i) - k_18)))), (4, .int (ga_unlike d x o (nI i))), (0, .ref (ad 0)), (1, .int x), (2, .int o), (3, .int (nI i))] := by rw [show (lenN d i) - k_18 = ((lenN d i) - (k_18 + 1)) + 1 by omega] at hl ⊢; exact hl
                exact ihk_18 _ _ _ (by omega) hG (lv_sub hl [0, 1, 2, 3, 4, 5, 6] rfl)
              refine lv_icmp_ne (tgt := 110) hx hb dX6_unlike_103 (by decide) (fun c_23 => ?_) (fun c_23 => ?_)
              · skip
                refine lv_iconst (v := 1) hx hb dX6_unlike_110 (by decide) ?_
                exact j_22 _ _ _ (by rw [if_neg c_23]) hG
              · skip
                refine lv_iconst (v := 0) hx hb dX6_unlike_106 (by decide) ?_
                refine lv_goto (tgt := 111) hx hb dX6_unlike_107 (by decide) ?_
                exact j_22 _ _ _ (by rw [if_pos c_23]) hG
          exact hloop_20 (lenN d i) _ _ _ (Nat.le_refl _) hG (lv_sub hl [0, 1, 2, 3, 4, 5, 6] rfl)
        · skip
          refine lv_iconst (v := (-1)) hx hb dX6_unlike_67 (by decide) ?_
          subst hQ
          rw [m_la_ok c_15] at h_14
          exact g_iret hE hG hr (Nat.le_of_ble_eq_true rfl) (Nat.le_of_ble_eq_true rfl) dX6_unlike_68 (Or.inr ⟨c_15, (by unfold m_unlike; rw [if_neg c_16, if_pos c_17] <;> rfl), ⟨h_14, h_4, h_5, h_6, h_7, h_8, h_9, h_10, h_11, h_12, h_13⟩, gF_u (gF_rf w) ew_3 (by decide)⟩)
    · skip
      refine lv_iconst (v := 0) hx hb dX6_unlike_47 (by decide) ?_
      subst hQ
      have hg_v_1 : v_1 = ga_unlike d x o y := ev_1
      subst hg_v_1
      exact g_iret hE hG hr (Nat.le_of_ble_eq_true rfl) (Nat.le_of_ble_eq_true rfl) dX6_unlike_48 (Or.inl ⟨c_15, ⟨_, rfl⟩, mW_mk h_14 h_4 h_5 h_6 h_7 h_8 h_9 h_10 h_11 h_12 h_13, gF_u (gF_rf w) ew_3 (by decide)⟩)
  refine lv_if_eq (tgt := 33) hx hb dX6_unlike_5 (by decide) (fun c_24 => ?_) (fun c_24 => ?_)
  · skip
    refine lv_iconst (v := 0) hx hb dX6_unlike_33 (by decide) ?_
    exact j_2 _ _ _ (by rw [if_pos c_24]) hG
  · skip
    refine lv_iload_n hx hb dX6_unlike_8 rfl (lv_at hl 2 rfl) ?_
    refine lv_iconst (v := (-1)) hx hb dX6_unlike_9 (by decide) ?_
    refine lv_icmp_eq (tgt := 21) hx hb dX6_unlike_10 (by decide) (fun c_25 => ?_) (fun c_25 => ?_)
    · skip
      refine lv_aload_n hx hb dX6_unlike_21 rfl (lv_at hl 0 rfl) ?_
      refine lv_iload_n hx hb dX6_unlike_22 rfl (lv_at hl 3 rfl) ?_
      refine g_callV (rest := []) (As := [.int y]) hE hG hl.1 (c_X6_isPiece l hfl D tc A w ad d tk st y ⟨o0, o1, o2, o3, o4, o5, o6, o7, o8, o9, o10⟩ ) o0 rfl mw4_62 mw4_64 mws_15 mw1_4 mw4_65 rfl nm_X6_isPiece ⟨⟨Nat.le_of_ble_eq_true rfl, Nat.le_of_ble_eq_true rfl⟩, Nat.le_of_ble_eq_true rfl, Nat.le_of_ble_eq_true rfl⟩ rfl rfl (Nat.le_of_ble_eq_true rfl) dX6_unlike_23 (g_no) ?_
      intro v9 w9 H locs h9 hG
      obtain ⟨e9, f9⟩ := h9
      rw [f9] at hG; rw [e9]; clear e9 f9
      show W p l e _ s m args below meth c H locs _ _ _ (F0 m 26 ls [.int (m_isPiece d y)])
      refine lv_if_eq (tgt := 33) hx hb dX6_unlike_26 (by decide) (fun c_26 => ?_) (fun c_26 => ?_)
      · skip
        refine lv_iconst (v := 0) hx hb dX6_unlike_33 (by decide) ?_
        exact j_2 _ _ _ (by rw [if_neg c_24, if_pos c_25, if_pos c_26]) hG
      · skip
        refine lv_iconst (v := 1) hx hb dX6_unlike_29 (by decide) ?_
        refine lv_goto (tgt := 34) hx hb dX6_unlike_30 (by decide) ?_
        exact j_2 _ _ _ (by rw [if_neg c_24, if_pos c_25, if_neg c_26]) hG
    · skip
      refine lv_aload_n hx hb dX6_unlike_13 rfl (lv_at hl 0 rfl) ?_
      refine lv_iload_n hx hb dX6_unlike_14 rfl (lv_at hl 2 rfl) ?_
      refine g_callV (rest := []) (As := [.int o]) hE hG hl.1 (c_X6_isPlayer l hfl D tc A w ad d tk st o ⟨o0, o1, o2, o3, o4, o5, o6, o7, o8, o9, o10⟩ ) o0 rfl mw4_169 mw4_171 mws_19 mw1_4 mw4_172 rfl nm_X6_isPlayer ⟨⟨Nat.le_of_ble_eq_true rfl, Nat.le_of_ble_eq_true rfl⟩, Nat.le_of_ble_eq_true rfl, Nat.le_of_ble_eq_true rfl⟩ rfl rfl (Nat.le_of_ble_eq_true rfl) dX6_unlike_15 (g_no) ?_
      intro v9 w9 H locs h9 hG
      obtain ⟨e9, f9⟩ := h9
      rw [f9] at hG; rw [e9]; clear e9 f9
      show W p l e _ s m args below meth c H locs _ _ _ (F0 m 18 ls [.int (m_isPlayer d o)])
      refine lv_if_eq (tgt := 33) hx hb dX6_unlike_18 (by decide) (fun c_27 => ?_) (fun c_27 => ?_)
      · skip
        refine lv_iconst (v := 0) hx hb dX6_unlike_33 (by decide) ?_
        exact j_2 _ _ _ (by rw [if_neg c_24, if_neg c_25, if_pos c_27]) hG
      · skip
        refine lv_aload_n hx hb dX6_unlike_21 rfl (lv_at hl 0 rfl) ?_
        refine lv_iload_n hx hb dX6_unlike_22 rfl (lv_at hl 3 rfl) ?_
        refine g_callV (rest := []) (As := [.int y]) hE hG hl.1 (c_X6_isPiece l hfl D tc A w ad d tk st y ⟨o0, o1, o2, o3, o4, o5, o6, o7, o8, o9, o10⟩ ) o0 rfl mw4_62 mw4_64 mws_15 mw1_4 mw4_65 rfl nm_X6_isPiece ⟨⟨Nat.le_of_ble_eq_true rfl, Nat.le_of_ble_eq_true rfl⟩, Nat.le_of_ble_eq_true rfl, Nat.le_of_ble_eq_true rfl⟩ rfl rfl (Nat.le_of_ble_eq_true rfl) dX6_unlike_23 (g_no) ?_
        intro v9 w9 H locs h9 hG
        obtain ⟨e9, f9⟩ := h9
        rw [f9] at hG; rw [e9]; clear e9 f9
        show W p l e _ s m args below meth c H locs _ _ _ (F0 m 26 ls [.int (m_isPiece d y)])
        refine lv_if_eq (tgt := 33) hx hb dX6_unlike_26 (by decide) (fun c_28 => ?_) (fun c_28 => ?_)
        · skip
          refine lv_iconst (v := 0) hx hb dX6_unlike_33 (by decide) ?_
          exact j_2 _ _ _ (by rw [if_neg c_24, if_neg c_25, if_neg c_27, if_pos c_28]) hG
        · skip
          refine lv_iconst (v := 1) hx hb dX6_unlike_29 (by decide) ?_
          refine lv_goto (tgt := 34) hx hb dX6_unlike_30 (by decide) ?_
          exact j_2 _ _ _ (by rw [if_neg c_24, if_neg c_25, if_neg c_27, if_neg c_28]) hG
