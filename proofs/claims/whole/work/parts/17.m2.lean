/-! GongCyclesModel: its methods -/
/-- the data with what was thrown last -/
def sL (d : gDt) (x : Int32) : gDt := gD d 9 (upd (d 9) 14 x)
theorem and_ne {a b : Prop} [Decidable a] [Decidable b] (h : ¬ (if a then (0 : Int32) else if b then 0 else 1) = 0) : ¬ a ∧ ¬ b := by
  by_cases ha : a
  · rw [if_pos ha] at h; exact absurd rfl h
  · rw [if_neg ha] at h
    by_cases hb : b
    · rw [if_pos hb] at h; exact absurd rfl h
    · exact ⟨ha, hb⟩
theorem one_ne {a : Prop} [Decidable a] (h : ¬ (if a then (0 : Int32) else 1) = 0) : ¬ a := by
  by_cases ha : a
  · rw [if_pos ha] at h; exact absurd rfl h
  · exact ha
theorem and3_ne {a b c : Prop} [Decidable a] [Decidable b] [Decidable c] (h : ¬ (if a then (0 : Int32) else if b then 0 else if c then 1 else 0) = 0) : ¬ a ∧ ¬ b ∧ c := by
  by_cases ha : a
  · rw [if_pos ha] at h; exact absurd rfl h
  · rw [if_neg ha] at h
    by_cases hb : b
    · rw [if_pos hb] at h; exact absurd rfl h
    · rw [if_neg hb] at h
      by_cases hc : c
      · exact ⟨ha, hb, hc⟩
      · rw [if_neg hc] at h; exact absurd rfl h
theorem ix_place {d : gDt} {x y : Int32} (hd : mOk d) (h : ¬ m_isPlace d x y = 0) : vp_in (65 * x + y) 390 := by
  obtain ⟨i, j, hi, h1, h2, rfl, rfl⟩ := m_isPlace_ne hd h
  exact m_ixin (by have := hd.1.2.1; omega) (by have := (mOk_len hd hi).2.2.1; omega)
theorem ix_piece {d : gDt} {x : Int32} (hd : mOk d) (h : ¬ m_isPiece d x = 0) : vp_in x 6 := by
  obtain ⟨i, hi, rfl⟩ := m_isPiece_ne hd h
  exact vp_in_nI (by have := hd.1.2.1; omega) (by decide)
theorem ix_form {d : gDt} {x : Int32} (hd : mOk d) (h : ¬ m_isForm d x = 0) : vp_in x 4 := by
  obtain ⟨i, hi, rfl⟩ := m_isForm_ne hd h
  exact vp_in_nI (by have := hd.1.1; omega) (by decide)
theorem ix_set {x : Int32} (h : ¬ m_isSet x = 0) : vp_in x 4 := by
  unfold m_isSet at h
  obtain ⟨h1, h2⟩ := f_in_ne h
  obtain ⟨i, _, hi, rfl⟩ := nI_bet (a := 0) (b := 3) (by decide) h1 h2 (by decide)
  exact vp_in_nI (by omega) (by decide)
theorem ix_part {x : Int32} (h : ¬ m_isPart x = 0) : vp_in x 4 := by
  unfold m_isPart at h
  obtain ⟨h1, h2⟩ := f_in_ne h
  obtain ⟨i, _, hi, rfl⟩ := nI_bet (a := 0) (b := 3) (by decide) h1 h2 (by decide)
  exact vp_in_nI (by omega) (by decide)
theorem ix_pit {x y : Int32} (h : ¬ m_isSet x = 0) (h2 : ¬ f_in y 1 7 = 0) : vp_in (8 * x + y) 32 := by
  unfold m_isSet at h
  obtain ⟨a1, a2⟩ := f_in_ne h
  obtain ⟨b1, b2⟩ := f_in_ne h2
  obtain ⟨i, _, hi, rfl⟩ := nI_bet (a := 0) (b := 3) (by decide) a1 a2 (by decide)
  obtain ⟨j, _, hj, rfl⟩ := nI_bet (a := 1) (b := 7) (by decide) b1 b2 (by decide)
  rw [show (8 : Int32) = nI 8 from rfl, pk_mul, nI_add]
  exact vp_in_nI (by omega) (by decide)
theorem ix_cnt {x : Int32} {n N : Nat} (e : x = nI n) (h : x < nI N) (hn : n < 2 ^ 30) (hN : N < 2 ^ 30) : vp_in x N := by
  rw [e] at h ⊢
  exact vp_in_nI ((nI_ltI (by omega) (by omega)).mp h) (by omega)
theorem c_lt {x y : Int32} (h : ¬ (if y ≤ x then (0 : Int32) else 1) = 0) : x < y := Int32.not_le.mp (one_ne h)
def ga_form (d : gDt) (x : Int32) : Int32 := (if (f_in x 4 64) = 0 then 0 else (if (x - x / 4 * 4) = 0 then 1 else 0 : Int32) : Int32)
def gb_form (d : gDt) (x : Int32) : Int32 := (if 4 ≤ (d 9 0) then 0 else 1 : Int32)
def gc_form (d : gDt) (x : Int32) : Int32 := 1
abbrev rm_X6_form : Room := { frames := 4, cells := 0, slots := 0, locals := 158 }
theorem nm_X6_form : gNm yX6_form 1 := ⟨by decide +kernel, by decide +kernel, by decide +kernel⟩
set_option maxHeartbeats 8000000 in
set_option maxRecDepth 100000 in
theorem c_X6_form (l : Launch) (hfl : l.stackTraces = false) (D : va_G) (tc : Nat → ClassId) (A : Nat → Prop) (w : gW) (ad : Nat → Nat) (d : gDt) (tk : Int64) (st : Nat → Int64) (x : Int32) (hM : mW tc w ad d tk st) (hOk : mOk d) : gM l yX6_form cX6_form 2 (some .int) rm_X6_form D tc A [.ref (ad 0), .int x] w (fun v w' => (m_go (ga_form d x) (gb_form d x) (gc_form d x) = 0 ∧ (∃ r, v = some (.int r)) ∧ mW tc w' ad (sL d (m_la (ga_form d x) (gb_form d x) (gc_form d x))) tk st ∧ gF w w') ∨ (¬ m_go (ga_form d x) (gb_form d x) (gc_form d x) = 0 ∧ v = some (.int (d 9 0 + 1 - 1)) ∧ mW tc w' ad (sL (gD (gD d 0 (upd (d 0) (d 9 0).toNatClampNeg x)) 9 (upd (d 9) 0 (d 9 0 + 1))) 0) tk st ∧ gF w w')) (fun _ => False) := by
  refine gM_of (by decide +kernel) (Nat.le_of_ble_eq_true rfl) ?_
  intro p e s m args below meth c ls Q hQ hE hG hr hnt hnm hl
  have hx := hE.1
  have hb := hE.2.1
  have hl : lv_has ls 2 [(0, .ref (ad 0)), (1, .int x)] := hl
  obtain ⟨o0, o1, o2, o3, o4, o5, o6, o7, o8, o9, o10⟩ := hM
  refine lv_aload_n hx hb dX6_form_0 rfl (lv_at hl 0 rfl) ?_
  refine lv_iload_n hx hb dX6_form_1 rfl (lv_at hl 1 rfl) ?_
  refine lv_iconst (v := 4) hx hb dX6_form_2 (by decide) ?_
  refine lv_bipush (v := 64) hx hb dX6_form_3 (by decide) ?_
  refine g_callS (rest := [.ref (ad 0)]) (As := [.int x, .int 4, .int 64]) hE hG hl.1 (c_X6_in l hfl D tc A w x 4 64 ) mw4_35 mw4_36 mw1_4 mw4_37 nm_X6_in ⟨⟨Nat.le_of_ble_eq_true rfl, Nat.le_of_ble_eq_true rfl⟩, Nat.le_of_ble_eq_true rfl, Nat.le_of_ble_eq_true rfl⟩ rfl rfl (Nat.le_of_ble_eq_true rfl) dX6_form_5 (g_no) ?_
  intro v9 w9 H locs h9 hG
  obtain ⟨e9, f9⟩ := h9
  rw [f9] at hG; rw [e9]; clear e9 f9
  show W p l e _ s m args below meth c H locs _ _ _ (F0 m 8 ls [.int (f_in x 4 64), .ref (ad 0)])
  have j_2 : ∀ (v_1 : Int32) (H : Heap) (locs : List Loc), v_1 = (if (f_in x 4 64) = 0 then 0 else (if (x - x / 4 * 4) = 0 then 1 else 0 : Int32) : Int32) → gS D A s.heap w H locs → W p l e rm_X6_form s m args below meth c H locs (0 + rm_X6_in.cells) (0 + rm_X6_in.slots) Q (F0 m 22 ls (.int v_1 :: [.ref (ad 0)])) := by
    intro v_1 H locs ev_1 hG
    refine lv_aload_n hx hb dX6_form_22 rfl (lv_at hl 0 rfl) ?_
    refine g_get hE hG o0 rfl inG6 1 (by decide) mw3_188 rfl dX6_form_23 ?_
    refine lv_iconst (v := 4) hx hb dX6_form_26 (by decide) ?_
    have j_4 : ∀ (v_3 : Int32) (H : Heap) (locs : List Loc), v_3 = (if 4 ≤ (d 9 0) then 0 else 1 : Int32) → gS D A s.heap w H locs → W p l e rm_X6_form s m args below meth c H locs (0 + rm_X6_in.cells) (0 + rm_X6_in.slots) Q (F0 m 35 ls (.int v_3 :: [.int v_1, .ref (ad 0)])) := by
      intro v_3 H locs ev_3 hG
      refine lv_iconst (v := 1) hx hb dX6_form_35 (by decide) ?_
      refine g_callV (rest := []) (As := [.int v_1, .int v_3, .int 1]) hE hG hl.1 (c_X6_goes l hfl D tc A w ad d tk st v_1 v_3 1 ⟨o0, o1, o2, o3, o4, o5, o6, o7, o8, o9, o10⟩ ) o0 rfl mw4_38 mw4_40 mws_12 mw1_4 mw4_41 rfl nm_X6_goes ⟨⟨Nat.le_of_ble_eq_true rfl, Nat.le_of_ble_eq_true rfl⟩, Nat.le_of_ble_eq_true rfl, Nat.le_of_ble_eq_true rfl⟩ rfl rfl (Nat.le_of_ble_eq_true rfl) dX6_form_36 (g_no) ?_
      intro v9 w_5 H locs h9 hG
      obtain ⟨e9, ew_5⟩ := h9
      rw [e9]; clear e9
      show W p l e _ s m args below meth c H locs _ _ _ (F0 m 39 ls [.int (m_go v_1 v_3 1)])
      have h_6 : w_5 1001 = some ((ad 1), .inl (tc 0, 4, .inl (d 0))) := gU_n ew_5 (by decide) o1
      have h_7 : w_5 1002 = some ((ad 2), .inl (tc 0, 6, .inl (d 1))) := gU_n ew_5 (by decide) o2
      have h_8 : w_5 1003 = some ((ad 3), .inl (tc 0, 6, .inl (d 2))) := gU_n ew_5 (by decide) o3
      have h_9 : w_5 1004 = some ((ad 4), .inl (tc 0, 390, .inl (d 3))) := gU_n ew_5 (by decide) o4
      have h_10 : w_5 1005 = some ((ad 5), .inl (tc 1, 4, .inr (.inl st))) := gU_n ew_5 (by decide) o5
      have h_11 : w_5 1006 = some ((ad 6), .inl (tc 0, 32, .inl (d 4))) := gU_n ew_5 (by decide) o6
      have h_12 : w_5 1007 = some ((ad 7), .inl (tc 0, 4, .inl (d 5))) := gU_n ew_5 (by decide) o7
      have h_13 : w_5 1008 = some ((ad 8), .inl (tc 0, 8, .inl (d 6))) := gU_n ew_5 (by decide) o8
      have h_14 : w_5 1009 = some ((ad 9), .inl (tc 2, 48, .inl (d 7))) := gU_n ew_5 (by decide) o9
      have h_15 : w_5 1010 = some ((ad 10), .inl (tc 0, 3120, .inl (d 8))) := gU_n ew_5 (by decide) o10
      have h_16 : w_5 1000 = some ((ad 0), .inr (6, [.ref (ad 1), .int (d 9 0), .ref (ad 2), .ref (ad 3), .ref (ad 4), .int (d 9 1), .int (d 9 2), .int (d 9 3), .int (d 9 4), .int (d 9 5), .int (d 9 6), .int (d 9 7), .int (d 9 8), .int (d 9 9), .long tk, .ref (ad 5), .int (d 9 10), .int (d 9 11), .ref (ad 6), .ref (ad 7), .int (d 9 12), .ref (ad 8), .ref (ad 9), .ref (ad 10), .int (d 9 13), .int (m_la v_1 v_3 1)])) := gU_s ew_5
      refine lv_if_ne (tgt := 44) hx hb dX6_form_39 (by decide) (fun c_17 => ?_) (fun c_17 => ?_)
      · skip
        have hlt := (m_go_ne c_17).2.1
        try rw [ev_1] at hlt
        try rw [ev_3] at hlt
        refine lv_aload_n hx hb dX6_form_44 rfl (lv_at hl 0 rfl) ?_
        refine g_get hE hG h_16 rfl inG6 0 (by decide) mw3_187 rfl dX6_form_45 ?_
        refine lv_aload_n hx hb dX6_form_48 rfl (lv_at hl 0 rfl) ?_
        refine g_get hE hG h_16 rfl inG6 1 (by decide) mw3_188 rfl dX6_form_49 ?_
        refine lv_iload_n hx hb dX6_form_52 rfl (lv_at hl 1 rfl) ?_
        refine g_iast hE hG h_6 (ix_cnt (N := 4) hOk.2.1.1 (c_lt hlt) (by have := hOk.1.1; omega) (by decide)) dX6_form_53 (fun H locs w_18 ew_18 hG => ?_)
        have h_19 : w_18 1002 = some ((ad 2), .inl (tc 0, 6, .inl (d 1))) := gU_n ew_18 (by decide) h_7
        have h_20 : w_18 1003 = some ((ad 3), .inl (tc 0, 6, .inl (d 2))) := gU_n ew_18 (by decide) h_8
        have h_21 : w_18 1004 = some ((ad 4), .inl (tc 0, 390, .inl (d 3))) := gU_n ew_18 (by decide) h_9
        have h_22 : w_18 1005 = some ((ad 5), .inl (tc 1, 4, .inr (.inl st))) := gU_n ew_18 (by decide) h_10
        have h_23 : w_18 1006 = some ((ad 6), .inl (tc 0, 32, .inl (d 4))) := gU_n ew_18 (by decide) h_11
        have h_24 : w_18 1007 = some ((ad 7), .inl (tc 0, 4, .inl (d 5))) := gU_n ew_18 (by decide) h_12
        have h_25 : w_18 1008 = some ((ad 8), .inl (tc 0, 8, .inl (d 6))) := gU_n ew_18 (by decide) h_13
        have h_26 : w_18 1009 = some ((ad 9), .inl (tc 2, 48, .inl (d 7))) := gU_n ew_18 (by decide) h_14
        have h_27 : w_18 1010 = some ((ad 10), .inl (tc 0, 3120, .inl (d 8))) := gU_n ew_18 (by decide) h_15
        have h_28 : w_18 1000 = some ((ad 0), .inr (6, [.ref (ad 1), .int (d 9 0), .ref (ad 2), .ref (ad 3), .ref (ad 4), .int (d 9 1), .int (d 9 2), .int (d 9 3), .int (d 9 4), .int (d 9 5), .int (d 9 6), .int (d 9 7), .int (d 9 8), .int (d 9 9), .long tk, .ref (ad 5), .int (d 9 10), .int (d 9 11), .ref (ad 6), .ref (ad 7), .int (d 9 12), .ref (ad 8), .ref (ad 9), .ref (ad 10), .int (d 9 13), .int (m_la v_1 v_3 1)])) := gU_n ew_18 (by decide) h_16
        have h_29 : w_18 1001 = some ((ad 1), .inl (tc 0, 4, .inl (upd (d 0) (d 9 0).toNatClampNeg x))) := gU_s ew_18
        refine lv_aload_n hx hb dX6_form_54 rfl (lv_at hl 0 rfl) ?_
        refine lv_dup hx hb dX6_form_55 rfl ?_
        refine g_get hE hG h_28 rfl inG6 1 (by decide) mw3_188 rfl dX6_form_56 ?_
        refine lv_iconst (v := 1) hx hb dX6_form_59 (by decide) ?_
        refine lv_iadd hx hb dX6_form_60 ?_
        refine g_put hE hG h_28 rfl inG6 tyX6 tyX6_ok nmX6 1 (by decide) mw3_188 rfl rfl rfl (Nat.le_of_ble_eq_true rfl) dX6_form_61 (fun H locs w_30 ew_30 hG => ?_)
        have h_31 : w_30 1002 = some ((ad 2), .inl (tc 0, 6, .inl (d 1))) := gU_n ew_30 (by decide) h_19
        have h_32 : w_30 1003 = some ((ad 3), .inl (tc 0, 6, .inl (d 2))) := gU_n ew_30 (by decide) h_20
        have h_33 : w_30 1004 = some ((ad 4), .inl (tc 0, 390, .inl (d 3))) := gU_n ew_30 (by decide) h_21
        have h_34 : w_30 1005 = some ((ad 5), .inl (tc 1, 4, .inr (.inl st))) := gU_n ew_30 (by decide) h_22
        have h_35 : w_30 1006 = some ((ad 6), .inl (tc 0, 32, .inl (d 4))) := gU_n ew_30 (by decide) h_23
        have h_36 : w_30 1007 = some ((ad 7), .inl (tc 0, 4, .inl (d 5))) := gU_n ew_30 (by decide) h_24
        have h_37 : w_30 1008 = some ((ad 8), .inl (tc 0, 8, .inl (d 6))) := gU_n ew_30 (by decide) h_25
        have h_38 : w_30 1009 = some ((ad 9), .inl (tc 2, 48, .inl (d 7))) := gU_n ew_30 (by decide) h_26
        have h_39 : w_30 1010 = some ((ad 10), .inl (tc 0, 3120, .inl (d 8))) := gU_n ew_30 (by decide) h_27
        have h_40 : w_30 1001 = some ((ad 1), .inl (tc 0, 4, .inl (upd (d 0) (d 9 0).toNatClampNeg x))) := gU_n ew_30 (by decide) h_29
        have h_41 : w_30 1000 = some ((ad 0), .inr (6, [.ref (ad 1), .int ((d 9 0) + 1), .ref (ad 2), .ref (ad 3), .ref (ad 4), .int (d 9 1), .int (d 9 2), .int (d 9 3), .int (d 9 4), .int (d 9 5), .int (d 9 6), .int (d 9 7), .int (d 9 8), .int (d 9 9), .long tk, .ref (ad 5), .int (d 9 10), .int (d 9 11), .ref (ad 6), .ref (ad 7), .int (d 9 12), .ref (ad 8), .ref (ad 9), .ref (ad 10), .int (d 9 13), .int (m_la v_1 v_3 1)])) := gU_s ew_30
        refine lv_aload_n hx hb dX6_form_64 rfl (lv_at hl 0 rfl) ?_
        refine g_get hE hG h_41 rfl inG6 1 (by decide) mw3_188 rfl dX6_form_65 ?_
        refine lv_iconst (v := 1) hx hb dX6_form_68 (by decide) ?_
        refine lv_isub hx hb dX6_form_69 ?_
        subst hQ
        have hg_v_1 : v_1 = ga_form d x := ev_1
        subst hg_v_1
        have hg_v_3 : v_3 = gb_form d x := ev_3
        subst hg_v_3
        rw [m_la_ok c_17] at h_41
        exact g_iret hE hG hr (Nat.le_of_ble_eq_true rfl) (Nat.le_of_ble_eq_true rfl) dX6_form_70 (Or.inr ⟨c_17, rfl, ⟨h_41, h_40, h_31, h_32, h_33, h_34, h_35, h_36, h_37, h_38, h_39⟩, gF_u (gF_u (gF_u (gF_rf w) ew_5 (by decide)) ew_18 (by decide)) ew_30 (by decide)⟩)
      · skip
        refine lv_iconst (v := 0) hx hb dX6_form_42 (by decide) ?_
        subst hQ
        have hg_v_1 : v_1 = ga_form d x := ev_1
        subst hg_v_1
        have hg_v_3 : v_3 = gb_form d x := ev_3
        subst hg_v_3
        exact g_iret hE hG hr (Nat.le_of_ble_eq_true rfl) (Nat.le_of_ble_eq_true rfl) dX6_form_43 (Or.inl ⟨c_17, ⟨_, rfl⟩, mW_mk h_16 h_6 h_7 h_8 h_9 h_10 h_11 h_12 h_13 h_14 h_15, gF_u (gF_rf w) ew_5 (by decide)⟩)
    refine lv_icmp_ge (tgt := 34) hx hb dX6_form_27 (by decide) (fun c_42 => ?_) (fun c_42 => ?_)
    · skip
      refine lv_iconst (v := 0) hx hb dX6_form_34 (by decide) ?_
      exact j_4 _ _ _ (by rw [if_pos c_42]) hG
    · skip
      refine lv_iconst (v := 1) hx hb dX6_form_30 (by decide) ?_
      refine lv_goto (tgt := 35) hx hb dX6_form_31 (by decide) ?_
      exact j_4 _ _ _ (by rw [if_neg c_42]) hG
  refine lv_if_eq (tgt := 21) hx hb dX6_form_8 (by decide) (fun c_43 => ?_) (fun c_43 => ?_)
  · skip
    refine lv_iconst (v := 0) hx hb dX6_form_21 (by decide) ?_
    exact j_2 _ _ _ (by rw [if_pos c_43]) hG
  · skip
    refine lv_iload_n hx hb dX6_form_11 rfl (lv_at hl 1 rfl) ?_
    refine lv_iconst (v := 4) hx hb dX6_form_12 (by decide) ?_
    refine lv_irem hx hb dX6_form_13 (by decide) ?_
    refine lv_if_ne (tgt := 21) hx hb dX6_form_14 (by decide) (fun c_44 => ?_) (fun c_44 => ?_)
    · skip
      refine lv_iconst (v := 0) hx hb dX6_form_21 (by decide) ?_
      exact j_2 _ _ _ (by rw [if_neg c_43, if_neg c_44]) hG
    · skip
      refine lv_iconst (v := 1) hx hb dX6_form_17 (by decide) ?_
      refine lv_goto (tgt := 22) hx hb dX6_form_18 (by decide) ?_
      exact j_2 _ _ _ (by rw [if_neg c_43, if_pos c_44]) hG
def ga_piece (d : gDt) (x : Int32) : Int32 := (m_isForm d x)
def gb_piece (d : gDt) (x : Int32) : Int32 := (if 6 ≤ (d 9 1) then 0 else 1 : Int32)
def gc_piece (d : gDt) (x : Int32) : Int32 := 1
abbrev rm_X6_piece : Room := { frames := 4, cells := 0, slots := 0, locals := 158 }
theorem nm_X6_piece : gNm yX6_piece 1 := ⟨by decide +kernel, by decide +kernel, by decide +kernel⟩
set_option maxHeartbeats 8000000 in
set_option maxRecDepth 100000 in
theorem c_X6_piece (l : Launch) (hfl : l.stackTraces = false) (D : va_G) (tc : Nat → ClassId) (A : Nat → Prop) (w : gW) (ad : Nat → Nat) (d : gDt) (tk : Int64) (st : Nat → Int64) (x : Int32) (hM : mW tc w ad d tk st) (hOk : mOk d) : gM l yX6_piece cX6_piece 2 (some .int) rm_X6_piece D tc A [.ref (ad 0), .int x] w (fun v w' => (m_go (ga_piece d x) (gb_piece d x) (gc_piece d x) = 0 ∧ (∃ r, v = some (.int r)) ∧ mW tc w' ad (sL d (m_la (ga_piece d x) (gb_piece d x) (gc_piece d x))) tk st ∧ gF w w') ∨ (¬ m_go (ga_piece d x) (gb_piece d x) (gc_piece d x) = 0 ∧ v = some (.int (d 9 1 + 1 - 1)) ∧ mW tc w' ad (sL (gD (gD d 1 (upd (d 1) (d 9 1).toNatClampNeg x)) 9 (upd (d 9) 1 (d 9 1 + 1))) 0) tk st ∧ gF w w')) (fun _ => False) := by
  refine gM_of (by decide +kernel) (Nat.le_of_ble_eq_true rfl) ?_
  intro p e s m args below meth c ls Q hQ hE hG hr hnt hnm hl
  have hx := hE.1
  have hb := hE.2.1
  have hl : lv_has ls 2 [(0, .ref (ad 0)), (1, .int x)] := hl
  obtain ⟨o0, o1, o2, o3, o4, o5, o6, o7, o8, o9, o10⟩ := hM
  refine lv_aload_n hx hb dX6_piece_0 rfl (lv_at hl 0 rfl) ?_
  refine lv_aload_n hx hb dX6_piece_1 rfl (lv_at hl 0 rfl) ?_
  refine lv_iload_n hx hb dX6_piece_2 rfl (lv_at hl 1 rfl) ?_
  refine g_callV (rest := [.ref (ad 0)]) (As := [.int x]) hE hG hl.1 (c_X6_isForm l hfl D tc A w ad d tk st x ⟨o0, o1, o2, o3, o4, o5, o6, o7, o8, o9, o10⟩ ) o0 rfl mw4_46 mw4_48 mws_13 mw1_4 mw4_49 rfl nm_X6_isForm ⟨⟨Nat.le_of_ble_eq_true rfl, Nat.le_of_ble_eq_true rfl⟩, Nat.le_of_ble_eq_true rfl, Nat.le_of_ble_eq_true rfl⟩ rfl rfl (Nat.le_of_ble_eq_true rfl) dX6_piece_3 (g_no) ?_
  intro v9 w9 H locs h9 hG
  obtain ⟨e9, f9⟩ := h9
  rw [f9] at hG; rw [e9]; clear e9 f9
  show W p l e _ s m args below meth c H locs _ _ _ (F0 m 6 ls [.int (m_isForm d x), .ref (ad 0)])
  refine lv_aload_n hx hb dX6_piece_6 rfl (lv_at hl 0 rfl) ?_
  refine g_get hE hG o0 rfl inG6 5 (by decide) mw3_192 rfl dX6_piece_7 ?_
  refine lv_bipush (v := 6) hx hb dX6_piece_10 (by decide) ?_
  have j_2 : ∀ (v_1 : Int32) (H : Heap) (locs : List Loc), v_1 = (if 6 ≤ (d 9 1) then 0 else 1 : Int32) → gS D A s.heap w H locs → W p l e rm_X6_piece s m args below meth c H locs (0 + rm_X6_isForm.cells) (0 + rm_X6_isForm.slots) Q (F0 m 20 ls (.int v_1 :: [.int (m_isForm d x), .ref (ad 0)])) := by
    intro v_1 H locs ev_1 hG
    refine lv_iconst (v := 1) hx hb dX6_piece_20 (by decide) ?_
    refine g_callV (rest := []) (As := [.int (m_isForm d x), .int v_1, .int 1]) hE hG hl.1 (c_X6_goes l hfl D tc A w ad d tk st (m_isForm d x) v_1 1 ⟨o0, o1, o2, o3, o4, o5, o6, o7, o8, o9, o10⟩ ) o0 rfl mw4_38 mw4_40 mws_12 mw1_4 mw4_41 rfl nm_X6_goes ⟨⟨Nat.le_of_ble_eq_true rfl, Nat.le_of_ble_eq_true rfl⟩, Nat.le_of_ble_eq_true rfl, Nat.le_of_ble_eq_true rfl⟩ rfl rfl (Nat.le_of_ble_eq_true rfl) dX6_piece_21 (g_no) ?_
    intro v9 w_3 H locs h9 hG
    obtain ⟨e9, ew_3⟩ := h9
    rw [e9]; clear e9
    show W p l e _ s m args below meth c H locs _ _ _ (F0 m 24 ls [.int (m_go (m_isForm d x) v_1 1)])
    have h_4 : w_3 1001 = some ((ad 1), .inl (tc 0, 4, .inl (d 0))) := gU_n ew_3 (by decide) o1
    have h_5 : w_3 1002 = some ((ad 2), .inl (tc 0, 6, .inl (d 1))) := gU_n ew_3 (by decide) o2
    have h_6 : w_3 1003 = some ((ad 3), .inl (tc 0, 6, .inl (d 2))) := gU_n ew_3 (by decide) o3
    have h_7 : w_3 1004 = some ((ad 4), .inl (tc 0, 390, .inl (d 3))) := gU_n ew_3 (by decide) o4
    have h_8 : w_3 1005 = some ((ad 5), .inl (tc 1, 4, .inr (.inl st))) := gU_n ew_3 (by decide) o5
    have h_9 : w_3 1006 = some ((ad 6), .inl (tc 0, 32, .inl (d 4))) := gU_n ew_3 (by decide) o6
    have h_10 : w_3 1007 = some ((ad 7), .inl (tc 0, 4, .inl (d 5))) := gU_n ew_3 (by decide) o7
    have h_11 : w_3 1008 = some ((ad 8), .inl (tc 0, 8, .inl (d 6))) := gU_n ew_3 (by decide) o8
    have h_12 : w_3 1009 = some ((ad 9), .inl (tc 2, 48, .inl (d 7))) := gU_n ew_3 (by decide) o9
    have h_13 : w_3 1010 = some ((ad 10), .inl (tc 0, 3120, .inl (d 8))) := gU_n ew_3 (by decide) o10
    have h_14 : w_3 1000 = some ((ad 0), .inr (6, [.ref (ad 1), .int (d 9 0), .ref (ad 2), .ref (ad 3), .ref (ad 4), .int (d 9 1), .int (d 9 2), .int (d 9 3), .int (d 9 4), .int (d 9 5), .int (d 9 6), .int (d 9 7), .int (d 9 8), .int (d 9 9), .long tk, .ref (ad 5), .int (d 9 10), .int (d 9 11), .ref (ad 6), .ref (ad 7), .int (d 9 12), .ref (ad 8), .ref (ad 9), .ref (ad 10), .int (d 9 13), .int (m_la (m_isForm d x) v_1 1)])) := gU_s ew_3
    refine lv_if_ne (tgt := 29) hx hb dX6_piece_24 (by decide) (fun c_15 => ?_) (fun c_15 => ?_)
    · skip
      have hlt := (m_go_ne c_15).2.1
      try rw [ev_1] at hlt
      refine lv_aload_n hx hb dX6_piece_29 rfl (lv_at hl 0 rfl) ?_
      refine g_get hE hG h_14 rfl inG6 2 (by decide) mw3_189 rfl dX6_piece_30 ?_
      refine lv_aload_n hx hb dX6_piece_33 rfl (lv_at hl 0 rfl) ?_
      refine g_get hE hG h_14 rfl inG6 5 (by decide) mw3_192 rfl dX6_piece_34 ?_
      refine lv_iload_n hx hb dX6_piece_37 rfl (lv_at hl 1 rfl) ?_
      refine g_iast hE hG h_5 (ix_cnt (N := 6) hOk.2.1.2.1 (c_lt hlt) (by have := hOk.1.2.1; omega) (by decide)) dX6_piece_38 (fun H locs w_16 ew_16 hG => ?_)
      have h_17 : w_16 1001 = some ((ad 1), .inl (tc 0, 4, .inl (d 0))) := gU_n ew_16 (by decide) h_4
      have h_18 : w_16 1003 = some ((ad 3), .inl (tc 0, 6, .inl (d 2))) := gU_n ew_16 (by decide) h_6
      have h_19 : w_16 1004 = some ((ad 4), .inl (tc 0, 390, .inl (d 3))) := gU_n ew_16 (by decide) h_7
      have h_20 : w_16 1005 = some ((ad 5), .inl (tc 1, 4, .inr (.inl st))) := gU_n ew_16 (by decide) h_8
      have h_21 : w_16 1006 = some ((ad 6), .inl (tc 0, 32, .inl (d 4))) := gU_n ew_16 (by decide) h_9
      have h_22 : w_16 1007 = some ((ad 7), .inl (tc 0, 4, .inl (d 5))) := gU_n ew_16 (by decide) h_10
      have h_23 : w_16 1008 = some ((ad 8), .inl (tc 0, 8, .inl (d 6))) := gU_n ew_16 (by decide) h_11
      have h_24 : w_16 1009 = some ((ad 9), .inl (tc 2, 48, .inl (d 7))) := gU_n ew_16 (by decide) h_12
      have h_25 : w_16 1010 = some ((ad 10), .inl (tc 0, 3120, .inl (d 8))) := gU_n ew_16 (by decide) h_13
      have h_26 : w_16 1000 = some ((ad 0), .inr (6, [.ref (ad 1), .int (d 9 0), .ref (ad 2), .ref (ad 3), .ref (ad 4), .int (d 9 1), .int (d 9 2), .int (d 9 3), .int (d 9 4), .int (d 9 5), .int (d 9 6), .int (d 9 7), .int (d 9 8), .int (d 9 9), .long tk, .ref (ad 5), .int (d 9 10), .int (d 9 11), .ref (ad 6), .ref (ad 7), .int (d 9 12), .ref (ad 8), .ref (ad 9), .ref (ad 10), .int (d 9 13), .int (m_la (m_isForm d x) v_1 1)])) := gU_n ew_16 (by decide) h_14
      have h_27 : w_16 1002 = some ((ad 2), .inl (tc 0, 6, .inl (upd (d 1) (d 9 1).toNatClampNeg x))) := gU_s ew_16
      refine lv_aload_n hx hb dX6_piece_39 rfl (lv_at hl 0 rfl) ?_
      refine lv_dup hx hb dX6_piece_40 rfl ?_
      refine g_get hE hG h_26 rfl inG6 5 (by decide) mw3_192 rfl dX6_piece_41 ?_
      refine lv_iconst (v := 1) hx hb dX6_piece_44 (by decide) ?_
      refine lv_iadd hx hb dX6_piece_45 ?_
      refine g_put hE hG h_26 rfl inG6 tyX6 tyX6_ok nmX6 5 (by decide) mw3_192 rfl rfl rfl (Nat.le_of_ble_eq_true rfl) dX6_piece_46 (fun H locs w_28 ew_28 hG => ?_)
      have h_29 : w_28 1001 = some ((ad 1), .inl (tc 0, 4, .inl (d 0))) := gU_n ew_28 (by decide) h_17
      have h_30 : w_28 1003 = some ((ad 3), .inl (tc 0, 6, .inl (d 2))) := gU_n ew_28 (by decide) h_18
      have h_31 : w_28 1004 = some ((ad 4), .inl (tc 0, 390, .inl (d 3))) := gU_n ew_28 (by decide) h_19
      have h_32 : w_28 1005 = some ((ad 5), .inl (tc 1, 4, .inr (.inl st))) := gU_n ew_28 (by decide) h_20
      have h_33 : w_28 1006 = some ((ad 6), .inl (tc 0, 32, .inl (d 4))) := gU_n ew_28 (by decide) h_21
      have h_34 : w_28 1007 = some ((ad 7), .inl (tc 0, 4, .inl (d 5))) := gU_n ew_28 (by decide) h_22
      have h_35 : w_28 1008 = some ((ad 8), .inl (tc 0, 8, .inl (d 6))) := gU_n ew_28 (by decide) h_23
      have h_36 : w_28 1009 = some ((ad 9), .inl (tc 2, 48, .inl (d 7))) := gU_n ew_28 (by decide) h_24
      have h_37 : w_28 1010 = some ((ad 10), .inl (tc 0, 3120, .inl (d 8))) := gU_n ew_28 (by decide) h_25
      have h_38 : w_28 1002 = some ((ad 2), .inl (tc 0, 6, .inl (upd (d 1) (d 9 1).toNatClampNeg x))) := gU_n ew_28 (by decide) h_27
      have h_39 : w_28 1000 = some ((ad 0), .inr (6, [.ref (ad 1), .int (d 9 0), .ref (ad 2), .ref (ad 3), .ref (ad 4), .int ((d 9 1) + 1), .int (d 9 2), .int (d 9 3), .int (d 9 4), .int (d 9 5), .int (d 9 6), .int (d 9 7), .int (d 9 8), .int (d 9 9), .long tk, .ref (ad 5), .int (d 9 10), .int (d 9 11), .ref (ad 6), .ref (ad 7), .int (d 9 12), .ref (ad 8), .ref (ad 9), .ref (ad 10), .int (d 9 13), .int (m_la (m_isForm d x) v_1 1)])) := gU_s ew_28
      refine lv_aload_n hx hb dX6_piece_49 rfl (lv_at hl 0 rfl) ?_
      refine g_get hE hG h_39 rfl inG6 5 (by decide) mw3_192 rfl dX6_piece_50 ?_
      refine lv_iconst (v := 1) hx hb dX6_piece_53 (by decide) ?_
      refine lv_isub hx hb dX6_piece_54 ?_
      subst hQ
      have hg_v_1 : v_1 = gb_piece d x := ev_1
      subst hg_v_1
      rw [m_la_ok c_15] at h_39
      exact g_iret hE hG hr (Nat.le_of_ble_eq_true rfl) (Nat.le_of_ble_eq_true rfl) dX6_piece_55 (Or.inr ⟨c_15, rfl, ⟨h_39, h_29, h_38, h_30, h_31, h_32, h_33, h_34, h_35, h_36, h_37⟩, gF_u (gF_u (gF_u (gF_rf w) ew_3 (by decide)) ew_16 (by decide)) ew_28 (by decide)⟩)
    · skip
      refine lv_iconst (v := 0) hx hb dX6_piece_27 (by decide) ?_
      subst hQ
      have hg_v_1 : v_1 = gb_piece d x := ev_1
      subst hg_v_1
      exact g_iret hE hG hr (Nat.le_of_ble_eq_true rfl) (Nat.le_of_ble_eq_true rfl) dX6_piece_28 (Or.inl ⟨c_15, ⟨_, rfl⟩, mW_mk h_14 h_4 h_5 h_6 h_7 h_8 h_9 h_10 h_11 h_12 h_13, gF_u (gF_rf w) ew_3 (by decide)⟩)
  refine lv_icmp_ge (tgt := 19) hx hb dX6_piece_12 (by decide) (fun c_40 => ?_) (fun c_40 => ?_)
  · skip
    refine lv_iconst (v := 0) hx hb dX6_piece_19 (by decide) ?_
    exact j_2 _ _ _ (by rw [if_pos c_40]) hG
  · skip
    refine lv_iconst (v := 1) hx hb dX6_piece_15 (by decide) ?_
    refine lv_goto (tgt := 20) hx hb dX6_piece_16 (by decide) ?_
    exact j_2 _ _ _ (by rw [if_neg c_40]) hG
def ga_player (d : gDt) (x : Int32) : Int32 := (f_in x 0 15)
def gb_player (d : gDt) (x : Int32) : Int32 := (if 8 ≤ (d 9 13) then 0 else 1 : Int32)
def gc_player (d : gDt) (x : Int32) : Int32 := 1
abbrev rm_X6_player : Room := { frames := 4, cells := 0, slots := 0, locals := 158 }
theorem nm_X6_player : gNm yX6_player 1 := ⟨by decide +kernel, by decide +kernel, by decide +kernel⟩
set_option maxHeartbeats 8000000 in
set_option maxRecDepth 100000 in
theorem c_X6_player (l : Launch) (hfl : l.stackTraces = false) (D : va_G) (tc : Nat → ClassId) (A : Nat → Prop) (w : gW) (ad : Nat → Nat) (d : gDt) (tk : Int64) (st : Nat → Int64) (x : Int32) (hM : mW tc w ad d tk st) (hOk : mOk d) : gM l yX6_player cX6_player 2 (some .int) rm_X6_player D tc A [.ref (ad 0), .int x] w (fun v w' => (m_go (ga_player d x) (gb_player d x) (gc_player d x) = 0 ∧ (∃ r, v = some (.int r)) ∧ mW tc w' ad (sL d (m_la (ga_player d x) (gb_player d x) (gc_player d x))) tk st ∧ gF w w') ∨ (¬ m_go (ga_player d x) (gb_player d x) (gc_player d x) = 0 ∧ v = some (.int (d 9 13 + 1 - 1)) ∧ mW tc w' ad (sL (gD (gD d 6 (upd (d 6) (d 9 13).toNatClampNeg x)) 9 (upd (d 9) 13 (d 9 13 + 1))) 0) tk st ∧ gF w w')) (fun _ => False) := by
  refine gM_of (by decide +kernel) (Nat.le_of_ble_eq_true rfl) ?_
  intro p e s m args below meth c ls Q hQ hE hG hr hnt hnm hl
  have hx := hE.1
  have hb := hE.2.1
  have hl : lv_has ls 2 [(0, .ref (ad 0)), (1, .int x)] := hl
  obtain ⟨o0, o1, o2, o3, o4, o5, o6, o7, o8, o9, o10⟩ := hM
  refine lv_aload_n hx hb dX6_player_0 rfl (lv_at hl 0 rfl) ?_
  refine lv_iload_n hx hb dX6_player_1 rfl (lv_at hl 1 rfl) ?_
  refine lv_iconst (v := 0) hx hb dX6_player_2 (by decide) ?_
  refine lv_bipush (v := 15) hx hb dX6_player_3 (by decide) ?_
  refine g_callS (rest := [.ref (ad 0)]) (As := [.int x, .int 0, .int 15]) hE hG hl.1 (c_X6_in l hfl D tc A w x 0 15 ) mw4_35 mw4_36 mw1_4 mw4_37 nm_X6_in ⟨⟨Nat.le_of_ble_eq_true rfl, Nat.le_of_ble_eq_true rfl⟩, Nat.le_of_ble_eq_true rfl, Nat.le_of_ble_eq_true rfl⟩ rfl rfl (Nat.le_of_ble_eq_true rfl) dX6_player_5 (g_no) ?_
  intro v9 w9 H locs h9 hG
  obtain ⟨e9, f9⟩ := h9
  rw [f9] at hG; rw [e9]; clear e9 f9
  show W p l e _ s m args below meth c H locs _ _ _ (F0 m 8 ls [.int (f_in x 0 15), .ref (ad 0)])
  refine lv_aload_n hx hb dX6_player_8 rfl (lv_at hl 0 rfl) ?_
  refine g_get hE hG o0 rfl inG6 24 (by decide) mw3_211 rfl dX6_player_9 ?_
  refine lv_bipush (v := 8) hx hb dX6_player_12 (by decide) ?_
  have j_2 : ∀ (v_1 : Int32) (H : Heap) (locs : List Loc), v_1 = (if 8 ≤ (d 9 13) then 0 else 1 : Int32) → gS D A s.heap w H locs → W p l e rm_X6_player s m args below meth c H locs (0 + rm_X6_in.cells) (0 + rm_X6_in.slots) Q (F0 m 22 ls (.int v_1 :: [.int (f_in x 0 15), .ref (ad 0)])) := by
    intro v_1 H locs ev_1 hG
    refine lv_iconst (v := 1) hx hb dX6_player_22 (by decide) ?_
    refine g_callV (rest := []) (As := [.int (f_in x 0 15), .int v_1, .int 1]) hE hG hl.1 (c_X6_goes l hfl D tc A w ad d tk st (f_in x 0 15) v_1 1 ⟨o0, o1, o2, o3, o4, o5, o6, o7, o8, o9, o10⟩ ) o0 rfl mw4_38 mw4_40 mws_12 mw1_4 mw4_41 rfl nm_X6_goes ⟨⟨Nat.le_of_ble_eq_true rfl, Nat.le_of_ble_eq_true rfl⟩, Nat.le_of_ble_eq_true rfl, Nat.le_of_ble_eq_true rfl⟩ rfl rfl (Nat.le_of_ble_eq_true rfl) dX6_player_23 (g_no) ?_
    intro v9 w_3 H locs h9 hG
    obtain ⟨e9, ew_3⟩ := h9
    rw [e9]; clear e9
    show W p l e _ s m args below meth c H locs _ _ _ (F0 m 26 ls [.int (m_go (f_in x 0 15) v_1 1)])
    have h_4 : w_3 1001 = some ((ad 1), .inl (tc 0, 4, .inl (d 0))) := gU_n ew_3 (by decide) o1
    have h_5 : w_3 1002 = some ((ad 2), .inl (tc 0, 6, .inl (d 1))) := gU_n ew_3 (by decide) o2
    have h_6 : w_3 1003 = some ((ad 3), .inl (tc 0, 6, .inl (d 2))) := gU_n ew_3 (by decide) o3
    have h_7 : w_3 1004 = some ((ad 4), .inl (tc 0, 390, .inl (d 3))) := gU_n ew_3 (by decide) o4
    have h_8 : w_3 1005 = some ((ad 5), .inl (tc 1, 4, .inr (.inl st))) := gU_n ew_3 (by decide) o5
    have h_9 : w_3 1006 = some ((ad 6), .inl (tc 0, 32, .inl (d 4))) := gU_n ew_3 (by decide) o6
    have h_10 : w_3 1007 = some ((ad 7), .inl (tc 0, 4, .inl (d 5))) := gU_n ew_3 (by decide) o7
    have h_11 : w_3 1008 = some ((ad 8), .inl (tc 0, 8, .inl (d 6))) := gU_n ew_3 (by decide) o8
    have h_12 : w_3 1009 = some ((ad 9), .inl (tc 2, 48, .inl (d 7))) := gU_n ew_3 (by decide) o9
    have h_13 : w_3 1010 = some ((ad 10), .inl (tc 0, 3120, .inl (d 8))) := gU_n ew_3 (by decide) o10
    have h_14 : w_3 1000 = some ((ad 0), .inr (6, [.ref (ad 1), .int (d 9 0), .ref (ad 2), .ref (ad 3), .ref (ad 4), .int (d 9 1), .int (d 9 2), .int (d 9 3), .int (d 9 4), .int (d 9 5), .int (d 9 6), .int (d 9 7), .int (d 9 8), .int (d 9 9), .long tk, .ref (ad 5), .int (d 9 10), .int (d 9 11), .ref (ad 6), .ref (ad 7), .int (d 9 12), .ref (ad 8), .ref (ad 9), .ref (ad 10), .int (d 9 13), .int (m_la (f_in x 0 15) v_1 1)])) := gU_s ew_3
    refine lv_if_ne (tgt := 31) hx hb dX6_player_26 (by decide) (fun c_15 => ?_) (fun c_15 => ?_)
    · skip
      have hlt := (m_go_ne c_15).2.1
      try rw [ev_1] at hlt
      refine lv_aload_n hx hb dX6_player_31 rfl (lv_at hl 0 rfl) ?_
      refine g_get hE hG h_14 rfl inG6 21 (by decide) mw3_208 rfl dX6_player_32 ?_
      refine lv_aload_n hx hb dX6_player_35 rfl (lv_at hl 0 rfl) ?_
      refine g_get hE hG h_14 rfl inG6 24 (by decide) mw3_211 rfl dX6_player_36 ?_
      refine lv_iload_n hx hb dX6_player_39 rfl (lv_at hl 1 rfl) ?_
      refine g_iast hE hG h_11 (ix_cnt (N := 8) hOk.2.1.2.2 (c_lt hlt) (by have := hOk.1.2.2; omega) (by decide)) dX6_player_40 (fun H locs w_16 ew_16 hG => ?_)
      have h_17 : w_16 1001 = some ((ad 1), .inl (tc 0, 4, .inl (d 0))) := gU_n ew_16 (by decide) h_4
      have h_18 : w_16 1002 = some ((ad 2), .inl (tc 0, 6, .inl (d 1))) := gU_n ew_16 (by decide) h_5
      have h_19 : w_16 1003 = some ((ad 3), .inl (tc 0, 6, .inl (d 2))) := gU_n ew_16 (by decide) h_6
      have h_20 : w_16 1004 = some ((ad 4), .inl (tc 0, 390, .inl (d 3))) := gU_n ew_16 (by decide) h_7
      have h_21 : w_16 1005 = some ((ad 5), .inl (tc 1, 4, .inr (.inl st))) := gU_n ew_16 (by decide) h_8
      have h_22 : w_16 1006 = some ((ad 6), .inl (tc 0, 32, .inl (d 4))) := gU_n ew_16 (by decide) h_9
      have h_23 : w_16 1007 = some ((ad 7), .inl (tc 0, 4, .inl (d 5))) := gU_n ew_16 (by decide) h_10
      have h_24 : w_16 1009 = some ((ad 9), .inl (tc 2, 48, .inl (d 7))) := gU_n ew_16 (by decide) h_12
      have h_25 : w_16 1010 = some ((ad 10), .inl (tc 0, 3120, .inl (d 8))) := gU_n ew_16 (by decide) h_13
      have h_26 : w_16 1000 = some ((ad 0), .inr (6, [.ref (ad 1), .int (d 9 0), .ref (ad 2), .ref (ad 3), .ref (ad 4), .int (d 9 1), .int (d 9 2), .int (d 9 3), .int (d 9 4), .int (d 9 5), .int (d 9 6), .int (d 9 7), .int (d 9 8), .int (d 9 9), .long tk, .ref (ad 5), .int (d 9 10), .int (d 9 11), .ref (ad 6), .ref (ad 7), .int (d 9 12), .ref (ad 8), .ref (ad 9), .ref (ad 10), .int (d 9 13), .int (m_la (f_in x 0 15) v_1 1)])) := gU_n ew_16 (by decide) h_14
      have h_27 : w_16 1008 = some ((ad 8), .inl (tc 0, 8, .inl (upd (d 6) (d 9 13).toNatClampNeg x))) := gU_s ew_16
      refine lv_aload_n hx hb dX6_player_41 rfl (lv_at hl 0 rfl) ?_
      refine lv_dup hx hb dX6_player_42 rfl ?_
      refine g_get hE hG h_26 rfl inG6 24 (by decide) mw3_211 rfl dX6_player_43 ?_
      refine lv_iconst (v := 1) hx hb dX6_player_46 (by decide) ?_
      refine lv_iadd hx hb dX6_player_47 ?_
      refine g_put hE hG h_26 rfl inG6 tyX6 tyX6_ok nmX6 24 (by decide) mw3_211 rfl rfl rfl (Nat.le_of_ble_eq_true rfl) dX6_player_48 (fun H locs w_28 ew_28 hG => ?_)
      have h_29 : w_28 1001 = some ((ad 1), .inl (tc 0, 4, .inl (d 0))) := gU_n ew_28 (by decide) h_17
      have h_30 : w_28 1002 = some ((ad 2), .inl (tc 0, 6, .inl (d 1))) := gU_n ew_28 (by decide) h_18
      have h_31 : w_28 1003 = some ((ad 3), .inl (tc 0, 6, .inl (d 2))) := gU_n ew_28 (by decide) h_19
      have h_32 : w_28 1004 = some ((ad 4), .inl (tc 0, 390, .inl (d 3))) := gU_n ew_28 (by decide) h_20
      have h_33 : w_28 1005 = some ((ad 5), .inl (tc 1, 4, .inr (.inl st))) := gU_n ew_28 (by decide) h_21
      have h_34 : w_28 1006 = some ((ad 6), .inl (tc 0, 32, .inl (d 4))) := gU_n ew_28 (by decide) h_22
      have h_35 : w_28 1007 = some ((ad 7), .inl (tc 0, 4, .inl (d 5))) := gU_n ew_28 (by decide) h_23
      have h_36 : w_28 1009 = some ((ad 9), .inl (tc 2, 48, .inl (d 7))) := gU_n ew_28 (by decide) h_24
      have h_37 : w_28 1010 = some ((ad 10), .inl (tc 0, 3120, .inl (d 8))) := gU_n ew_28 (by decide) h_25
      have h_38 : w_28 1008 = some ((ad 8), .inl (tc 0, 8, .inl (upd (d 6) (d 9 13).toNatClampNeg x))) := gU_n ew_28 (by decide) h_27
      have h_39 : w_28 1000 = some ((ad 0), .inr (6, [.ref (ad 1), .int (d 9 0), .ref (ad 2), .ref (ad 3), .ref (ad 4), .int (d 9 1), .int (d 9 2), .int (d 9 3), .int (d 9 4), .int (d 9 5), .int (d 9 6), .int (d 9 7), .int (d 9 8), .int (d 9 9), .long tk, .ref (ad 5), .int (d 9 10), .int (d 9 11), .ref (ad 6), .ref (ad 7), .int (d 9 12), .ref (ad 8), .ref (ad 9), .ref (ad 10), .int ((d 9 13) + 1), .int (m_la (f_in x 0 15) v_1 1)])) := gU_s ew_28
      refine lv_aload_n hx hb dX6_player_51 rfl (lv_at hl 0 rfl) ?_
      refine g_get hE hG h_39 rfl inG6 24 (by decide) mw3_211 rfl dX6_player_52 ?_
      refine lv_iconst (v := 1) hx hb dX6_player_55 (by decide) ?_
      refine lv_isub hx hb dX6_player_56 ?_
      subst hQ
      have hg_v_1 : v_1 = gb_player d x := ev_1
      subst hg_v_1
      rw [m_la_ok c_15] at h_39
      exact g_iret hE hG hr (Nat.le_of_ble_eq_true rfl) (Nat.le_of_ble_eq_true rfl) dX6_player_57 (Or.inr ⟨c_15, rfl, ⟨h_39, h_29, h_30, h_31, h_32, h_33, h_34, h_35, h_38, h_36, h_37⟩, gF_u (gF_u (gF_u (gF_rf w) ew_3 (by decide)) ew_16 (by decide)) ew_28 (by decide)⟩)
    · skip
      refine lv_iconst (v := 0) hx hb dX6_player_29 (by decide) ?_
      subst hQ
      have hg_v_1 : v_1 = gb_player d x := ev_1
      subst hg_v_1
      exact g_iret hE hG hr (Nat.le_of_ble_eq_true rfl) (Nat.le_of_ble_eq_true rfl) dX6_player_30 (Or.inl ⟨c_15, ⟨_, rfl⟩, mW_mk h_14 h_4 h_5 h_6 h_7 h_8 h_9 h_10 h_11 h_12 h_13, gF_u (gF_rf w) ew_3 (by decide)⟩)
  refine lv_icmp_ge (tgt := 21) hx hb dX6_player_14 (by decide) (fun c_40 => ?_) (fun c_40 => ?_)
  · skip
    refine lv_iconst (v := 0) hx hb dX6_player_21 (by decide) ?_
    exact j_2 _ _ _ (by rw [if_pos c_40]) hG
  · skip
    refine lv_iconst (v := 1) hx hb dX6_player_17 (by decide) ?_
    refine lv_goto (tgt := 22) hx hb dX6_player_18 (by decide) ?_
    exact j_2 _ _ _ (by rw [if_neg c_40]) hG
def ga_tone (d : gDt) (x y z : Int32) : Int32 := (m_isPlace d x y)
def gb_tone (d : gDt) (x y z : Int32) : Int32 := (f_in z 0 7)
def gc_tone (d : gDt) (x y z : Int32) : Int32 := 1
abbrev rm_X6_tone : Room := { frames := 4, cells := 0, slots := 0, locals := 158 }
theorem nm_X6_tone : gNm yX6_tone 3 := ⟨by decide +kernel, by decide +kernel, by decide +kernel⟩
set_option maxHeartbeats 8000000 in
set_option maxRecDepth 100000 in
theorem c_X6_tone (l : Launch) (hfl : l.stackTraces = false) (D : va_G) (tc : Nat → ClassId) (A : Nat → Prop) (w : gW) (ad : Nat → Nat) (d : gDt) (tk : Int64) (st : Nat → Int64) (x : Int32) (y : Int32) (z : Int32) (hM : mW tc w ad d tk st) (hOk : mOk d) : gM l yX6_tone cX6_tone 5 (some .int) rm_X6_tone D tc A [.ref (ad 0), .int x, .int y, .int z] w (fun v w' => (m_go (ga_tone d x y z) (gb_tone d x y z) (gc_tone d x y z) = 0 ∧ (∃ r, v = some (.int r)) ∧ mW tc w' ad (sL d (m_la (ga_tone d x y z) (gb_tone d x y z) (gc_tone d x y z))) tk st ∧ gF w w') ∨ (¬ m_go (ga_tone d x y z) (gb_tone d x y z) (gc_tone d x y z) = 0 ∧ v = some (.int (d 3 (65 * x + y).toNatClampNeg)) ∧ mW tc w' ad (sL (gD d 3 (upd (d 3) (65 * x + y).toNatClampNeg z)) 0) tk st ∧ gF w w')) (fun _ => False) := by
  refine gM_of (by decide +kernel) (Nat.le_of_ble_eq_true rfl) ?_
  intro p e s m args below meth c ls Q hQ hE hG hr hnt hnm hl
  have hx := hE.1
  have hb := hE.2.1
  have hl : lv_has ls 5 [(0, .ref (ad 0)), (1, .int x), (2, .int y), (3, .int z)] := hl
  obtain ⟨o0, o1, o2, o3, o4, o5, o6, o7, o8, o9, o10⟩ := hM
  refine lv_aload_n hx hb dX6_tone_0 rfl (lv_at hl 0 rfl) ?_
  refine lv_aload_n hx hb dX6_tone_1 rfl (lv_at hl 0 rfl) ?_
  refine lv_iload_n hx hb dX6_tone_2 rfl (lv_at hl 1 rfl) ?_
  refine lv_iload_n hx hb dX6_tone_3 rfl (lv_at hl 2 rfl) ?_
  refine g_callV (rest := [.ref (ad 0)]) (As := [.int x, .int y]) hE hG hl.1 (c_X6_isPlace l hfl D tc A w ad d tk st x y ⟨o0, o1, o2, o3, o4, o5, o6, o7, o8, o9, o10⟩ hOk) o0 rfl mw4_58 mw4_60 mws_14 mw1_4 mw4_61 rfl nm_X6_isPlace ⟨⟨Nat.le_of_ble_eq_true rfl, Nat.le_of_ble_eq_true rfl⟩, Nat.le_of_ble_eq_true rfl, Nat.le_of_ble_eq_true rfl⟩ rfl rfl (Nat.le_of_ble_eq_true rfl) dX6_tone_4 (g_no) ?_
  intro v9 w9 H locs h9 hG
  obtain ⟨e9, f9⟩ := h9
  rw [f9] at hG; rw [e9]; clear e9 f9
  show W p l e _ s m args below meth c H locs _ _ _ (F0 m 7 ls [.int (m_isPlace d x y), .ref (ad 0)])
  refine lv_iload_n hx hb dX6_tone_7 rfl (lv_at hl 3 rfl) ?_
  refine lv_iconst (v := 0) hx hb dX6_tone_8 (by decide) ?_
  refine lv_bipush (v := 7) hx hb dX6_tone_9 (by decide) ?_
  refine g_callS (rest := [.int (m_isPlace d x y), .ref (ad 0)]) (As := [.int z, .int 0, .int 7]) hE hG hl.1 (c_X6_in l hfl D tc A w z 0 7 ) mw4_35 mw4_36 mw1_4 mw4_37 nm_X6_in ⟨⟨Nat.le_of_ble_eq_true rfl, Nat.le_of_ble_eq_true rfl⟩, Nat.le_of_ble_eq_true rfl, Nat.le_of_ble_eq_true rfl⟩ rfl rfl (Nat.le_of_ble_eq_true rfl) dX6_tone_11 (g_no) ?_
  intro v9 w9 H locs h9 hG
  obtain ⟨e9, f9⟩ := h9
  rw [f9] at hG; rw [e9]; clear e9 f9
  show W p l e _ s m args below meth c H locs _ _ _ (F0 m 14 ls [.int (f_in z 0 7), .int (m_isPlace d x y), .ref (ad 0)])
  refine lv_iconst (v := 1) hx hb dX6_tone_14 (by decide) ?_
  refine g_callV (rest := []) (As := [.int (m_isPlace d x y), .int (f_in z 0 7), .int 1]) hE hG hl.1 (c_X6_goes l hfl D tc A w ad d tk st (m_isPlace d x y) (f_in z 0 7) 1 ⟨o0, o1, o2, o3, o4, o5, o6, o7, o8, o9, o10⟩ ) o0 rfl mw4_38 mw4_40 mws_12 mw1_4 mw4_41 rfl nm_X6_goes ⟨⟨Nat.le_of_ble_eq_true rfl, Nat.le_of_ble_eq_true rfl⟩, Nat.le_of_ble_eq_true rfl, Nat.le_of_ble_eq_true rfl⟩ rfl rfl (Nat.le_of_ble_eq_true rfl) dX6_tone_15 (g_no) ?_
  intro v9 w_1 H locs h9 hG
  obtain ⟨e9, ew_1⟩ := h9
  rw [e9]; clear e9
  show W p l e _ s m args below meth c H locs _ _ _ (F0 m 18 ls [.int (m_go (m_isPlace d x y) (f_in z 0 7) 1)])
  have h_2 : w_1 1001 = some ((ad 1), .inl (tc 0, 4, .inl (d 0))) := gU_n ew_1 (by decide) o1
  have h_3 : w_1 1002 = some ((ad 2), .inl (tc 0, 6, .inl (d 1))) := gU_n ew_1 (by decide) o2
  have h_4 : w_1 1003 = some ((ad 3), .inl (tc 0, 6, .inl (d 2))) := gU_n ew_1 (by decide) o3
  have h_5 : w_1 1004 = some ((ad 4), .inl (tc 0, 390, .inl (d 3))) := gU_n ew_1 (by decide) o4
  have h_6 : w_1 1005 = some ((ad 5), .inl (tc 1, 4, .inr (.inl st))) := gU_n ew_1 (by decide) o5
  have h_7 : w_1 1006 = some ((ad 6), .inl (tc 0, 32, .inl (d 4))) := gU_n ew_1 (by decide) o6
  have h_8 : w_1 1007 = some ((ad 7), .inl (tc 0, 4, .inl (d 5))) := gU_n ew_1 (by decide) o7
  have h_9 : w_1 1008 = some ((ad 8), .inl (tc 0, 8, .inl (d 6))) := gU_n ew_1 (by decide) o8
  have h_10 : w_1 1009 = some ((ad 9), .inl (tc 2, 48, .inl (d 7))) := gU_n ew_1 (by decide) o9
  have h_11 : w_1 1010 = some ((ad 10), .inl (tc 0, 3120, .inl (d 8))) := gU_n ew_1 (by decide) o10
  have h_12 : w_1 1000 = some ((ad 0), .inr (6, [.ref (ad 1), .int (d 9 0), .ref (ad 2), .ref (ad 3), .ref (ad 4), .int (d 9 1), .int (d 9 2), .int (d 9 3), .int (d 9 4), .int (d 9 5), .int (d 9 6), .int (d 9 7), .int (d 9 8), .int (d 9 9), .long tk, .ref (ad 5), .int (d 9 10), .int (d 9 11), .ref (ad 6), .ref (ad 7), .int (d 9 12), .ref (ad 8), .ref (ad 9), .ref (ad 10), .int (d 9 13), .int (m_la (m_isPlace d x y) (f_in z 0 7) 1)])) := gU_s ew_1
  refine lv_if_ne (tgt := 23) hx hb dX6_tone_18 (by decide) (fun c_13 => ?_) (fun c_13 => ?_)
  · skip
    refine lv_aload_n hx hb dX6_tone_23 rfl (lv_at hl 0 rfl) ?_
    refine g_get hE hG h_12 rfl inG6 4 (by decide) mw3_191 rfl dX6_tone_24 ?_
    refine lv_bipush (v := 65) hx hb dX6_tone_27 (by decide) ?_
    refine lv_iload_n hx hb dX6_tone_29 rfl (lv_at hl 1 rfl) ?_
    refine lv_imul hx hb dX6_tone_30 ?_
    refine lv_iload_n hx hb dX6_tone_31 rfl (lv_at hl 2 rfl) ?_
    refine lv_iadd hx hb dX6_tone_32 ?_
    refine g_iald hE hG h_5 (ix_place hOk (m_go_ne c_13).1) dX6_tone_33 ?_
    refine lv_istore (lv' := [(4, .int ((d 3) ((65 * x) + y).toNatClampNeg)), (0, .ref (ad 0)), (1, .int x), (2, .int y), (3, .int z)]) hx hb dX6_tone_34 hl (by decide) rfl (fun ls hl => ?_)
    refine lv_aload_n hx hb dX6_tone_36 rfl (lv_at hl 1 rfl) ?_
    refine g_get hE hG h_12 rfl inG6 4 (by decide) mw3_191 rfl dX6_tone_37 ?_
    refine lv_bipush (v := 65) hx hb dX6_tone_40 (by decide) ?_
    refine lv_iload_n hx hb dX6_tone_42 rfl (lv_at hl 2 rfl) ?_
    refine lv_imul hx hb dX6_tone_43 ?_
    refine lv_iload_n hx hb dX6_tone_44 rfl (lv_at hl 3 rfl) ?_
    refine lv_iadd hx hb dX6_tone_45 ?_
    refine lv_iload_n hx hb dX6_tone_46 rfl (lv_at hl 4 rfl) ?_
    refine g_iast hE hG h_5 (ix_place hOk (m_go_ne c_13).1) dX6_tone_47 (fun H locs w_14 ew_14 hG => ?_)
    have h_15 : w_14 1001 = some ((ad 1), .inl (tc 0, 4, .inl (d 0))) := gU_n ew_14 (by decide) h_2
    have h_16 : w_14 1002 = some ((ad 2), .inl (tc 0, 6, .inl (d 1))) := gU_n ew_14 (by decide) h_3
    have h_17 : w_14 1003 = some ((ad 3), .inl (tc 0, 6, .inl (d 2))) := gU_n ew_14 (by decide) h_4
    have h_18 : w_14 1005 = some ((ad 5), .inl (tc 1, 4, .inr (.inl st))) := gU_n ew_14 (by decide) h_6
    have h_19 : w_14 1006 = some ((ad 6), .inl (tc 0, 32, .inl (d 4))) := gU_n ew_14 (by decide) h_7
    have h_20 : w_14 1007 = some ((ad 7), .inl (tc 0, 4, .inl (d 5))) := gU_n ew_14 (by decide) h_8
    have h_21 : w_14 1008 = some ((ad 8), .inl (tc 0, 8, .inl (d 6))) := gU_n ew_14 (by decide) h_9
    have h_22 : w_14 1009 = some ((ad 9), .inl (tc 2, 48, .inl (d 7))) := gU_n ew_14 (by decide) h_10
    have h_23 : w_14 1010 = some ((ad 10), .inl (tc 0, 3120, .inl (d 8))) := gU_n ew_14 (by decide) h_11
    have h_24 : w_14 1000 = some ((ad 0), .inr (6, [.ref (ad 1), .int (d 9 0), .ref (ad 2), .ref (ad 3), .ref (ad 4), .int (d 9 1), .int (d 9 2), .int (d 9 3), .int (d 9 4), .int (d 9 5), .int (d 9 6), .int (d 9 7), .int (d 9 8), .int (d 9 9), .long tk, .ref (ad 5), .int (d 9 10), .int (d 9 11), .ref (ad 6), .ref (ad 7), .int (d 9 12), .ref (ad 8), .ref (ad 9), .ref (ad 10), .int (d 9 13), .int (m_la (m_isPlace d x y) (f_in z 0 7) 1)])) := gU_n ew_14 (by decide) h_12
    have h_25 : w_14 1004 = some ((ad 4), .inl (tc 0, 390, .inl (upd (d 3) ((65 * x) + y).toNatClampNeg z))) := gU_s ew_14
    refine lv_iload hx hb dX6_tone_48 (lv_at hl 0 rfl) ?_
    subst hQ
    rw [m_la_ok c_13] at h_24
    exact g_iret hE hG hr (Nat.le_of_ble_eq_true rfl) (Nat.le_of_ble_eq_true rfl) dX6_tone_50 (Or.inr ⟨c_13, rfl, ⟨h_24, h_15, h_16, h_17, h_25, h_18, h_19, h_20, h_21, h_22, h_23⟩, gF_u (gF_u (gF_rf w) ew_1 (by decide)) ew_14 (by decide)⟩)
  · skip
    refine lv_iconst (v := 0) hx hb dX6_tone_21 (by decide) ?_
    subst hQ
    exact g_iret hE hG hr (Nat.le_of_ble_eq_true rfl) (Nat.le_of_ble_eq_true rfl) dX6_tone_22 (Or.inl ⟨c_13, ⟨_, rfl⟩, mW_mk h_12 h_2 h_3 h_4 h_5 h_6 h_7 h_8 h_9 h_10 h_11, gF_u (gF_rf w) ew_1 (by decide)⟩)
def ga_forbid (d : gDt) (x y : Int32) : Int32 := (m_isPiece d x)
def gb_forbid (d : gDt) (x y : Int32) : Int32 := (f_in y 0 31)
def gc_forbid (d : gDt) (x y : Int32) : Int32 := 1
abbrev rm_X6_forbid : Room := { frames := 4, cells := 0, slots := 0, locals := 158 }
theorem nm_X6_forbid : gNm yX6_forbid 2 := ⟨by decide +kernel, by decide +kernel, by decide +kernel⟩
set_option maxHeartbeats 8000000 in
set_option maxRecDepth 100000 in
theorem c_X6_forbid (l : Launch) (hfl : l.stackTraces = false) (D : va_G) (tc : Nat → ClassId) (A : Nat → Prop) (w : gW) (ad : Nat → Nat) (d : gDt) (tk : Int64) (st : Nat → Int64) (x : Int32) (y : Int32) (hM : mW tc w ad d tk st) (hOk : mOk d) : gM l yX6_forbid cX6_forbid 4 (some .int) rm_X6_forbid D tc A [.ref (ad 0), .int x, .int y] w (fun v w' => (m_go (ga_forbid d x y) (gb_forbid d x y) (gc_forbid d x y) = 0 ∧ (∃ r, v = some (.int r)) ∧ mW tc w' ad (sL d (m_la (ga_forbid d x y) (gb_forbid d x y) (gc_forbid d x y))) tk st ∧ gF w w') ∨ (¬ m_go (ga_forbid d x y) (gb_forbid d x y) (gc_forbid d x y) = 0 ∧ v = some (.int (d 2 x.toNatClampNeg)) ∧ mW tc w' ad (sL (gD d 2 (upd (d 2) x.toNatClampNeg y)) 0) tk st ∧ gF w w')) (fun _ => False) := by
  refine gM_of (by decide +kernel) (Nat.le_of_ble_eq_true rfl) ?_
  intro p e s m args below meth c ls Q hQ hE hG hr hnt hnm hl
  have hx := hE.1
  have hb := hE.2.1
  have hl : lv_has ls 4 [(0, .ref (ad 0)), (1, .int x), (2, .int y)] := hl
  obtain ⟨o0, o1, o2, o3, o4, o5, o6, o7, o8, o9, o10⟩ := hM
  refine lv_aload_n hx hb dX6_forbid_0 rfl (lv_at hl 0 rfl) ?_
  refine lv_aload_n hx hb dX6_forbid_1 rfl (lv_at hl 0 rfl) ?_
  refine lv_iload_n hx hb dX6_forbid_2 rfl (lv_at hl 1 rfl) ?_
  refine g_callV (rest := [.ref (ad 0)]) (As := [.int x]) hE hG hl.1 (c_X6_isPiece l hfl D tc A w ad d tk st x ⟨o0, o1, o2, o3, o4, o5, o6, o7, o8, o9, o10⟩ ) o0 rfl mw4_62 mw4_64 mws_15 mw1_4 mw4_65 rfl nm_X6_isPiece ⟨⟨Nat.le_of_ble_eq_true rfl, Nat.le_of_ble_eq_true rfl⟩, Nat.le_of_ble_eq_true rfl, Nat.le_of_ble_eq_true rfl⟩ rfl rfl (Nat.le_of_ble_eq_true rfl) dX6_forbid_3 (g_no) ?_
  intro v9 w9 H locs h9 hG
  obtain ⟨e9, f9⟩ := h9
  rw [f9] at hG; rw [e9]; clear e9 f9
  show W p l e _ s m args below meth c H locs _ _ _ (F0 m 6 ls [.int (m_isPiece d x), .ref (ad 0)])
  refine lv_iload_n hx hb dX6_forbid_6 rfl (lv_at hl 2 rfl) ?_
  refine lv_iconst (v := 0) hx hb dX6_forbid_7 (by decide) ?_
  refine lv_bipush (v := 31) hx hb dX6_forbid_8 (by decide) ?_
  refine g_callS (rest := [.int (m_isPiece d x), .ref (ad 0)]) (As := [.int y, .int 0, .int 31]) hE hG hl.1 (c_X6_in l hfl D tc A w y 0 31 ) mw4_35 mw4_36 mw1_4 mw4_37 nm_X6_in ⟨⟨Nat.le_of_ble_eq_true rfl, Nat.le_of_ble_eq_true rfl⟩, Nat.le_of_ble_eq_true rfl, Nat.le_of_ble_eq_true rfl⟩ rfl rfl (Nat.le_of_ble_eq_true rfl) dX6_forbid_10 (g_no) ?_
  intro v9 w9 H locs h9 hG
  obtain ⟨e9, f9⟩ := h9
  rw [f9] at hG; rw [e9]; clear e9 f9
  show W p l e _ s m args below meth c H locs _ _ _ (F0 m 13 ls [.int (f_in y 0 31), .int (m_isPiece d x), .ref (ad 0)])
  refine lv_iconst (v := 1) hx hb dX6_forbid_13 (by decide) ?_
  refine g_callV (rest := []) (As := [.int (m_isPiece d x), .int (f_in y 0 31), .int 1]) hE hG hl.1 (c_X6_goes l hfl D tc A w ad d tk st (m_isPiece d x) (f_in y 0 31) 1 ⟨o0, o1, o2, o3, o4, o5, o6, o7, o8, o9, o10⟩ ) o0 rfl mw4_38 mw4_40 mws_12 mw1_4 mw4_41 rfl nm_X6_goes ⟨⟨Nat.le_of_ble_eq_true rfl, Nat.le_of_ble_eq_true rfl⟩, Nat.le_of_ble_eq_true rfl, Nat.le_of_ble_eq_true rfl⟩ rfl rfl (Nat.le_of_ble_eq_true rfl) dX6_forbid_14 (g_no) ?_
  intro v9 w_1 H locs h9 hG
  obtain ⟨e9, ew_1⟩ := h9
  rw [e9]; clear e9
  show W p l e _ s m args below meth c H locs _ _ _ (F0 m 17 ls [.int (m_go (m_isPiece d x) (f_in y 0 31) 1)])
  have h_2 : w_1 1001 = some ((ad 1), .inl (tc 0, 4, .inl (d 0))) := gU_n ew_1 (by decide) o1
  have h_3 : w_1 1002 = some ((ad 2), .inl (tc 0, 6, .inl (d 1))) := gU_n ew_1 (by decide) o2
  have h_4 : w_1 1003 = some ((ad 3), .inl (tc 0, 6, .inl (d 2))) := gU_n ew_1 (by decide) o3
  have h_5 : w_1 1004 = some ((ad 4), .inl (tc 0, 390, .inl (d 3))) := gU_n ew_1 (by decide) o4
  have h_6 : w_1 1005 = some ((ad 5), .inl (tc 1, 4, .inr (.inl st))) := gU_n ew_1 (by decide) o5
  have h_7 : w_1 1006 = some ((ad 6), .inl (tc 0, 32, .inl (d 4))) := gU_n ew_1 (by decide) o6
  have h_8 : w_1 1007 = some ((ad 7), .inl (tc 0, 4, .inl (d 5))) := gU_n ew_1 (by decide) o7
  have h_9 : w_1 1008 = some ((ad 8), .inl (tc 0, 8, .inl (d 6))) := gU_n ew_1 (by decide) o8
  have h_10 : w_1 1009 = some ((ad 9), .inl (tc 2, 48, .inl (d 7))) := gU_n ew_1 (by decide) o9
  have h_11 : w_1 1010 = some ((ad 10), .inl (tc 0, 3120, .inl (d 8))) := gU_n ew_1 (by decide) o10
  have h_12 : w_1 1000 = some ((ad 0), .inr (6, [.ref (ad 1), .int (d 9 0), .ref (ad 2), .ref (ad 3), .ref (ad 4), .int (d 9 1), .int (d 9 2), .int (d 9 3), .int (d 9 4), .int (d 9 5), .int (d 9 6), .int (d 9 7), .int (d 9 8), .int (d 9 9), .long tk, .ref (ad 5), .int (d 9 10), .int (d 9 11), .ref (ad 6), .ref (ad 7), .int (d 9 12), .ref (ad 8), .ref (ad 9), .ref (ad 10), .int (d 9 13), .int (m_la (m_isPiece d x) (f_in y 0 31) 1)])) := gU_s ew_1
  refine lv_if_ne (tgt := 22) hx hb dX6_forbid_17 (by decide) (fun c_13 => ?_) (fun c_13 => ?_)
  · skip
    refine lv_aload_n hx hb dX6_forbid_22 rfl (lv_at hl 0 rfl) ?_
    refine g_get hE hG h_12 rfl inG6 3 (by decide) mw3_190 rfl dX6_forbid_23 ?_
    refine lv_iload_n hx hb dX6_forbid_26 rfl (lv_at hl 1 rfl) ?_
    refine g_iald hE hG h_4 (ix_piece hOk (m_go_ne c_13).1) dX6_forbid_27 ?_
    refine lv_istore_n (lv' := [(3, .int ((d 2) x.toNatClampNeg)), (0, .ref (ad 0)), (1, .int x), (2, .int y)]) hx hb dX6_forbid_28 rfl hl (by decide) rfl (fun ls hl => ?_)
    refine lv_aload_n hx hb dX6_forbid_29 rfl (lv_at hl 1 rfl) ?_
    refine g_get hE hG h_12 rfl inG6 3 (by decide) mw3_190 rfl dX6_forbid_30 ?_
    refine lv_iload_n hx hb dX6_forbid_33 rfl (lv_at hl 2 rfl) ?_
    refine lv_iload_n hx hb dX6_forbid_34 rfl (lv_at hl 3 rfl) ?_
    refine g_iast hE hG h_4 (ix_piece hOk (m_go_ne c_13).1) dX6_forbid_35 (fun H locs w_14 ew_14 hG => ?_)
    have h_15 : w_14 1001 = some ((ad 1), .inl (tc 0, 4, .inl (d 0))) := gU_n ew_14 (by decide) h_2
    have h_16 : w_14 1002 = some ((ad 2), .inl (tc 0, 6, .inl (d 1))) := gU_n ew_14 (by decide) h_3
    have h_17 : w_14 1004 = some ((ad 4), .inl (tc 0, 390, .inl (d 3))) := gU_n ew_14 (by decide) h_5
    have h_18 : w_14 1005 = some ((ad 5), .inl (tc 1, 4, .inr (.inl st))) := gU_n ew_14 (by decide) h_6
    have h_19 : w_14 1006 = some ((ad 6), .inl (tc 0, 32, .inl (d 4))) := gU_n ew_14 (by decide) h_7
    have h_20 : w_14 1007 = some ((ad 7), .inl (tc 0, 4, .inl (d 5))) := gU_n ew_14 (by decide) h_8
    have h_21 : w_14 1008 = some ((ad 8), .inl (tc 0, 8, .inl (d 6))) := gU_n ew_14 (by decide) h_9
    have h_22 : w_14 1009 = some ((ad 9), .inl (tc 2, 48, .inl (d 7))) := gU_n ew_14 (by decide) h_10
    have h_23 : w_14 1010 = some ((ad 10), .inl (tc 0, 3120, .inl (d 8))) := gU_n ew_14 (by decide) h_11
    have h_24 : w_14 1000 = some ((ad 0), .inr (6, [.ref (ad 1), .int (d 9 0), .ref (ad 2), .ref (ad 3), .ref (ad 4), .int (d 9 1), .int (d 9 2), .int (d 9 3), .int (d 9 4), .int (d 9 5), .int (d 9 6), .int (d 9 7), .int (d 9 8), .int (d 9 9), .long tk, .ref (ad 5), .int (d 9 10), .int (d 9 11), .ref (ad 6), .ref (ad 7), .int (d 9 12), .ref (ad 8), .ref (ad 9), .ref (ad 10), .int (d 9 13), .int (m_la (m_isPiece d x) (f_in y 0 31) 1)])) := gU_n ew_14 (by decide) h_12
    have h_25 : w_14 1003 = some ((ad 3), .inl (tc 0, 6, .inl (upd (d 2) x.toNatClampNeg y))) := gU_s ew_14
    refine lv_iload_n hx hb dX6_forbid_36 rfl (lv_at hl 0 rfl) ?_
    subst hQ
    rw [m_la_ok c_13] at h_24
    exact g_iret hE hG hr (Nat.le_of_ble_eq_true rfl) (Nat.le_of_ble_eq_true rfl) dX6_forbid_37 (Or.inr ⟨c_13, rfl, ⟨h_24, h_15, h_16, h_25, h_17, h_18, h_19, h_20, h_21, h_22, h_23⟩, gF_u (gF_u (gF_rf w) ew_1 (by decide)) ew_14 (by decide)⟩)
  · skip
    refine lv_iconst (v := 0) hx hb dX6_forbid_20 (by decide) ?_
    subst hQ
    exact g_iret hE hG hr (Nat.le_of_ble_eq_true rfl) (Nat.le_of_ble_eq_true rfl) dX6_forbid_21 (Or.inl ⟨c_13, ⟨_, rfl⟩, mW_mk h_12 h_2 h_3 h_4 h_5 h_6 h_7 h_8 h_9 h_10 h_11, gF_u (gF_rf w) ew_1 (by decide)⟩)
def ga_drift (d : gDt) (x y : Int32) : Int32 := (m_isSet x)
def gb_drift (d : gDt) (x y : Int32) : Int32 := (f_in y 0 50)
def gc_drift (d : gDt) (x y : Int32) : Int32 := 1
abbrev rm_X6_drift : Room := { frames := 4, cells := 0, slots := 0, locals := 158 }
theorem nm_X6_drift : gNm yX6_drift 2 := ⟨by decide +kernel, by decide +kernel, by decide +kernel⟩
set_option maxHeartbeats 8000000 in
set_option maxRecDepth 100000 in
theorem c_X6_drift (l : Launch) (hfl : l.stackTraces = false) (D : va_G) (tc : Nat → ClassId) (A : Nat → Prop) (w : gW) (ad : Nat → Nat) (d : gDt) (tk : Int64) (st : Nat → Int64) (x : Int32) (y : Int32) (hM : mW tc w ad d tk st) (hOk : mOk d) : gM l yX6_drift cX6_drift 4 (some .int) rm_X6_drift D tc A [.ref (ad 0), .int x, .int y] w (fun v w' => (m_go (ga_drift d x y) (gb_drift d x y) (gc_drift d x y) = 0 ∧ (∃ r, v = some (.int r)) ∧ mW tc w' ad (sL d (m_la (ga_drift d x y) (gb_drift d x y) (gc_drift d x y))) tk st ∧ gF w w') ∨ (¬ m_go (ga_drift d x y) (gb_drift d x y) (gc_drift d x y) = 0 ∧ v = some (.int (d 5 x.toNatClampNeg)) ∧ mW tc w' ad (sL (gD d 5 (upd (d 5) x.toNatClampNeg y)) 0) tk st ∧ gF w w')) (fun _ => False) := by
  refine gM_of (by decide +kernel) (Nat.le_of_ble_eq_true rfl) ?_
  intro p e s m args below meth c ls Q hQ hE hG hr hnt hnm hl
  have hx := hE.1
  have hb := hE.2.1
  have hl : lv_has ls 4 [(0, .ref (ad 0)), (1, .int x), (2, .int y)] := hl
  obtain ⟨o0, o1, o2, o3, o4, o5, o6, o7, o8, o9, o10⟩ := hM
  refine lv_aload_n hx hb dX6_drift_0 rfl (lv_at hl 0 rfl) ?_
  refine lv_iload_n hx hb dX6_drift_1 rfl (lv_at hl 1 rfl) ?_
  refine g_callS (rest := [.ref (ad 0)]) (As := [.int x]) hE hG hl.1 (c_X6_isSet l hfl D tc A w x ) mw4_139 mw4_140 mw1_4 mw4_141 nm_X6_isSet ⟨⟨Nat.le_of_ble_eq_true rfl, Nat.le_of_ble_eq_true rfl⟩, Nat.le_of_ble_eq_true rfl, Nat.le_of_ble_eq_true rfl⟩ rfl rfl (Nat.le_of_ble_eq_true rfl) dX6_drift_2 (g_no) ?_
  intro v9 w9 H locs h9 hG
  obtain ⟨e9, f9⟩ := h9
  rw [f9] at hG; rw [e9]; clear e9 f9
  show W p l e _ s m args below meth c H locs _ _ _ (F0 m 5 ls [.int (m_isSet x), .ref (ad 0)])
  refine lv_iload_n hx hb dX6_drift_5 rfl (lv_at hl 2 rfl) ?_
  refine lv_iconst (v := 0) hx hb dX6_drift_6 (by decide) ?_
  refine lv_bipush (v := 50) hx hb dX6_drift_7 (by decide) ?_
  refine g_callS (rest := [.int (m_isSet x), .ref (ad 0)]) (As := [.int y, .int 0, .int 50]) hE hG hl.1 (c_X6_in l hfl D tc A w y 0 50 ) mw4_35 mw4_36 mw1_4 mw4_37 nm_X6_in ⟨⟨Nat.le_of_ble_eq_true rfl, Nat.le_of_ble_eq_true rfl⟩, Nat.le_of_ble_eq_true rfl, Nat.le_of_ble_eq_true rfl⟩ rfl rfl (Nat.le_of_ble_eq_true rfl) dX6_drift_9 (g_no) ?_
  intro v9 w9 H locs h9 hG
  obtain ⟨e9, f9⟩ := h9
  rw [f9] at hG; rw [e9]; clear e9 f9
  show W p l e _ s m args below meth c H locs _ _ _ (F0 m 12 ls [.int (f_in y 0 50), .int (m_isSet x), .ref (ad 0)])
  refine lv_iconst (v := 1) hx hb dX6_drift_12 (by decide) ?_
  refine g_callV (rest := []) (As := [.int (m_isSet x), .int (f_in y 0 50), .int 1]) hE hG hl.1 (c_X6_goes l hfl D tc A w ad d tk st (m_isSet x) (f_in y 0 50) 1 ⟨o0, o1, o2, o3, o4, o5, o6, o7, o8, o9, o10⟩ ) o0 rfl mw4_38 mw4_40 mws_12 mw1_4 mw4_41 rfl nm_X6_goes ⟨⟨Nat.le_of_ble_eq_true rfl, Nat.le_of_ble_eq_true rfl⟩, Nat.le_of_ble_eq_true rfl, Nat.le_of_ble_eq_true rfl⟩ rfl rfl (Nat.le_of_ble_eq_true rfl) dX6_drift_13 (g_no) ?_
  intro v9 w_1 H locs h9 hG
  obtain ⟨e9, ew_1⟩ := h9
  rw [e9]; clear e9
  show W p l e _ s m args below meth c H locs _ _ _ (F0 m 16 ls [.int (m_go (m_isSet x) (f_in y 0 50) 1)])
  have h_2 : w_1 1001 = some ((ad 1), .inl (tc 0, 4, .inl (d 0))) := gU_n ew_1 (by decide) o1
  have h_3 : w_1 1002 = some ((ad 2), .inl (tc 0, 6, .inl (d 1))) := gU_n ew_1 (by decide) o2
  have h_4 : w_1 1003 = some ((ad 3), .inl (tc 0, 6, .inl (d 2))) := gU_n ew_1 (by decide) o3
  have h_5 : w_1 1004 = some ((ad 4), .inl (tc 0, 390, .inl (d 3))) := gU_n ew_1 (by decide) o4
  have h_6 : w_1 1005 = some ((ad 5), .inl (tc 1, 4, .inr (.inl st))) := gU_n ew_1 (by decide) o5
  have h_7 : w_1 1006 = some ((ad 6), .inl (tc 0, 32, .inl (d 4))) := gU_n ew_1 (by decide) o6
  have h_8 : w_1 1007 = some ((ad 7), .inl (tc 0, 4, .inl (d 5))) := gU_n ew_1 (by decide) o7
  have h_9 : w_1 1008 = some ((ad 8), .inl (tc 0, 8, .inl (d 6))) := gU_n ew_1 (by decide) o8
  have h_10 : w_1 1009 = some ((ad 9), .inl (tc 2, 48, .inl (d 7))) := gU_n ew_1 (by decide) o9
  have h_11 : w_1 1010 = some ((ad 10), .inl (tc 0, 3120, .inl (d 8))) := gU_n ew_1 (by decide) o10
  have h_12 : w_1 1000 = some ((ad 0), .inr (6, [.ref (ad 1), .int (d 9 0), .ref (ad 2), .ref (ad 3), .ref (ad 4), .int (d 9 1), .int (d 9 2), .int (d 9 3), .int (d 9 4), .int (d 9 5), .int (d 9 6), .int (d 9 7), .int (d 9 8), .int (d 9 9), .long tk, .ref (ad 5), .int (d 9 10), .int (d 9 11), .ref (ad 6), .ref (ad 7), .int (d 9 12), .ref (ad 8), .ref (ad 9), .ref (ad 10), .int (d 9 13), .int (m_la (m_isSet x) (f_in y 0 50) 1)])) := gU_s ew_1
  refine lv_if_ne (tgt := 21) hx hb dX6_drift_16 (by decide) (fun c_13 => ?_) (fun c_13 => ?_)
  · skip
    refine lv_aload_n hx hb dX6_drift_21 rfl (lv_at hl 0 rfl) ?_
    refine g_get hE hG h_12 rfl inG6 19 (by decide) mw3_206 rfl dX6_drift_22 ?_
    refine lv_iload_n hx hb dX6_drift_25 rfl (lv_at hl 1 rfl) ?_
    refine g_iald hE hG h_8 (ix_set (m_go_ne c_13).1) dX6_drift_26 ?_
    refine lv_istore_n (lv' := [(3, .int ((d 5) x.toNatClampNeg)), (0, .ref (ad 0)), (1, .int x), (2, .int y)]) hx hb dX6_drift_27 rfl hl (by decide) rfl (fun ls hl => ?_)
    refine lv_aload_n hx hb dX6_drift_28 rfl (lv_at hl 1 rfl) ?_
    refine g_get hE hG h_12 rfl inG6 19 (by decide) mw3_206 rfl dX6_drift_29 ?_
    refine lv_iload_n hx hb dX6_drift_32 rfl (lv_at hl 2 rfl) ?_
    refine lv_iload_n hx hb dX6_drift_33 rfl (lv_at hl 3 rfl) ?_
    refine g_iast hE hG h_8 (ix_set (m_go_ne c_13).1) dX6_drift_34 (fun H locs w_14 ew_14 hG => ?_)
    have h_15 : w_14 1001 = some ((ad 1), .inl (tc 0, 4, .inl (d 0))) := gU_n ew_14 (by decide) h_2
    have h_16 : w_14 1002 = some ((ad 2), .inl (tc 0, 6, .inl (d 1))) := gU_n ew_14 (by decide) h_3
    have h_17 : w_14 1003 = some ((ad 3), .inl (tc 0, 6, .inl (d 2))) := gU_n ew_14 (by decide) h_4
    have h_18 : w_14 1004 = some ((ad 4), .inl (tc 0, 390, .inl (d 3))) := gU_n ew_14 (by decide) h_5
    have h_19 : w_14 1005 = some ((ad 5), .inl (tc 1, 4, .inr (.inl st))) := gU_n ew_14 (by decide) h_6
    have h_20 : w_14 1006 = some ((ad 6), .inl (tc 0, 32, .inl (d 4))) := gU_n ew_14 (by decide) h_7
    have h_21 : w_14 1008 = some ((ad 8), .inl (tc 0, 8, .inl (d 6))) := gU_n ew_14 (by decide) h_9
    have h_22 : w_14 1009 = some ((ad 9), .inl (tc 2, 48, .inl (d 7))) := gU_n ew_14 (by decide) h_10
    have h_23 : w_14 1010 = some ((ad 10), .inl (tc 0, 3120, .inl (d 8))) := gU_n ew_14 (by decide) h_11
    have h_24 : w_14 1000 = some ((ad 0), .inr (6, [.ref (ad 1), .int (d 9 0), .ref (ad 2), .ref (ad 3), .ref (ad 4), .int (d 9 1), .int (d 9 2), .int (d 9 3), .int (d 9 4), .int (d 9 5), .int (d 9 6), .int (d 9 7), .int (d 9 8), .int (d 9 9), .long tk, .ref (ad 5), .int (d 9 10), .int (d 9 11), .ref (ad 6), .ref (ad 7), .int (d 9 12), .ref (ad 8), .ref (ad 9), .ref (ad 10), .int (d 9 13), .int (m_la (m_isSet x) (f_in y 0 50) 1)])) := gU_n ew_14 (by decide) h_12
    have h_25 : w_14 1007 = some ((ad 7), .inl (tc 0, 4, .inl (upd (d 5) x.toNatClampNeg y))) := gU_s ew_14
    refine lv_iload_n hx hb dX6_drift_35 rfl (lv_at hl 0 rfl) ?_
    subst hQ
    rw [m_la_ok c_13] at h_24
    exact g_iret hE hG hr (Nat.le_of_ble_eq_true rfl) (Nat.le_of_ble_eq_true rfl) dX6_drift_36 (Or.inr ⟨c_13, rfl, ⟨h_24, h_15, h_16, h_17, h_18, h_19, h_20, h_25, h_21, h_22, h_23⟩, gF_u (gF_u (gF_rf w) ew_1 (by decide)) ew_14 (by decide)⟩)
  · skip
    refine lv_iconst (v := 0) hx hb dX6_drift_19 (by decide) ?_
    subst hQ
    exact g_iret hE hG hr (Nat.le_of_ble_eq_true rfl) (Nat.le_of_ble_eq_true rfl) dX6_drift_20 (Or.inl ⟨c_13, ⟨_, rfl⟩, mW_mk h_12 h_2 h_3 h_4 h_5 h_6 h_7 h_8 h_9 h_10 h_11, gF_u (gF_rf w) ew_1 (by decide)⟩)
def ga_pitch (d : gDt) (x y z : Int32) : Int32 := (if (m_isSet x) = 0 then 0 else (if (f_in y 1 7) = 0 then 0 else 1 : Int32) : Int32)
def gb_pitch (d : gDt) (x y z : Int32) : Int32 := (f_in z 5000 200000)
def gc_pitch (d : gDt) (x y z : Int32) : Int32 := 1
abbrev rm_X6_pitch : Room := { frames := 4, cells := 0, slots := 0, locals := 158 }
theorem nm_X6_pitch : gNm yX6_pitch 3 := ⟨by decide +kernel, by decide +kernel, by decide +kernel⟩
set_option maxHeartbeats 8000000 in
set_option maxRecDepth 100000 in
theorem c_X6_pitch (l : Launch) (hfl : l.stackTraces = false) (D : va_G) (tc : Nat → ClassId) (A : Nat → Prop) (w : gW) (ad : Nat → Nat) (d : gDt) (tk : Int64) (st : Nat → Int64) (x : Int32) (y : Int32) (z : Int32) (hM : mW tc w ad d tk st) (hOk : mOk d) : gM l yX6_pitch cX6_pitch 5 (some .int) rm_X6_pitch D tc A [.ref (ad 0), .int x, .int y, .int z] w (fun v w' => (m_go (ga_pitch d x y z) (gb_pitch d x y z) (gc_pitch d x y z) = 0 ∧ (∃ r, v = some (.int r)) ∧ mW tc w' ad (sL d (m_la (ga_pitch d x y z) (gb_pitch d x y z) (gc_pitch d x y z))) tk st ∧ gF w w') ∨ (¬ m_go (ga_pitch d x y z) (gb_pitch d x y z) (gc_pitch d x y z) = 0 ∧ v = some (.int (d 4 (8 * x + y).toNatClampNeg)) ∧ mW tc w' ad (sL (gD d 4 (upd (d 4) (8 * x + y).toNatClampNeg z)) 0) tk st ∧ gF w w')) (fun _ => False) := by
  refine gM_of (by decide +kernel) (Nat.le_of_ble_eq_true rfl) ?_
  intro p e s m args below meth c ls Q hQ hE hG hr hnt hnm hl
  have hx := hE.1
  have hb := hE.2.1
  have hl : lv_has ls 5 [(0, .ref (ad 0)), (1, .int x), (2, .int y), (3, .int z)] := hl
  obtain ⟨o0, o1, o2, o3, o4, o5, o6, o7, o8, o9, o10⟩ := hM
  refine lv_aload_n hx hb dX6_pitch_0 rfl (lv_at hl 0 rfl) ?_
  refine lv_iload_n hx hb dX6_pitch_1 rfl (lv_at hl 1 rfl) ?_
  refine g_callS (rest := [.ref (ad 0)]) (As := [.int x]) hE hG hl.1 (c_X6_isSet l hfl D tc A w x ) mw4_139 mw4_140 mw1_4 mw4_141 nm_X6_isSet ⟨⟨Nat.le_of_ble_eq_true rfl, Nat.le_of_ble_eq_true rfl⟩, Nat.le_of_ble_eq_true rfl, Nat.le_of_ble_eq_true rfl⟩ rfl rfl (Nat.le_of_ble_eq_true rfl) dX6_pitch_2 (g_no) ?_
  intro v9 w9 H locs h9 hG
  obtain ⟨e9, f9⟩ := h9
  rw [f9] at hG; rw [e9]; clear e9 f9
  show W p l e _ s m args below meth c H locs _ _ _ (F0 m 5 ls [.int (m_isSet x), .ref (ad 0)])
  have j_2 : ∀ (v_1 : Int32) (H : Heap) (locs : List Loc), v_1 = (if (m_isSet x) = 0 then 0 else (if (f_in y 1 7) = 0 then 0 else 1 : Int32) : Int32) → gS D A s.heap w H locs → W p l e rm_X6_pitch s m args below meth c H locs (0 + rm_X6_isSet.cells) (0 + rm_X6_isSet.slots) Q (F0 m 23 ls (.int v_1 :: [.ref (ad 0)])) := by
    intro v_1 H locs ev_1 hG
    refine lv_iload_n hx hb dX6_pitch_23 rfl (lv_at hl 3 rfl) ?_
    refine lv_sipush (v := 5000) hx hb dX6_pitch_24 (by decide) ?_
    refine lv_ldc (v := 200000) hx hb hE.2.2.2.1 (hE.2.2.2.2.1 _ mw4_142) dX6_pitch_27 ?_
    refine g_callS (rest := [.int v_1, .ref (ad 0)]) (As := [.int z, .int 5000, .int 200000]) hE hG hl.1 (c_X6_in l hfl D tc A w z 5000 200000 ) mw4_35 mw4_36 mw1_4 mw4_37 nm_X6_in ⟨⟨Nat.le_of_ble_eq_true rfl, Nat.le_of_ble_eq_true rfl⟩, Nat.le_of_ble_eq_true rfl, Nat.le_of_ble_eq_true rfl⟩ rfl rfl (Nat.le_of_ble_eq_true rfl) dX6_pitch_29 (g_no) ?_
    intro v9 w9 H locs h9 hG
    obtain ⟨e9, f9⟩ := h9
    rw [f9] at hG; rw [e9]; clear e9 f9
    show W p l e _ s m args below meth c H locs _ _ _ (F0 m 32 ls [.int (f_in z 5000 200000), .int v_1, .ref (ad 0)])
    refine lv_iconst (v := 1) hx hb dX6_pitch_32 (by decide) ?_
    refine g_callV (rest := []) (As := [.int v_1, .int (f_in z 5000 200000), .int 1]) hE hG hl.1 (c_X6_goes l hfl D tc A w ad d tk st v_1 (f_in z 5000 200000) 1 ⟨o0, o1, o2, o3, o4, o5, o6, o7, o8, o9, o10⟩ ) o0 rfl mw4_38 mw4_40 mws_12 mw1_4 mw4_41 rfl nm_X6_goes ⟨⟨Nat.le_of_ble_eq_true rfl, Nat.le_of_ble_eq_true rfl⟩, Nat.le_of_ble_eq_true rfl, Nat.le_of_ble_eq_true rfl⟩ rfl rfl (Nat.le_of_ble_eq_true rfl) dX6_pitch_33 (g_no) ?_
    intro v9 w_3 H locs h9 hG
    obtain ⟨e9, ew_3⟩ := h9
    rw [e9]; clear e9
    show W p l e _ s m args below meth c H locs _ _ _ (F0 m 36 ls [.int (m_go v_1 (f_in z 5000 200000) 1)])
    have h_4 : w_3 1001 = some ((ad 1), .inl (tc 0, 4, .inl (d 0))) := gU_n ew_3 (by decide) o1
    have h_5 : w_3 1002 = some ((ad 2), .inl (tc 0, 6, .inl (d 1))) := gU_n ew_3 (by decide) o2
    have h_6 : w_3 1003 = some ((ad 3), .inl (tc 0, 6, .inl (d 2))) := gU_n ew_3 (by decide) o3
    have h_7 : w_3 1004 = some ((ad 4), .inl (tc 0, 390, .inl (d 3))) := gU_n ew_3 (by decide) o4
    have h_8 : w_3 1005 = some ((ad 5), .inl (tc 1, 4, .inr (.inl st))) := gU_n ew_3 (by decide) o5
    have h_9 : w_3 1006 = some ((ad 6), .inl (tc 0, 32, .inl (d 4))) := gU_n ew_3 (by decide) o6
    have h_10 : w_3 1007 = some ((ad 7), .inl (tc 0, 4, .inl (d 5))) := gU_n ew_3 (by decide) o7
    have h_11 : w_3 1008 = some ((ad 8), .inl (tc 0, 8, .inl (d 6))) := gU_n ew_3 (by decide) o8
    have h_12 : w_3 1009 = some ((ad 9), .inl (tc 2, 48, .inl (d 7))) := gU_n ew_3 (by decide) o9
    have h_13 : w_3 1010 = some ((ad 10), .inl (tc 0, 3120, .inl (d 8))) := gU_n ew_3 (by decide) o10
    have h_14 : w_3 1000 = some ((ad 0), .inr (6, [.ref (ad 1), .int (d 9 0), .ref (ad 2), .ref (ad 3), .ref (ad 4), .int (d 9 1), .int (d 9 2), .int (d 9 3), .int (d 9 4), .int (d 9 5), .int (d 9 6), .int (d 9 7), .int (d 9 8), .int (d 9 9), .long tk, .ref (ad 5), .int (d 9 10), .int (d 9 11), .ref (ad 6), .ref (ad 7), .int (d 9 12), .ref (ad 8), .ref (ad 9), .ref (ad 10), .int (d 9 13), .int (m_la v_1 (f_in z 5000 200000) 1)])) := gU_s ew_3
    refine lv_if_ne (tgt := 41) hx hb dX6_pitch_36 (by decide) (fun c_15 => ?_) (fun c_15 => ?_)
    · skip
      have hlt := (m_go_ne c_15).1
      try rw [ev_1] at hlt
      refine lv_aload_n hx hb dX6_pitch_41 rfl (lv_at hl 0 rfl) ?_
      refine g_get hE hG h_14 rfl inG6 18 (by decide) mw3_205 rfl dX6_pitch_42 ?_
      refine lv_bipush (v := 8) hx hb dX6_pitch_45 (by decide) ?_
      refine lv_iload_n hx hb dX6_pitch_47 rfl (lv_at hl 1 rfl) ?_
      refine lv_imul hx hb dX6_pitch_48 ?_
      refine lv_iload_n hx hb dX6_pitch_49 rfl (lv_at hl 2 rfl) ?_
      refine lv_iadd hx hb dX6_pitch_50 ?_
      refine g_iald hE hG h_9 (ix_pit (and_ne hlt).1 (and_ne hlt).2) dX6_pitch_51 ?_
      refine lv_istore (lv' := [(4, .int ((d 4) ((8 * x) + y).toNatClampNeg)), (0, .ref (ad 0)), (1, .int x), (2, .int y), (3, .int z)]) hx hb dX6_pitch_52 hl (by decide) rfl (fun ls hl => ?_)
      refine lv_aload_n hx hb dX6_pitch_54 rfl (lv_at hl 1 rfl) ?_
      refine g_get hE hG h_14 rfl inG6 18 (by decide) mw3_205 rfl dX6_pitch_55 ?_
      refine lv_bipush (v := 8) hx hb dX6_pitch_58 (by decide) ?_
      refine lv_iload_n hx hb dX6_pitch_60 rfl (lv_at hl 2 rfl) ?_
      refine lv_imul hx hb dX6_pitch_61 ?_
      refine lv_iload_n hx hb dX6_pitch_62 rfl (lv_at hl 3 rfl) ?_
      refine lv_iadd hx hb dX6_pitch_63 ?_
      refine lv_iload_n hx hb dX6_pitch_64 rfl (lv_at hl 4 rfl) ?_
      refine g_iast hE hG h_9 (ix_pit (and_ne hlt).1 (and_ne hlt).2) dX6_pitch_65 (fun H locs w_16 ew_16 hG => ?_)
      have h_17 : w_16 1001 = some ((ad 1), .inl (tc 0, 4, .inl (d 0))) := gU_n ew_16 (by decide) h_4
      have h_18 : w_16 1002 = some ((ad 2), .inl (tc 0, 6, .inl (d 1))) := gU_n ew_16 (by decide) h_5
      have h_19 : w_16 1003 = some ((ad 3), .inl (tc 0, 6, .inl (d 2))) := gU_n ew_16 (by decide) h_6
      have h_20 : w_16 1004 = some ((ad 4), .inl (tc 0, 390, .inl (d 3))) := gU_n ew_16 (by decide) h_7
      have h_21 : w_16 1005 = some ((ad 5), .inl (tc 1, 4, .inr (.inl st))) := gU_n ew_16 (by decide) h_8
      have h_22 : w_16 1007 = some ((ad 7), .inl (tc 0, 4, .inl (d 5))) := gU_n ew_16 (by decide) h_10
      have h_23 : w_16 1008 = some ((ad 8), .inl (tc 0, 8, .inl (d 6))) := gU_n ew_16 (by decide) h_11
      have h_24 : w_16 1009 = some ((ad 9), .inl (tc 2, 48, .inl (d 7))) := gU_n ew_16 (by decide) h_12
      have h_25 : w_16 1010 = some ((ad 10), .inl (tc 0, 3120, .inl (d 8))) := gU_n ew_16 (by decide) h_13
      have h_26 : w_16 1000 = some ((ad 0), .inr (6, [.ref (ad 1), .int (d 9 0), .ref (ad 2), .ref (ad 3), .ref (ad 4), .int (d 9 1), .int (d 9 2), .int (d 9 3), .int (d 9 4), .int (d 9 5), .int (d 9 6), .int (d 9 7), .int (d 9 8), .int (d 9 9), .long tk, .ref (ad 5), .int (d 9 10), .int (d 9 11), .ref (ad 6), .ref (ad 7), .int (d 9 12), .ref (ad 8), .ref (ad 9), .ref (ad 10), .int (d 9 13), .int (m_la v_1 (f_in z 5000 200000) 1)])) := gU_n ew_16 (by decide) h_14
      have h_27 : w_16 1006 = some ((ad 6), .inl (tc 0, 32, .inl (upd (d 4) ((8 * x) + y).toNatClampNeg z))) := gU_s ew_16
      refine lv_iload hx hb dX6_pitch_66 (lv_at hl 0 rfl) ?_
      subst hQ
      have hg_v_1 : v_1 = ga_pitch d x y z := ev_1
      subst hg_v_1
      rw [m_la_ok c_15] at h_26
      exact g_iret hE hG hr (Nat.le_of_ble_eq_true rfl) (Nat.le_of_ble_eq_true rfl) dX6_pitch_68 (Or.inr ⟨c_15, rfl, ⟨h_26, h_17, h_18, h_19, h_20, h_21, h_27, h_22, h_23, h_24, h_25⟩, gF_u (gF_u (gF_rf w) ew_3 (by decide)) ew_16 (by decide)⟩)
    · skip
      refine lv_iconst (v := 0) hx hb dX6_pitch_39 (by decide) ?_
      subst hQ
      have hg_v_1 : v_1 = ga_pitch d x y z := ev_1
      subst hg_v_1
      exact g_iret hE hG hr (Nat.le_of_ble_eq_true rfl) (Nat.le_of_ble_eq_true rfl) dX6_pitch_40 (Or.inl ⟨c_15, ⟨_, rfl⟩, mW_mk h_14 h_4 h_5 h_6 h_7 h_8 h_9 h_10 h_11 h_12 h_13, gF_u (gF_rf w) ew_3 (by decide)⟩)
  refine lv_if_eq (tgt := 22) hx hb dX6_pitch_5 (by decide) (fun c_28 => ?_) (fun c_28 => ?_)
  · skip
    refine lv_iconst (v := 0) hx hb dX6_pitch_22 (by decide) ?_
    exact j_2 _ _ _ (by rw [if_pos c_28]) hG
  · skip
    refine lv_iload_n hx hb dX6_pitch_8 rfl (lv_at hl 2 rfl) ?_
    refine lv_iconst (v := 1) hx hb dX6_pitch_9 (by decide) ?_
    refine lv_bipush (v := 7) hx hb dX6_pitch_10 (by decide) ?_
    refine g_callS (rest := [.ref (ad 0)]) (As := [.int y, .int 1, .int 7]) hE hG hl.1 (c_X6_in l hfl D tc A w y 1 7 ) mw4_35 mw4_36 mw1_4 mw4_37 nm_X6_in ⟨⟨Nat.le_of_ble_eq_true rfl, Nat.le_of_ble_eq_true rfl⟩, Nat.le_of_ble_eq_true rfl, Nat.le_of_ble_eq_true rfl⟩ rfl rfl (Nat.le_of_ble_eq_true rfl) dX6_pitch_12 (g_no) ?_
    intro v9 w9 H locs h9 hG
    obtain ⟨e9, f9⟩ := h9
    rw [f9] at hG; rw [e9]; clear e9 f9
    show W p l e _ s m args below meth c H locs _ _ _ (F0 m 15 ls [.int (f_in y 1 7), .ref (ad 0)])
    refine lv_if_eq (tgt := 22) hx hb dX6_pitch_15 (by decide) (fun c_29 => ?_) (fun c_29 => ?_)
    · skip
      refine lv_iconst (v := 0) hx hb dX6_pitch_22 (by decide) ?_
      exact j_2 _ _ _ (by rw [if_neg c_28, if_pos c_29]) hG
    · skip
      refine lv_iconst (v := 1) hx hb dX6_pitch_18 (by decide) ?_
      refine lv_goto (tgt := 23) hx hb dX6_pitch_19 (by decide) ?_
      exact j_2 _ _ _ (by rw [if_neg c_28, if_neg c_29]) hG
def ga_days (d : gDt) (x : Int32) : Int32 := (f_in x 1 100)
def gb_days (d : gDt) (x : Int32) : Int32 := (if (d 9 2) = 0 then 1 else 0 : Int32)
def gc_days (d : gDt) (x : Int32) : Int32 := 1
abbrev rm_X6_days : Room := { frames := 4, cells := 0, slots := 0, locals := 158 }
theorem nm_X6_days : gNm yX6_days 1 := ⟨by decide +kernel, by decide +kernel, by decide +kernel⟩
set_option maxHeartbeats 8000000 in
set_option maxRecDepth 100000 in
theorem c_X6_days (l : Launch) (hfl : l.stackTraces = false) (D : va_G) (tc : Nat → ClassId) (A : Nat → Prop) (w : gW) (ad : Nat → Nat) (d : gDt) (tk : Int64) (st : Nat → Int64) (x : Int32) (hM : mW tc w ad d tk st) (hOk : mOk d) : gM l yX6_days cX6_days 2 (some .int) rm_X6_days D tc A [.ref (ad 0), .int x] w (fun v w' => (m_go (ga_days d x) (gb_days d x) (gc_days d x) = 0 ∧ (∃ r, v = some (.int r)) ∧ mW tc w' ad (sL d (m_la (ga_days d x) (gb_days d x) (gc_days d x))) tk st ∧ gF w w') ∨ (¬ m_go (ga_days d x) (gb_days d x) (gc_days d x) = 0 ∧ v = some (.int (d 9 11 + x - (d 9 11 + x) / 5 * 5)) ∧ mW tc w' ad (sL (gD d 9 (upd (d 9) 11 (d 9 11 + x - (d 9 11 + x) / 5 * 5))) 0) tk st ∧ gF w w')) (fun _ => False) := by
  refine gM_of (by decide +kernel) (Nat.le_of_ble_eq_true rfl) ?_
  intro p e s m args below meth c ls Q hQ hE hG hr hnt hnm hl
  have hx := hE.1
  have hb := hE.2.1
  have hl : lv_has ls 2 [(0, .ref (ad 0)), (1, .int x)] := hl
  obtain ⟨o0, o1, o2, o3, o4, o5, o6, o7, o8, o9, o10⟩ := hM
  refine lv_aload_n hx hb dX6_days_0 rfl (lv_at hl 0 rfl) ?_
  refine lv_iload_n hx hb dX6_days_1 rfl (lv_at hl 1 rfl) ?_
  refine lv_iconst (v := 1) hx hb dX6_days_2 (by decide) ?_
  refine lv_bipush (v := 100) hx hb dX6_days_3 (by decide) ?_
  refine g_callS (rest := [.ref (ad 0)]) (As := [.int x, .int 1, .int 100]) hE hG hl.1 (c_X6_in l hfl D tc A w x 1 100 ) mw4_35 mw4_36 mw1_4 mw4_37 nm_X6_in ⟨⟨Nat.le_of_ble_eq_true rfl, Nat.le_of_ble_eq_true rfl⟩, Nat.le_of_ble_eq_true rfl, Nat.le_of_ble_eq_true rfl⟩ rfl rfl (Nat.le_of_ble_eq_true rfl) dX6_days_5 (g_no) ?_
  intro v9 w9 H locs h9 hG
  obtain ⟨e9, f9⟩ := h9
  rw [f9] at hG; rw [e9]; clear e9 f9
  show W p l e _ s m args below meth c H locs _ _ _ (F0 m 8 ls [.int (f_in x 1 100), .ref (ad 0)])
  refine lv_aload_n hx hb dX6_days_8 rfl (lv_at hl 0 rfl) ?_
  refine g_get hE hG o0 rfl inG6 6 (by decide) mw3_193 rfl dX6_days_9 ?_
  have j_2 : ∀ (v_1 : Int32) (H : Heap) (locs : List Loc), v_1 = (if (d 9 2) = 0 then 1 else 0 : Int32) → gS D A s.heap w H locs → W p l e rm_X6_days s m args below meth c H locs (0 + rm_X6_in.cells) (0 + rm_X6_in.slots) Q (F0 m 20 ls (.int v_1 :: [.int (f_in x 1 100), .ref (ad 0)])) := by
    intro v_1 H locs ev_1 hG
    refine lv_iconst (v := 1) hx hb dX6_days_20 (by decide) ?_
    refine g_callV (rest := []) (As := [.int (f_in x 1 100), .int v_1, .int 1]) hE hG hl.1 (c_X6_goes l hfl D tc A w ad d tk st (f_in x 1 100) v_1 1 ⟨o0, o1, o2, o3, o4, o5, o6, o7, o8, o9, o10⟩ ) o0 rfl mw4_38 mw4_40 mws_12 mw1_4 mw4_41 rfl nm_X6_goes ⟨⟨Nat.le_of_ble_eq_true rfl, Nat.le_of_ble_eq_true rfl⟩, Nat.le_of_ble_eq_true rfl, Nat.le_of_ble_eq_true rfl⟩ rfl rfl (Nat.le_of_ble_eq_true rfl) dX6_days_21 (g_no) ?_
    intro v9 w_3 H locs h9 hG
    obtain ⟨e9, ew_3⟩ := h9
    rw [e9]; clear e9
    show W p l e _ s m args below meth c H locs _ _ _ (F0 m 24 ls [.int (m_go (f_in x 1 100) v_1 1)])
    have h_4 : w_3 1001 = some ((ad 1), .inl (tc 0, 4, .inl (d 0))) := gU_n ew_3 (by decide) o1
    have h_5 : w_3 1002 = some ((ad 2), .inl (tc 0, 6, .inl (d 1))) := gU_n ew_3 (by decide) o2
    have h_6 : w_3 1003 = some ((ad 3), .inl (tc 0, 6, .inl (d 2))) := gU_n ew_3 (by decide) o3
    have h_7 : w_3 1004 = some ((ad 4), .inl (tc 0, 390, .inl (d 3))) := gU_n ew_3 (by decide) o4
    have h_8 : w_3 1005 = some ((ad 5), .inl (tc 1, 4, .inr (.inl st))) := gU_n ew_3 (by decide) o5
    have h_9 : w_3 1006 = some ((ad 6), .inl (tc 0, 32, .inl (d 4))) := gU_n ew_3 (by decide) o6
    have h_10 : w_3 1007 = some ((ad 7), .inl (tc 0, 4, .inl (d 5))) := gU_n ew_3 (by decide) o7
    have h_11 : w_3 1008 = some ((ad 8), .inl (tc 0, 8, .inl (d 6))) := gU_n ew_3 (by decide) o8
    have h_12 : w_3 1009 = some ((ad 9), .inl (tc 2, 48, .inl (d 7))) := gU_n ew_3 (by decide) o9
    have h_13 : w_3 1010 = some ((ad 10), .inl (tc 0, 3120, .inl (d 8))) := gU_n ew_3 (by decide) o10
    have h_14 : w_3 1000 = some ((ad 0), .inr (6, [.ref (ad 1), .int (d 9 0), .ref (ad 2), .ref (ad 3), .ref (ad 4), .int (d 9 1), .int (d 9 2), .int (d 9 3), .int (d 9 4), .int (d 9 5), .int (d 9 6), .int (d 9 7), .int (d 9 8), .int (d 9 9), .long tk, .ref (ad 5), .int (d 9 10), .int (d 9 11), .ref (ad 6), .ref (ad 7), .int (d 9 12), .ref (ad 8), .ref (ad 9), .ref (ad 10), .int (d 9 13), .int (m_la (f_in x 1 100) v_1 1)])) := gU_s ew_3
    refine lv_if_ne (tgt := 29) hx hb dX6_days_24 (by decide) (fun c_15 => ?_) (fun c_15 => ?_)
    · skip
      refine lv_aload_n hx hb dX6_days_29 rfl (lv_at hl 0 rfl) ?_
      refine lv_aload_n hx hb dX6_days_30 rfl (lv_at hl 0 rfl) ?_
      refine g_get hE hG h_14 rfl inG6 17 (by decide) mw3_204 rfl dX6_days_31 ?_
      refine lv_iload_n hx hb dX6_days_34 rfl (lv_at hl 1 rfl) ?_
      refine lv_iadd hx hb dX6_days_35 ?_
      refine lv_iconst (v := 5) hx hb dX6_days_36 (by decide) ?_
      refine lv_irem hx hb dX6_days_37 (by decide) ?_
      refine g_put hE hG h_14 rfl inG6 tyX6 tyX6_ok nmX6 17 (by decide) mw3_204 rfl rfl rfl (Nat.le_of_ble_eq_true rfl) dX6_days_38 (fun H locs w_16 ew_16 hG => ?_)
      have h_17 : w_16 1001 = some ((ad 1), .inl (tc 0, 4, .inl (d 0))) := gU_n ew_16 (by decide) h_4
      have h_18 : w_16 1002 = some ((ad 2), .inl (tc 0, 6, .inl (d 1))) := gU_n ew_16 (by decide) h_5
      have h_19 : w_16 1003 = some ((ad 3), .inl (tc 0, 6, .inl (d 2))) := gU_n ew_16 (by decide) h_6
      have h_20 : w_16 1004 = some ((ad 4), .inl (tc 0, 390, .inl (d 3))) := gU_n ew_16 (by decide) h_7
      have h_21 : w_16 1005 = some ((ad 5), .inl (tc 1, 4, .inr (.inl st))) := gU_n ew_16 (by decide) h_8
      have h_22 : w_16 1006 = some ((ad 6), .inl (tc 0, 32, .inl (d 4))) := gU_n ew_16 (by decide) h_9
      have h_23 : w_16 1007 = some ((ad 7), .inl (tc 0, 4, .inl (d 5))) := gU_n ew_16 (by decide) h_10
      have h_24 : w_16 1008 = some ((ad 8), .inl (tc 0, 8, .inl (d 6))) := gU_n ew_16 (by decide) h_11
      have h_25 : w_16 1009 = some ((ad 9), .inl (tc 2, 48, .inl (d 7))) := gU_n ew_16 (by decide) h_12
      have h_26 : w_16 1010 = some ((ad 10), .inl (tc 0, 3120, .inl (d 8))) := gU_n ew_16 (by decide) h_13
      have h_27 : w_16 1000 = some ((ad 0), .inr (6, [.ref (ad 1), .int (d 9 0), .ref (ad 2), .ref (ad 3), .ref (ad 4), .int (d 9 1), .int (d 9 2), .int (d 9 3), .int (d 9 4), .int (d 9 5), .int (d 9 6), .int (d 9 7), .int (d 9 8), .int (d 9 9), .long tk, .ref (ad 5), .int (d 9 10), .int (((d 9 11) + x) - ((d 9 11) + x) / 5 * 5), .ref (ad 6), .ref (ad 7), .int (d 9 12), .ref (ad 8), .ref (ad 9), .ref (ad 10), .int (d 9 13), .int (m_la (f_in x 1 100) v_1 1)])) := gU_s ew_16
      refine lv_aload_n hx hb dX6_days_41 rfl (lv_at hl 0 rfl) ?_
      refine g_get hE hG h_27 rfl inG6 17 (by decide) mw3_204 rfl dX6_days_42 ?_
      subst hQ
      have hg_v_1 : v_1 = gb_days d x := ev_1
      subst hg_v_1
      rw [m_la_ok c_15] at h_27
      exact g_iret hE hG hr (Nat.le_of_ble_eq_true rfl) (Nat.le_of_ble_eq_true rfl) dX6_days_45 (Or.inr ⟨c_15, rfl, ⟨h_27, h_17, h_18, h_19, h_20, h_21, h_22, h_23, h_24, h_25, h_26⟩, gF_u (gF_u (gF_rf w) ew_3 (by decide)) ew_16 (by decide)⟩)
    · skip
      refine lv_iconst (v := 0) hx hb dX6_days_27 (by decide) ?_
      subst hQ
      have hg_v_1 : v_1 = gb_days d x := ev_1
      subst hg_v_1
      exact g_iret hE hG hr (Nat.le_of_ble_eq_true rfl) (Nat.le_of_ble_eq_true rfl) dX6_days_28 (Or.inl ⟨c_15, ⟨_, rfl⟩, mW_mk h_14 h_4 h_5 h_6 h_7 h_8 h_9 h_10 h_11 h_12 h_13, gF_u (gF_rf w) ew_3 (by decide)⟩)
  refine lv_if_ne (tgt := 19) hx hb dX6_days_12 (by decide) (fun c_28 => ?_) (fun c_28 => ?_)
  · skip
    refine lv_iconst (v := 0) hx hb dX6_days_19 (by decide) ?_
    exact j_2 _ _ _ (by rw [if_neg c_28]) hG
  · skip
    refine lv_iconst (v := 1) hx hb dX6_days_15 (by decide) ?_
    refine lv_goto (tgt := 20) hx hb dX6_days_16 (by decide) ?_
    exact j_2 _ _ _ (by rw [if_pos c_28]) hG
def ga_strokes (d : gDt) (x : Int32) : Int32 := (m_isPart x)
def gb_strokes (d : gDt) (x : Int32) : Int32 := 1
def gc_strokes (d : gDt) (x : Int32) : Int32 := 1
abbrev rm_X6_strokes : Room := { frames := 4, cells := 0, slots := 0, locals := 158 }
theorem nm_X6_strokes : gNm yX6_strokes 1 := ⟨by decide +kernel, by decide +kernel, by decide +kernel⟩
set_option maxHeartbeats 8000000 in
set_option maxRecDepth 100000 in
theorem c_X6_strokes (l : Launch) (hfl : l.stackTraces = false) (D : va_G) (tc : Nat → ClassId) (A : Nat → Prop) (w : gW) (ad : Nat → Nat) (d : gDt) (tk : Int64) (st : Nat → Int64) (x : Int32) (hM : mW tc w ad d tk st) (hOk : mOk d) : gM l yX6_strokes cX6_strokes 2 (some .long) rm_X6_strokes D tc A [.ref (ad 0), .int x] w (fun v w' => (m_go (ga_strokes d x) (gb_strokes d x) (gc_strokes d x) = 0 ∧ (∃ r, v = some (.long r)) ∧ mW tc w' ad (sL d (m_la (ga_strokes d x) (gb_strokes d x) (gc_strokes d x))) tk st ∧ gF w w') ∨ (¬ m_go (ga_strokes d x) (gb_strokes d x) (gc_strokes d x) = 0 ∧ v = some (.long (st x.toNatClampNeg)) ∧ mW tc w' ad (sL d 0) tk st ∧ gF w w')) (fun _ => False) := by
  refine gM_of (by decide +kernel) (Nat.le_of_ble_eq_true rfl) ?_
  intro p e s m args below meth c ls Q hQ hE hG hr hnt hnm hl
  have hx := hE.1
  have hb := hE.2.1
  have hl : lv_has ls 2 [(0, .ref (ad 0)), (1, .int x)] := hl
  obtain ⟨o0, o1, o2, o3, o4, o5, o6, o7, o8, o9, o10⟩ := hM
  refine lv_aload_n hx hb dX6_strokes_0 rfl (lv_at hl 0 rfl) ?_
  refine lv_iload_n hx hb dX6_strokes_1 rfl (lv_at hl 1 rfl) ?_
  refine g_callS (rest := [.ref (ad 0)]) (As := [.int x]) hE hG hl.1 (c_X6_isPart l hfl D tc A w x ) mw4_86 mw4_87 mw1_4 mw4_88 nm_X6_isPart ⟨⟨Nat.le_of_ble_eq_true rfl, Nat.le_of_ble_eq_true rfl⟩, Nat.le_of_ble_eq_true rfl, Nat.le_of_ble_eq_true rfl⟩ rfl rfl (Nat.le_of_ble_eq_true rfl) dX6_strokes_2 (g_no) ?_
  intro v9 w9 H locs h9 hG
  obtain ⟨e9, f9⟩ := h9
  rw [f9] at hG; rw [e9]; clear e9 f9
  show W p l e _ s m args below meth c H locs _ _ _ (F0 m 5 ls [.int (m_isPart x), .ref (ad 0)])
  refine lv_iconst (v := 1) hx hb dX6_strokes_5 (by decide) ?_
  refine lv_iconst (v := 1) hx hb dX6_strokes_6 (by decide) ?_
  refine g_callV (rest := []) (As := [.int (m_isPart x), .int 1, .int 1]) hE hG hl.1 (c_X6_goes l hfl D tc A w ad d tk st (m_isPart x) 1 1 ⟨o0, o1, o2, o3, o4, o5, o6, o7, o8, o9, o10⟩ ) o0 rfl mw4_38 mw4_40 mws_12 mw1_4 mw4_41 rfl nm_X6_goes ⟨⟨Nat.le_of_ble_eq_true rfl, Nat.le_of_ble_eq_true rfl⟩, Nat.le_of_ble_eq_true rfl, Nat.le_of_ble_eq_true rfl⟩ rfl rfl (Nat.le_of_ble_eq_true rfl) dX6_strokes_7 (g_no) ?_
  intro v9 w_1 H locs h9 hG
  obtain ⟨e9, ew_1⟩ := h9
  rw [e9]; clear e9
  show W p l e _ s m args below meth c H locs _ _ _ (F0 m 10 ls [.int (m_go (m_isPart x) 1 1)])
  have h_2 : w_1 1001 = some ((ad 1), .inl (tc 0, 4, .inl (d 0))) := gU_n ew_1 (by decide) o1
  have h_3 : w_1 1002 = some ((ad 2), .inl (tc 0, 6, .inl (d 1))) := gU_n ew_1 (by decide) o2
  have h_4 : w_1 1003 = some ((ad 3), .inl (tc 0, 6, .inl (d 2))) := gU_n ew_1 (by decide) o3
  have h_5 : w_1 1004 = some ((ad 4), .inl (tc 0, 390, .inl (d 3))) := gU_n ew_1 (by decide) o4
  have h_6 : w_1 1005 = some ((ad 5), .inl (tc 1, 4, .inr (.inl st))) := gU_n ew_1 (by decide) o5
  have h_7 : w_1 1006 = some ((ad 6), .inl (tc 0, 32, .inl (d 4))) := gU_n ew_1 (by decide) o6
  have h_8 : w_1 1007 = some ((ad 7), .inl (tc 0, 4, .inl (d 5))) := gU_n ew_1 (by decide) o7
  have h_9 : w_1 1008 = some ((ad 8), .inl (tc 0, 8, .inl (d 6))) := gU_n ew_1 (by decide) o8
  have h_10 : w_1 1009 = some ((ad 9), .inl (tc 2, 48, .inl (d 7))) := gU_n ew_1 (by decide) o9
  have h_11 : w_1 1010 = some ((ad 10), .inl (tc 0, 3120, .inl (d 8))) := gU_n ew_1 (by decide) o10
  have h_12 : w_1 1000 = some ((ad 0), .inr (6, [.ref (ad 1), .int (d 9 0), .ref (ad 2), .ref (ad 3), .ref (ad 4), .int (d 9 1), .int (d 9 2), .int (d 9 3), .int (d 9 4), .int (d 9 5), .int (d 9 6), .int (d 9 7), .int (d 9 8), .int (d 9 9), .long tk, .ref (ad 5), .int (d 9 10), .int (d 9 11), .ref (ad 6), .ref (ad 7), .int (d 9 12), .ref (ad 8), .ref (ad 9), .ref (ad 10), .int (d 9 13), .int (m_la (m_isPart x) 1 1)])) := gU_s ew_1
  refine lv_if_eq (tgt := 22) hx hb dX6_strokes_10 (by decide) (fun c_13 => ?_) (fun c_13 => ?_)
  · skip
    refine lv_lconst (v := 0) hx hb dX6_strokes_22 (by decide) ?_
    subst hQ
    exact g_lret hE hG hr (Nat.le_of_ble_eq_true rfl) (Nat.le_of_ble_eq_true rfl) dX6_strokes_23 (Or.inl ⟨c_13, ⟨_, rfl⟩, mW_mk h_12 h_2 h_3 h_4 h_5 h_6 h_7 h_8 h_9 h_10 h_11, gF_u (gF_rf w) ew_1 (by decide)⟩)
  · skip
    refine lv_aload_n hx hb dX6_strokes_13 rfl (lv_at hl 0 rfl) ?_
    refine g_get hE hG h_12 rfl inG6 15 (by decide) mw3_202 rfl dX6_strokes_14 ?_
    refine lv_iload_n hx hb dX6_strokes_17 rfl (lv_at hl 1 rfl) ?_
    refine g_lald hE hG h_6 (ix_part (m_go_ne c_13).1) dX6_strokes_18 ?_
    refine lv_goto (tgt := 23) hx hb dX6_strokes_19 (by decide) ?_
    subst hQ
    rw [m_la_ok c_13] at h_12
    exact g_lret hE hG hr (Nat.le_of_ble_eq_true rfl) (Nat.le_of_ble_eq_true rfl) dX6_strokes_23 (Or.inr ⟨c_13, rfl, ⟨h_12, h_2, h_3, h_4, h_5, h_6, h_7, h_8, h_9, h_10, h_11⟩, gF_u (gF_rf w) ew_1 (by decide)⟩)
