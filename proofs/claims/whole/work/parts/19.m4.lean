/-! GongCyclesModel: a beat -/
def m_npl (n pl : Int32) : Int32 := if pl = n then 1 else pl + 1
def m_nbl (dr b : Int32) : Int32 := if b + (if dr = 0 then 0 else (if dr = 1 then 2 else (-2))) ≤ 160 then (if 10 ≤ b + (if dr = 0 then 0 else (if dr = 1 then 2 else (-2))) then b + (if dr = 0 then 0 else (if dr = 1 then 2 else (-2))) else 10) else 160
def m_lvl (b : Int32) : Int32 := if b < 160 then (if b < 80 then (if b < 40 then 0 else 1) else 2) else 3
def m_sts (lv : Int32) (st : Nat → Int64) : Nat → Int64 := fun j => if j < 4 then st j + (m_den (nI j) lv).toInt64 else st j
def mLen (d : gDt) : Int32 := nI (lenN d (d 9 3).toNatClampNeg)
def mPl (d : gDt) : Int32 := m_npl (mLen d) (d 9 4)
def mBl (d : gDt) : Int32 := m_nbl (d 9 8) (d 9 5)
/-- the numbers behind a beat -/
def mB (d : gDt) : gDt := gD d 9 (if mPl d = mLen d then upd (upd (upd (upd (upd (d 9) 4 (mPl d)) 5 (mBl d)) 6 (m_lvl (mBl d))) 7 (d 9 7 + 1)) 2 (if d 9 7 + 1 = d 9 9 then 0 else 1) else upd (upd (d 9) 4 (mPl d)) 5 (mBl d))
theorem m_sts_eq (lv : Int32) (st : Nat → Int64) : (vp_updL (vp_updL (vp_updL (vp_updL st (0 : Int32).toNatClampNeg (st (0 : Int32).toNatClampNeg + (m_den 0 lv).toInt64)) (1 : Int32).toNatClampNeg ((vp_updL st (0 : Int32).toNatClampNeg (st (0 : Int32).toNatClampNeg + (m_den 0 lv).toInt64)) (1 : Int32).toNatClampNeg + (m_den 1 lv).toInt64)) (2 : Int32).toNatClampNeg ((vp_updL (vp_updL st (0 : Int32).toNatClampNeg (st (0 : Int32).toNatClampNeg + (m_den 0 lv).toInt64)) (1 : Int32).toNatClampNeg ((vp_updL st (0 : Int32).toNatClampNeg (st (0 : Int32).toNatClampNeg + (m_den 0 lv).toInt64)) (1 : Int32).toNatClampNeg + (m_den 1 lv).toInt64)) (2 : Int32).toNatClampNeg + (m_den 2 lv).toInt64)) (3 : Int32).toNatClampNeg ((vp_updL (vp_updL (vp_updL st (0 : Int32).toNatClampNeg (st (0 : Int32).toNatClampNeg + (m_den 0 lv).toInt64)) (1 : Int32).toNatClampNeg ((vp_updL st (0 : Int32).toNatClampNeg (st (0 : Int32).toNatClampNeg + (m_den 0 lv).toInt64)) (1 : Int32).toNatClampNeg + (m_den 1 lv).toInt64)) (2 : Int32).toNatClampNeg ((vp_updL (vp_updL st (0 : Int32).toNatClampNeg (st (0 : Int32).toNatClampNeg + (m_den 0 lv).toInt64)) (1 : Int32).toNatClampNeg ((vp_updL st (0 : Int32).toNatClampNeg (st (0 : Int32).toNatClampNeg + (m_den 0 lv).toInt64)) (1 : Int32).toNatClampNeg + (m_den 1 lv).toInt64)) (2 : Int32).toNatClampNeg + (m_den 2 lv).toInt64)) (3 : Int32).toNatClampNeg + (m_den 3 lv).toInt64)) = m_sts lv st := by
  have e0 : (0 : Int32).toNatClampNeg = 0 := by decide
  have e1 : (1 : Int32).toNatClampNeg = 1 := by decide
  have e2 : (2 : Int32).toNatClampNeg = 2 := by decide
  have e3 : (3 : Int32).toNatClampNeg = 3 := by decide
  have n0 : nI 0 = 0 := rfl
  have n1 : nI 1 = 1 := rfl
  have n2 : nI 2 = 2 := rfl
  have n3 : nI 3 = 3 := rfl
  rw [e0, e1, e2, e3]
  funext j
  unfold m_sts vp_updL
  by_cases h3 : j = 3
  · subst h3; simp [n3]
  · by_cases h2 : j = 2
    · subst h2; simp [n2]
    · by_cases h1 : j = 1
      · subst h1; simp [n1]
      · by_cases h0 : j = 0
        · subst h0; simp [n0]
        · simp [h0, h1, h2, h3, show ¬ j < 4 by omega]
abbrev rm_X6_playsBeat : Room := { frames := 2, cells := 0, slots := 0, locals := 86 }
theorem nm_X6_playsBeat : gNm yX6_playsBeat 0 := ⟨by decide +kernel, by decide +kernel, by decide +kernel⟩
set_option maxHeartbeats 4000000 in
set_option maxRecDepth 100000 in
theorem c_X6_playsBeat (l : Launch) (hfl : l.stackTraces = false) (D : va_G) (tc : Nat → ClassId) (A : Nat → Prop) (w : gW) (ad : Nat → Nat) (d : gDt) (tk : Int64) (st : Nat → Int64) (hM : mW tc w ad d tk st) (hOk : mOk d) (hi : ∃ i, i < nP d ∧ d 9 3 = nI i) : gM l yX6_playsBeat cX6_playsBeat 2 none rm_X6_playsBeat D tc A [.ref (ad 0)] w (fun v w' => v = none ∧ mW tc w' ad (mB d) (tk + (d 9 5).toInt64) (m_sts (d 9 6) st) ∧ gF w w') (fun _ => False) := by
  refine gM_of (by decide +kernel) (Nat.le_of_ble_eq_true rfl) ?_
  intro p e s m args below meth c ls Q hQ hE hG hr hnt hnm hl
  have hx := hE.1
  have hb := hE.2.1
  have hl : lv_has ls 2 [(0, .ref (ad 0))] := hl
  obtain ⟨i, hi, hcur⟩ := hi
  have hcl : mLen d = nI (lenN d i) := by unfold mLen; rw [hcur, nI_clamp (by have := hOk.1.2.1; omega)]
  obtain ⟨o0, o1, o2, o3, o4, o5, o6, o7, o8, o9, o10⟩ := hM
  refine lv_aload_n hx hb dX6_playsBeat_0 rfl (lv_at hl 0 rfl) ?_
  refine lv_aload_n hx hb dX6_playsBeat_1 rfl (lv_at hl 0 rfl) ?_
  refine g_get hE hG o0 rfl inG6 8 (by decide) mw3_195 rfl dX6_playsBeat_2 ?_
  refine lv_aload_n hx hb dX6_playsBeat_5 rfl (lv_at hl 0 rfl) ?_
  refine lv_aload_n hx hb dX6_playsBeat_6 rfl (lv_at hl 0 rfl) ?_
  refine g_get hE hG o0 rfl inG6 7 (by decide) mw3_194 rfl dX6_playsBeat_7 ?_
  rw [hcur]
  refine g_callV (rest := [.int (d 9 4), .ref (ad 0)]) (As := [.int (nI i)]) hE hG hl.1 (c_X6_lengthOf l hfl D tc A w ad d tk st i ⟨o0, o1, o2, o3, o4, o5, o6, o7, o8, o9, o10⟩ hOk hi) o0 rfl mw4_66 mw4_68 mws_16 mw1_4 mw4_69 rfl nm_X6_lengthOf ⟨⟨Nat.le_of_ble_eq_true rfl, Nat.le_of_ble_eq_true rfl⟩, Nat.le_of_ble_eq_true rfl, Nat.le_of_ble_eq_true rfl⟩ rfl rfl (Nat.le_of_ble_eq_true rfl) dX6_playsBeat_10 (g_no) ?_
  intro v9 w9 H locs h9 hG
  obtain ⟨e9, f9⟩ := h9
  rw [f9] at hG; rw [e9]; clear e9 f9
  show W p l e _ s m args below meth c H locs _ _ _ (F0 m 13 ls [.int (nI (lenN d i)), .int (d 9 4), .ref (ad 0)])
  have j_2 : ∀ (v_1 : Int32) (H : Heap) (locs : List Loc), v_1 = (if (d 9 4) = (nI (lenN d i)) then 1 else ((d 9 4) + 1) : Int32) → gS D A s.heap w H locs → W p l e rm_X6_playsBeat s m args below meth c H locs (0 + rm_X6_lengthOf.cells) (0 + rm_X6_lengthOf.slots) Q (F0 m 26 ls (.int v_1 :: [.ref (ad 0)])) := by
    intro v_1 H locs ev_1 hG
    refine g_put hE hG o0 rfl inG6 tyX6 tyX6_ok nmX6 8 (by decide) mw3_195 rfl rfl rfl (Nat.le_of_ble_eq_true rfl) dX6_playsBeat_26 (fun H locs w_3 ew_3 hG => ?_)
    have h_4 : w_3 1001 = some ((ad 1), .inl (tc 0, 4, .inl (d 0))) := gU_n ew_3 (by decide) o1
    have h_5 : w_3 1002 = some ((ad 2), .inl (tc 0, 6, .inl (d 1))) := gU_n ew_3 (by decide) o2
    have h_6 : w_3 1003 = some ((ad 3), .inl (tc 0, 6, .inl (d 2))) := gU_n ew_3 (by decide) o3
    have h_7 : w_3 1004 = some ((ad 4), .inl (tc 0, 390, .inl (d 3))) := gU_n ew_3 (by decide) o4
    have h_8 : w_3 1005 = some ((ad 5), .inl (tc 1, 4, .inr (.inl st))) := gU_n ew_3 (by decide) o5
    have h_9 : w_3 1006 = some ((ad 6), .inl (tc 0, 32, .inl (d 4))) := gU_n ew_3 (by decide) o6
    have h_10 : w_3 1007 = some ((ad 7), .inl (tc 0, 4, .inl (d 5))) := gU_n ew_3 (by decide) o7
    have h_11 : w_3 1008 = some ((ad 8), .inl (tc 0, 8, .inl (d 6))) := gU_n ew_3 (by decide) o8
    have h_12 : w_3 1009 = some ((ad 9), .inl (tc 2, 48, .inl (d 7))) := gU_n ew_3 (by decide) o9
    have h_13 : w_3 1010 = some ((ad 10), .inl (tc 0, 3120, .inl (d 8))) := gU_n ew_3 (by decide) o10
    have h_14 : w_3 1000 = some ((ad 0), .inr (6, [.ref (ad 1), .int (d 9 0), .ref (ad 2), .ref (ad 3), .ref (ad 4), .int (d 9 1), .int (d 9 2), .int (d 9 3), .int v_1, .int (d 9 5), .int (d 9 6), .int (d 9 7), .int (d 9 8), .int (d 9 9), .long tk, .ref (ad 5), .int (d 9 10), .int (d 9 11), .ref (ad 6), .ref (ad 7), .int (d 9 12), .ref (ad 8), .ref (ad 9), .ref (ad 10), .int (d 9 13), .int (d 9 14)])) := gU_s ew_3
    refine lv_aload_n hx hb dX6_playsBeat_29 rfl (lv_at hl 0 rfl) ?_
    refine lv_dup hx hb dX6_playsBeat_30 rfl ?_
    refine g_get hE hG h_14 rfl inG6 14 (by decide) mw3_201 rfl dX6_playsBeat_31 ?_
    refine lv_aload_n hx hb dX6_playsBeat_34 rfl (lv_at hl 0 rfl) ?_
    refine g_get hE hG h_14 rfl inG6 9 (by decide) mw3_196 rfl dX6_playsBeat_35 ?_
    refine lv_i2l (v := (d 9 5).toInt64) hx hb dX6_playsBeat_38 rfl ?_
    refine lv_ladd hx hb dX6_playsBeat_39 ?_
    refine g_put hE hG h_14 rfl inG6 tyX6 tyX6_ok nmX6 14 (by decide) mw3_201 rfl rfl rfl (Nat.le_of_ble_eq_true rfl) dX6_playsBeat_40 (fun H locs w_15 ew_15 hG => ?_)
    have h_16 : w_15 1001 = some ((ad 1), .inl (tc 0, 4, .inl (d 0))) := gU_n ew_15 (by decide) h_4
    have h_17 : w_15 1002 = some ((ad 2), .inl (tc 0, 6, .inl (d 1))) := gU_n ew_15 (by decide) h_5
    have h_18 : w_15 1003 = some ((ad 3), .inl (tc 0, 6, .inl (d 2))) := gU_n ew_15 (by decide) h_6
    have h_19 : w_15 1004 = some ((ad 4), .inl (tc 0, 390, .inl (d 3))) := gU_n ew_15 (by decide) h_7
    have h_20 : w_15 1005 = some ((ad 5), .inl (tc 1, 4, .inr (.inl st))) := gU_n ew_15 (by decide) h_8
    have h_21 : w_15 1006 = some ((ad 6), .inl (tc 0, 32, .inl (d 4))) := gU_n ew_15 (by decide) h_9
    have h_22 : w_15 1007 = some ((ad 7), .inl (tc 0, 4, .inl (d 5))) := gU_n ew_15 (by decide) h_10
    have h_23 : w_15 1008 = some ((ad 8), .inl (tc 0, 8, .inl (d 6))) := gU_n ew_15 (by decide) h_11
    have h_24 : w_15 1009 = some ((ad 9), .inl (tc 2, 48, .inl (d 7))) := gU_n ew_15 (by decide) h_12
    have h_25 : w_15 1010 = some ((ad 10), .inl (tc 0, 3120, .inl (d 8))) := gU_n ew_15 (by decide) h_13
    have h_26 : w_15 1000 = some ((ad 0), .inr (6, [.ref (ad 1), .int (d 9 0), .ref (ad 2), .ref (ad 3), .ref (ad 4), .int (d 9 1), .int (d 9 2), .int (d 9 3), .int v_1, .int (d 9 5), .int (d 9 6), .int (d 9 7), .int (d 9 8), .int (d 9 9), .long (tk + ((d 9 5).toInt64)), .ref (ad 5), .int (d 9 10), .int (d 9 11), .ref (ad 6), .ref (ad 7), .int (d 9 12), .ref (ad 8), .ref (ad 9), .ref (ad 10), .int (d 9 13), .int (d 9 14)])) := gU_s ew_15
    refine lv_iconst (v := 0) hx hb dX6_playsBeat_43 (by decide) ?_
    refine lv_istore_n (lv' := [(1, .int 0), (0, .ref (ad 0))]) hx hb dX6_playsBeat_44 rfl hl (by decide) rfl (fun ls hl => ?_)
    refine lv_iload_n hx hb dX6_playsBeat_45 rfl (lv_at hl 0 rfl) ?_
    refine lv_iconst (v := 4) hx hb dX6_playsBeat_46 (by decide) ?_
    refine lv_icmp_ge (tgt := 74) hx hb dX6_playsBeat_47 (by decide) (fun c9 => absurd c9 (by decide)) (fun _ => ?_)
    refine lv_aload_n hx hb dX6_playsBeat_50 rfl (lv_at hl 1 rfl) ?_
    refine g_get hE hG h_26 rfl inG6 15 (by decide) mw3_202 rfl dX6_playsBeat_51 ?_
    refine lv_iload_n hx hb dX6_playsBeat_54 rfl (lv_at hl 0 rfl) ?_
    refine lv_dup2_11 hx hb dX6_playsBeat_55 rfl rfl ?_
    refine g_lald hE hG h_20 (vp_in_nI (n := 0) (N := 4) (by decide) (by decide)) dX6_playsBeat_56 ?_
    refine lv_iload_n hx hb dX6_playsBeat_57 rfl (lv_at hl 0 rfl) ?_
    refine lv_aload_n hx hb dX6_playsBeat_58 rfl (lv_at hl 1 rfl) ?_
    refine g_get hE hG h_26 rfl inG6 10 (by decide) mw3_197 rfl dX6_playsBeat_59 ?_
    refine g_callS (rest := [.long (st (0 : Int32).toNatClampNeg), .int 0, .ref (ad 5)]) (As := [.int 0, .int (d 9 6)]) hE hG hl.1 (c_X6_density l hfl D tc A w_15 0 (d 9 6) ) mw4_89 mw4_90 mw1_4 mw4_91 nm_X6_density ⟨⟨Nat.le_of_ble_eq_true rfl, Nat.le_of_ble_eq_true rfl⟩, Nat.le_of_ble_eq_true rfl, Nat.le_of_ble_eq_true rfl⟩ rfl rfl (Nat.le_of_ble_eq_true rfl) dX6_playsBeat_62 (g_no) ?_
    intro v9 w9 H locs h9 hG
    obtain ⟨e9, f9⟩ := h9
    rw [f9] at hG; rw [e9]; clear e9 f9
    show W p l e _ s m args below meth c H locs _ _ _ (F0 m 65 ls [.int (m_den 0 (d 9 6)), .long (st (0 : Int32).toNatClampNeg), .int 0, .ref (ad 5)])
    refine lv_i2l (v := (m_den 0 (d 9 6)).toInt64) hx hb dX6_playsBeat_65 rfl ?_
    refine lv_ladd hx hb dX6_playsBeat_66 ?_
    refine g_last hE hG h_20 (vp_in_nI (n := 0) (N := 4) (by decide) (by decide)) dX6_playsBeat_67 (fun H locs w_27 ew_27 hG => ?_)
    have h_28 : w_27 1001 = some ((ad 1), .inl (tc 0, 4, .inl (d 0))) := gU_n ew_27 (by decide) h_16
    have h_29 : w_27 1002 = some ((ad 2), .inl (tc 0, 6, .inl (d 1))) := gU_n ew_27 (by decide) h_17
    have h_30 : w_27 1003 = some ((ad 3), .inl (tc 0, 6, .inl (d 2))) := gU_n ew_27 (by decide) h_18
    have h_31 : w_27 1004 = some ((ad 4), .inl (tc 0, 390, .inl (d 3))) := gU_n ew_27 (by decide) h_19
    have h_32 : w_27 1006 = some ((ad 6), .inl (tc 0, 32, .inl (d 4))) := gU_n ew_27 (by decide) h_21
    have h_33 : w_27 1007 = some ((ad 7), .inl (tc 0, 4, .inl (d 5))) := gU_n ew_27 (by decide) h_22
    have h_34 : w_27 1008 = some ((ad 8), .inl (tc 0, 8, .inl (d 6))) := gU_n ew_27 (by decide) h_23
    have h_35 : w_27 1009 = some ((ad 9), .inl (tc 2, 48, .inl (d 7))) := gU_n ew_27 (by decide) h_24
    have h_36 : w_27 1010 = some ((ad 10), .inl (tc 0, 3120, .inl (d 8))) := gU_n ew_27 (by decide) h_25
    have h_37 : w_27 1000 = some ((ad 0), .inr (6, [.ref (ad 1), .int (d 9 0), .ref (ad 2), .ref (ad 3), .ref (ad 4), .int (d 9 1), .int (d 9 2), .int (d 9 3), .int v_1, .int (d 9 5), .int (d 9 6), .int (d 9 7), .int (d 9 8), .int (d 9 9), .long (tk + ((d 9 5).toInt64)), .ref (ad 5), .int (d 9 10), .int (d 9 11), .ref (ad 6), .ref (ad 7), .int (d 9 12), .ref (ad 8), .ref (ad 9), .ref (ad 10), .int (d 9 13), .int (d 9 14)])) := gU_n ew_27 (by decide) h_26
    have h_38 : w_27 1005 = some ((ad 5), .inl (tc 1, 4, .inr (.inl (vp_updL st (0 : Int32).toNatClampNeg ((st (0 : Int32).toNatClampNeg) + ((m_den 0 (d 9 6)).toInt64)))))) := gU_s ew_27
    refine lv_iinc (v := 1) (lv' := [(1, .int 1), (0, .ref (ad 0))]) hx hb dX6_playsBeat_68 hl (k := 0) rfl (by decide) (by decide) rfl (fun ls hl => ?_)
    refine lv_goto (tgt := 45) hx hb dX6_playsBeat_71 (by decide) ?_
    refine lv_iload_n hx hb dX6_playsBeat_45 rfl (lv_at hl 0 rfl) ?_
    refine lv_iconst (v := 4) hx hb dX6_playsBeat_46 (by decide) ?_
    refine lv_icmp_ge (tgt := 74) hx hb dX6_playsBeat_47 (by decide) (fun c9 => absurd c9 (by decide)) (fun _ => ?_)
    refine lv_aload_n hx hb dX6_playsBeat_50 rfl (lv_at hl 1 rfl) ?_
    refine g_get hE hG h_37 rfl inG6 15 (by decide) mw3_202 rfl dX6_playsBeat_51 ?_
    refine lv_iload_n hx hb dX6_playsBeat_54 rfl (lv_at hl 0 rfl) ?_
    refine lv_dup2_11 hx hb dX6_playsBeat_55 rfl rfl ?_
    refine g_lald hE hG h_38 (vp_in_nI (n := 1) (N := 4) (by decide) (by decide)) dX6_playsBeat_56 ?_
    refine lv_iload_n hx hb dX6_playsBeat_57 rfl (lv_at hl 0 rfl) ?_
    refine lv_aload_n hx hb dX6_playsBeat_58 rfl (lv_at hl 1 rfl) ?_
    refine g_get hE hG h_37 rfl inG6 10 (by decide) mw3_197 rfl dX6_playsBeat_59 ?_
    refine g_callS (rest := [.long ((vp_updL st (0 : Int32).toNatClampNeg ((st (0 : Int32).toNatClampNeg) + ((m_den 0 (d 9 6)).toInt64))) (1 : Int32).toNatClampNeg), .int 1, .ref (ad 5)]) (As := [.int 1, .int (d 9 6)]) hE hG hl.1 (c_X6_density l hfl D tc A w_27 1 (d 9 6) ) mw4_89 mw4_90 mw1_4 mw4_91 nm_X6_density ⟨⟨Nat.le_of_ble_eq_true rfl, Nat.le_of_ble_eq_true rfl⟩, Nat.le_of_ble_eq_true rfl, Nat.le_of_ble_eq_true rfl⟩ rfl rfl (Nat.le_of_ble_eq_true rfl) dX6_playsBeat_62 (g_no) ?_
    intro v9 w9 H locs h9 hG
    obtain ⟨e9, f9⟩ := h9
    rw [f9] at hG; rw [e9]; clear e9 f9
    show W p l e _ s m args below meth c H locs _ _ _ (F0 m 65 ls [.int (m_den 1 (d 9 6)), .long ((vp_updL st (0 : Int32).toNatClampNeg ((st (0 : Int32).toNatClampNeg) + ((m_den 0 (d 9 6)).toInt64))) (1 : Int32).toNatClampNeg), .int 1, .ref (ad 5)])
    refine lv_i2l (v := (m_den 1 (d 9 6)).toInt64) hx hb dX6_playsBeat_65 rfl ?_
    refine lv_ladd hx hb dX6_playsBeat_66 ?_
    refine g_last hE hG h_38 (vp_in_nI (n := 1) (N := 4) (by decide) (by decide)) dX6_playsBeat_67 (fun H locs w_39 ew_39 hG => ?_)
    have h_40 : w_39 1001 = some ((ad 1), .inl (tc 0, 4, .inl (d 0))) := gU_n ew_39 (by decide) h_28
    have h_41 : w_39 1002 = some ((ad 2), .inl (tc 0, 6, .inl (d 1))) := gU_n ew_39 (by decide) h_29
    have h_42 : w_39 1003 = some ((ad 3), .inl (tc 0, 6, .inl (d 2))) := gU_n ew_39 (by decide) h_30
    have h_43 : w_39 1004 = some ((ad 4), .inl (tc 0, 390, .inl (d 3))) := gU_n ew_39 (by decide) h_31
    have h_44 : w_39 1006 = some ((ad 6), .inl (tc 0, 32, .inl (d 4))) := gU_n ew_39 (by decide) h_32
    have h_45 : w_39 1007 = some ((ad 7), .inl (tc 0, 4, .inl (d 5))) := gU_n ew_39 (by decide) h_33
    have h_46 : w_39 1008 = some ((ad 8), .inl (tc 0, 8, .inl (d 6))) := gU_n ew_39 (by decide) h_34
    have h_47 : w_39 1009 = some ((ad 9), .inl (tc 2, 48, .inl (d 7))) := gU_n ew_39 (by decide) h_35
    have h_48 : w_39 1010 = some ((ad 10), .inl (tc 0, 3120, .inl (d 8))) := gU_n ew_39 (by decide) h_36
    have h_49 : w_39 1000 = some ((ad 0), .inr (6, [.ref (ad 1), .int (d 9 0), .ref (ad 2), .ref (ad 3), .ref (ad 4), .int (d 9 1), .int (d 9 2), .int (d 9 3), .int v_1, .int (d 9 5), .int (d 9 6), .int (d 9 7), .int (d 9 8), .int (d 9 9), .long (tk + ((d 9 5).toInt64)), .ref (ad 5), .int (d 9 10), .int (d 9 11), .ref (ad 6), .ref (ad 7), .int (d 9 12), .ref (ad 8), .ref (ad 9), .ref (ad 10), .int (d 9 13), .int (d 9 14)])) := gU_n ew_39 (by decide) h_37
    have h_50 : w_39 1005 = some ((ad 5), .inl (tc 1, 4, .inr (.inl (vp_updL (vp_updL st (0 : Int32).toNatClampNeg ((st (0 : Int32).toNatClampNeg) + ((m_den 0 (d 9 6)).toInt64))) (1 : Int32).toNatClampNeg (((vp_updL st (0 : Int32).toNatClampNeg ((st (0 : Int32).toNatClampNeg) + ((m_den 0 (d 9 6)).toInt64))) (1 : Int32).toNatClampNeg) + ((m_den 1 (d 9 6)).toInt64)))))) := gU_s ew_39
    refine lv_iinc (v := 2) (lv' := [(1, .int 2), (0, .ref (ad 0))]) hx hb dX6_playsBeat_68 hl (k := 0) rfl (by decide) (by decide) rfl (fun ls hl => ?_)
    refine lv_goto (tgt := 45) hx hb dX6_playsBeat_71 (by decide) ?_
    refine lv_iload_n hx hb dX6_playsBeat_45 rfl (lv_at hl 0 rfl) ?_
    refine lv_iconst (v := 4) hx hb dX6_playsBeat_46 (by decide) ?_
    refine lv_icmp_ge (tgt := 74) hx hb dX6_playsBeat_47 (by decide) (fun c9 => absurd c9 (by decide)) (fun _ => ?_)
    refine lv_aload_n hx hb dX6_playsBeat_50 rfl (lv_at hl 1 rfl) ?_
    refine g_get hE hG h_49 rfl inG6 15 (by decide) mw3_202 rfl dX6_playsBeat_51 ?_
    refine lv_iload_n hx hb dX6_playsBeat_54 rfl (lv_at hl 0 rfl) ?_
    refine lv_dup2_11 hx hb dX6_playsBeat_55 rfl rfl ?_
    refine g_lald hE hG h_50 (vp_in_nI (n := 2) (N := 4) (by decide) (by decide)) dX6_playsBeat_56 ?_
    refine lv_iload_n hx hb dX6_playsBeat_57 rfl (lv_at hl 0 rfl) ?_
    refine lv_aload_n hx hb dX6_playsBeat_58 rfl (lv_at hl 1 rfl) ?_
    refine g_get hE hG h_49 rfl inG6 10 (by decide) mw3_197 rfl dX6_playsBeat_59 ?_
    refine g_callS (rest := [.long ((vp_updL (vp_updL st (0 : Int32).toNatClampNeg ((st (0 : Int32).toNatClampNeg) + ((m_den 0 (d 9 6)).toInt64))) (1 : Int32).toNatClampNeg (((vp_updL st (0 : Int32).toNatClampNeg ((st (0 : Int32).toNatClampNeg) + ((m_den 0 (d 9 6)).toInt64))) (1 : Int32).toNatClampNeg) + ((m_den 1 (d 9 6)).toInt64))) (2 : Int32).toNatClampNeg), .int 2, .ref (ad 5)]) (As := [.int 2, .int (d 9 6)]) hE hG hl.1 (c_X6_density l hfl D tc A w_39 2 (d 9 6) ) mw4_89 mw4_90 mw1_4 mw4_91 nm_X6_density ⟨⟨Nat.le_of_ble_eq_true rfl, Nat.le_of_ble_eq_true rfl⟩, Nat.le_of_ble_eq_true rfl, Nat.le_of_ble_eq_true rfl⟩ rfl rfl (Nat.le_of_ble_eq_true rfl) dX6_playsBeat_62 (g_no) ?_
    intro v9 w9 H locs h9 hG
    obtain ⟨e9, f9⟩ := h9
    rw [f9] at hG; rw [e9]; clear e9 f9
    show W p l e _ s m args below meth c H locs _ _ _ (F0 m 65 ls [.int (m_den 2 (d 9 6)), .long ((vp_updL (vp_updL st (0 : Int32).toNatClampNeg ((st (0 : Int32).toNatClampNeg) + ((m_den 0 (d 9 6)).toInt64))) (1 : Int32).toNatClampNeg (((vp_updL st (0 : Int32).toNatClampNeg ((st (0 : Int32).toNatClampNeg) + ((m_den 0 (d 9 6)).toInt64))) (1 : Int32).toNatClampNeg) + ((m_den 1 (d 9 6)).toInt64))) (2 : Int32).toNatClampNeg), .int 2, .ref (ad 5)])
    refine lv_i2l (v := (m_den 2 (d 9 6)).toInt64) hx hb dX6_playsBeat_65 rfl ?_
    refine lv_ladd hx hb dX6_playsBeat_66 ?_
    refine g_last hE hG h_50 (vp_in_nI (n := 2) (N := 4) (by decide) (by decide)) dX6_playsBeat_67 (fun H locs w_51 ew_51 hG => ?_)
    have h_52 : w_51 1001 = some ((ad 1), .inl (tc 0, 4, .inl (d 0))) := gU_n ew_51 (by decide) h_40
    have h_53 : w_51 1002 = some ((ad 2), .inl (tc 0, 6, .inl (d 1))) := gU_n ew_51 (by decide) h_41
    have h_54 : w_51 1003 = some ((ad 3), .inl (tc 0, 6, .inl (d 2))) := gU_n ew_51 (by decide) h_42
    have h_55 : w_51 1004 = some ((ad 4), .inl (tc 0, 390, .inl (d 3))) := gU_n ew_51 (by decide) h_43
    have h_56 : w_51 1006 = some ((ad 6), .inl (tc 0, 32, .inl (d 4))) := gU_n ew_51 (by decide) h_44
    have h_57 : w_51 1007 = some ((ad 7), .inl (tc 0, 4, .inl (d 5))) := gU_n ew_51 (by decide) h_45
    have h_58 : w_51 1008 = some ((ad 8), .inl (tc 0, 8, .inl (d 6))) := gU_n ew_51 (by decide) h_46
    have h_59 : w_51 1009 = some ((ad 9), .inl (tc 2, 48, .inl (d 7))) := gU_n ew_51 (by decide) h_47
    have h_60 : w_51 1010 = some ((ad 10), .inl (tc 0, 3120, .inl (d 8))) := gU_n ew_51 (by decide) h_48
    have h_61 : w_51 1000 = some ((ad 0), .inr (6, [.ref (ad 1), .int (d 9 0), .ref (ad 2), .ref (ad 3), .ref (ad 4), .int (d 9 1), .int (d 9 2), .int (d 9 3), .int v_1, .int (d 9 5), .int (d 9 6), .int (d 9 7), .int (d 9 8), .int (d 9 9), .long (tk + ((d 9 5).toInt64)), .ref (ad 5), .int (d 9 10), .int (d 9 11), .ref (ad 6), .ref (ad 7), .int (d 9 12), .ref (ad 8), .ref (ad 9), .ref (ad 10), .int (d 9 13), .int (d 9 14)])) := gU_n ew_51 (by decide) h_49
    have h_62 : w_51 1005 = some ((ad 5), .inl (tc 1, 4, .inr (.inl (vp_updL (vp_updL (vp_updL st (0 : Int32).toNatClampNeg ((st (0 : Int32).toNatClampNeg) + ((m_den 0 (d 9 6)).toInt64))) (1 : Int32).toNatClampNeg (((vp_updL st (0 : Int32).toNatClampNeg ((st (0 : Int32).toNatClampNeg) + ((m_den 0 (d 9 6)).toInt64))) (1 : Int32).toNatClampNeg) + ((m_den 1 (d 9 6)).toInt64))) (2 : Int32).toNatClampNeg (((vp_updL (vp_updL st (0 : Int32).toNatClampNeg ((st (0 : Int32).toNatClampNeg) + ((m_den 0 (d 9 6)).toInt64))) (1 : Int32).toNatClampNeg (((vp_updL st (0 : Int32).toNatClampNeg ((st (0 : Int32).toNatClampNeg) + ((m_den 0 (d 9 6)).toInt64))) (1 : Int32).toNatClampNeg) + ((m_den 1 (d 9 6)).toInt64))) (2 : Int32).toNatClampNeg) + ((m_den 2 (d 9 6)).toInt64)))))) := gU_s ew_51
    refine lv_iinc (v := 3) (lv' := [(1, .int 3), (0, .ref (ad 0))]) hx hb dX6_playsBeat_68 hl (k := 0) rfl (by decide) (by decide) rfl (fun ls hl => ?_)
    refine lv_goto (tgt := 45) hx hb dX6_playsBeat_71 (by decide) ?_
    refine lv_iload_n hx hb dX6_playsBeat_45 rfl (lv_at hl 0 rfl) ?_
    refine lv_iconst (v := 4) hx hb dX6_playsBeat_46 (by decide) ?_
    refine lv_icmp_ge (tgt := 74) hx hb dX6_playsBeat_47 (by decide) (fun c9 => absurd c9 (by decide)) (fun _ => ?_)
    refine lv_aload_n hx hb dX6_playsBeat_50 rfl (lv_at hl 1 rfl) ?_
    refine g_get hE hG h_61 rfl inG6 15 (by decide) mw3_202 rfl dX6_playsBeat_51 ?_
    refine lv_iload_n hx hb dX6_playsBeat_54 rfl (lv_at hl 0 rfl) ?_
    refine lv_dup2_11 hx hb dX6_playsBeat_55 rfl rfl ?_
    refine g_lald hE hG h_62 (vp_in_nI (n := 3) (N := 4) (by decide) (by decide)) dX6_playsBeat_56 ?_
    refine lv_iload_n hx hb dX6_playsBeat_57 rfl (lv_at hl 0 rfl) ?_
    refine lv_aload_n hx hb dX6_playsBeat_58 rfl (lv_at hl 1 rfl) ?_
    refine g_get hE hG h_61 rfl inG6 10 (by decide) mw3_197 rfl dX6_playsBeat_59 ?_
    refine g_callS (rest := [.long ((vp_updL (vp_updL (vp_updL st (0 : Int32).toNatClampNeg ((st (0 : Int32).toNatClampNeg) + ((m_den 0 (d 9 6)).toInt64))) (1 : Int32).toNatClampNeg (((vp_updL st (0 : Int32).toNatClampNeg ((st (0 : Int32).toNatClampNeg) + ((m_den 0 (d 9 6)).toInt64))) (1 : Int32).toNatClampNeg) + ((m_den 1 (d 9 6)).toInt64))) (2 : Int32).toNatClampNeg (((vp_updL (vp_updL st (0 : Int32).toNatClampNeg ((st (0 : Int32).toNatClampNeg) + ((m_den 0 (d 9 6)).toInt64))) (1 : Int32).toNatClampNeg (((vp_updL st (0 : Int32).toNatClampNeg ((st (0 : Int32).toNatClampNeg) + ((m_den 0 (d 9 6)).toInt64))) (1 : Int32).toNatClampNeg) + ((m_den 1 (d 9 6)).toInt64))) (2 : Int32).toNatClampNeg) + ((m_den 2 (d 9 6)).toInt64))) (3 : Int32).toNatClampNeg), .int 3, .ref (ad 5)]) (As := [.int 3, .int (d 9 6)]) hE hG hl.1 (c_X6_density l hfl D tc A w_51 3 (d 9 6) ) mw4_89 mw4_90 mw1_4 mw4_91 nm_X6_density ⟨⟨Nat.le_of_ble_eq_true rfl, Nat.le_of_ble_eq_true rfl⟩, Nat.le_of_ble_eq_true rfl, Nat.le_of_ble_eq_true rfl⟩ rfl rfl (Nat.le_of_ble_eq_true rfl) dX6_playsBeat_62 (g_no) ?_
    intro v9 w9 H locs h9 hG
    obtain ⟨e9, f9⟩ := h9
    rw [f9] at hG; rw [e9]; clear e9 f9
    show W p l e _ s m args below meth c H locs _ _ _ (F0 m 65 ls [.int (m_den 3 (d 9 6)), .long ((vp_updL (vp_updL (vp_updL st (0 : Int32).toNatClampNeg ((st (0 : Int32).toNatClampNeg) + ((m_den 0 (d 9 6)).toInt64))) (1 : Int32).toNatClampNeg (((vp_updL st (0 : Int32).toNatClampNeg ((st (0 : Int32).toNatClampNeg) + ((m_den 0 (d 9 6)).toInt64))) (1 : Int32).toNatClampNeg) + ((m_den 1 (d 9 6)).toInt64))) (2 : Int32).toNatClampNeg (((vp_updL (vp_updL st (0 : Int32).toNatClampNeg ((st (0 : Int32).toNatClampNeg) + ((m_den 0 (d 9 6)).toInt64))) (1 : Int32).toNatClampNeg (((vp_updL st (0 : Int32).toNatClampNeg ((st (0 : Int32).toNatClampNeg) + ((m_den 0 (d 9 6)).toInt64))) (1 : Int32).toNatClampNeg) + ((m_den 1 (d 9 6)).toInt64))) (2 : Int32).toNatClampNeg) + ((m_den 2 (d 9 6)).toInt64))) (3 : Int32).toNatClampNeg), .int 3, .ref (ad 5)])
    refine lv_i2l (v := (m_den 3 (d 9 6)).toInt64) hx hb dX6_playsBeat_65 rfl ?_
    refine lv_ladd hx hb dX6_playsBeat_66 ?_
    refine g_last hE hG h_62 (vp_in_nI (n := 3) (N := 4) (by decide) (by decide)) dX6_playsBeat_67 (fun H locs w_63 ew_63 hG => ?_)
    have h_64 : w_63 1001 = some ((ad 1), .inl (tc 0, 4, .inl (d 0))) := gU_n ew_63 (by decide) h_52
    have h_65 : w_63 1002 = some ((ad 2), .inl (tc 0, 6, .inl (d 1))) := gU_n ew_63 (by decide) h_53
    have h_66 : w_63 1003 = some ((ad 3), .inl (tc 0, 6, .inl (d 2))) := gU_n ew_63 (by decide) h_54
    have h_67 : w_63 1004 = some ((ad 4), .inl (tc 0, 390, .inl (d 3))) := gU_n ew_63 (by decide) h_55
    have h_68 : w_63 1006 = some ((ad 6), .inl (tc 0, 32, .inl (d 4))) := gU_n ew_63 (by decide) h_56
    have h_69 : w_63 1007 = some ((ad 7), .inl (tc 0, 4, .inl (d 5))) := gU_n ew_63 (by decide) h_57
    have h_70 : w_63 1008 = some ((ad 8), .inl (tc 0, 8, .inl (d 6))) := gU_n ew_63 (by decide) h_58
    have h_71 : w_63 1009 = some ((ad 9), .inl (tc 2, 48, .inl (d 7))) := gU_n ew_63 (by decide) h_59
    have h_72 : w_63 1010 = some ((ad 10), .inl (tc 0, 3120, .inl (d 8))) := gU_n ew_63 (by decide) h_60
    have h_73 : w_63 1000 = some ((ad 0), .inr (6, [.ref (ad 1), .int (d 9 0), .ref (ad 2), .ref (ad 3), .ref (ad 4), .int (d 9 1), .int (d 9 2), .int (d 9 3), .int v_1, .int (d 9 5), .int (d 9 6), .int (d 9 7), .int (d 9 8), .int (d 9 9), .long (tk + ((d 9 5).toInt64)), .ref (ad 5), .int (d 9 10), .int (d 9 11), .ref (ad 6), .ref (ad 7), .int (d 9 12), .ref (ad 8), .ref (ad 9), .ref (ad 10), .int (d 9 13), .int (d 9 14)])) := gU_n ew_63 (by decide) h_61
    have h_74 : w_63 1005 = some ((ad 5), .inl (tc 1, 4, .inr (.inl (vp_updL (vp_updL (vp_updL (vp_updL st (0 : Int32).toNatClampNeg ((st (0 : Int32).toNatClampNeg) + ((m_den 0 (d 9 6)).toInt64))) (1 : Int32).toNatClampNeg (((vp_updL st (0 : Int32).toNatClampNeg ((st (0 : Int32).toNatClampNeg) + ((m_den 0 (d 9 6)).toInt64))) (1 : Int32).toNatClampNeg) + ((m_den 1 (d 9 6)).toInt64))) (2 : Int32).toNatClampNeg (((vp_updL (vp_updL st (0 : Int32).toNatClampNeg ((st (0 : Int32).toNatClampNeg) + ((m_den 0 (d 9 6)).toInt64))) (1 : Int32).toNatClampNeg (((vp_updL st (0 : Int32).toNatClampNeg ((st (0 : Int32).toNatClampNeg) + ((m_den 0 (d 9 6)).toInt64))) (1 : Int32).toNatClampNeg) + ((m_den 1 (d 9 6)).toInt64))) (2 : Int32).toNatClampNeg) + ((m_den 2 (d 9 6)).toInt64))) (3 : Int32).toNatClampNeg (((vp_updL (vp_updL (vp_updL st (0 : Int32).toNatClampNeg ((st (0 : Int32).toNatClampNeg) + ((m_den 0 (d 9 6)).toInt64))) (1 : Int32).toNatClampNeg (((vp_updL st (0 : Int32).toNatClampNeg ((st (0 : Int32).toNatClampNeg) + ((m_den 0 (d 9 6)).toInt64))) (1 : Int32).toNatClampNeg) + ((m_den 1 (d 9 6)).toInt64))) (2 : Int32).toNatClampNeg (((vp_updL (vp_updL st (0 : Int32).toNatClampNeg ((st (0 : Int32).toNatClampNeg) + ((m_den 0 (d 9 6)).toInt64))) (1 : Int32).toNatClampNeg (((vp_updL st (0 : Int32).toNatClampNeg ((st (0 : Int32).toNatClampNeg) + ((m_den 0 (d 9 6)).toInt64))) (1 : Int32).toNatClampNeg) + ((m_den 1 (d 9 6)).toInt64))) (2 : Int32).toNatClampNeg) + ((m_den 2 (d 9 6)).toInt64))) (3 : Int32).toNatClampNeg) + ((m_den 3 (d 9 6)).toInt64)))))) := gU_s ew_63
    refine lv_iinc (v := 4) (lv' := [(1, .int 4), (0, .ref (ad 0))]) hx hb dX6_playsBeat_68 hl (k := 0) rfl (by decide) (by decide) rfl (fun ls hl => ?_)
    refine lv_goto (tgt := 45) hx hb dX6_playsBeat_71 (by decide) ?_
    refine lv_iload_n hx hb dX6_playsBeat_45 rfl (lv_at hl 0 rfl) ?_
    refine lv_iconst (v := 4) hx hb dX6_playsBeat_46 (by decide) ?_
    refine lv_icmp_ge (tgt := 74) hx hb dX6_playsBeat_47 (by decide) (fun _ => ?_) (fun c9 => (c9 (by decide)).elim)
    refine lv_aload_n hx hb dX6_playsBeat_74 rfl (lv_at hl 1 rfl) ?_
    refine g_get hE hG h_73 rfl inG6 9 (by decide) mw3_196 rfl dX6_playsBeat_75 ?_
    refine lv_aload_n hx hb dX6_playsBeat_78 rfl (lv_at hl 1 rfl) ?_
    refine g_get hE hG h_73 rfl inG6 12 (by decide) mw3_199 rfl dX6_playsBeat_79 ?_
    have j_76 : ∀ (v_75 : Int32) (H : Heap) (locs : List Loc), v_75 = (if (d 9 8) = 0 then 0 else (if (d 9 8) = 1 then 2 else (-2) : Int32) : Int32) → gS D A s.heap w_63 H locs → W p l e rm_X6_playsBeat s m args below meth c H locs (((((0 + rm_X6_lengthOf.cells) + rm_X6_density.cells) + rm_X6_density.cells) + rm_X6_density.cells) + rm_X6_density.cells) (((((0 + rm_X6_lengthOf.slots) + rm_X6_density.slots) + rm_X6_density.slots) + rm_X6_density.slots) + rm_X6_density.slots) Q (F0 m 103 ls (.int v_75 :: [.int (d 9 5)])) := by
      intro v_75 H locs ev_75 hG
      refine lv_iadd hx hb dX6_playsBeat_103 ?_
      refine lv_istore_n (lv' := [(1, .int ((d 9 5) + v_75)), (0, .ref (ad 0))]) hx hb dX6_playsBeat_104 rfl hl (by decide) rfl (fun ls hl => ?_)
      refine lv_aload_n hx hb dX6_playsBeat_105 rfl (lv_at hl 1 rfl) ?_
      refine lv_iload_n hx hb dX6_playsBeat_106 rfl (lv_at hl 0 rfl) ?_
      refine lv_sipush (v := 160) hx hb dX6_playsBeat_107 (by decide) ?_
      have j_78 : ∀ (v_77 : Int32) (H : Heap) (locs : List Loc), v_77 = (if ((d 9 5) + v_75) ≤ 160 then (if 10 ≤ ((d 9 5) + v_75) then ((d 9 5) + v_75) else 10 : Int32) else 160 : Int32) → gS D A s.heap w_63 H locs → W p l e rm_X6_playsBeat s m args below meth c H locs (((((0 + rm_X6_lengthOf.cells) + rm_X6_density.cells) + rm_X6_density.cells) + rm_X6_density.cells) + rm_X6_density.cells) (((((0 + rm_X6_lengthOf.slots) + rm_X6_density.slots) + rm_X6_density.slots) + rm_X6_density.slots) + rm_X6_density.slots) Q (F0 m 131 ls (.int v_77 :: [.ref (ad 0)])) := by
        intro v_77 H locs ev_77 hG
        refine g_put hE hG h_73 rfl inG6 tyX6 tyX6_ok nmX6 9 (by decide) mw3_196 rfl rfl rfl (Nat.le_of_ble_eq_true rfl) dX6_playsBeat_131 (fun H locs w_79 ew_79 hG => ?_)
        have h_80 : w_79 1001 = some ((ad 1), .inl (tc 0, 4, .inl (d 0))) := gU_n ew_79 (by decide) h_64
        have h_81 : w_79 1002 = some ((ad 2), .inl (tc 0, 6, .inl (d 1))) := gU_n ew_79 (by decide) h_65
        have h_82 : w_79 1003 = some ((ad 3), .inl (tc 0, 6, .inl (d 2))) := gU_n ew_79 (by decide) h_66
        have h_83 : w_79 1004 = some ((ad 4), .inl (tc 0, 390, .inl (d 3))) := gU_n ew_79 (by decide) h_67
        have h_84 : w_79 1006 = some ((ad 6), .inl (tc 0, 32, .inl (d 4))) := gU_n ew_79 (by decide) h_68
        have h_85 : w_79 1007 = some ((ad 7), .inl (tc 0, 4, .inl (d 5))) := gU_n ew_79 (by decide) h_69
        have h_86 : w_79 1008 = some ((ad 8), .inl (tc 0, 8, .inl (d 6))) := gU_n ew_79 (by decide) h_70
        have h_87 : w_79 1009 = some ((ad 9), .inl (tc 2, 48, .inl (d 7))) := gU_n ew_79 (by decide) h_71
        have h_88 : w_79 1010 = some ((ad 10), .inl (tc 0, 3120, .inl (d 8))) := gU_n ew_79 (by decide) h_72
        have h_89 : w_79 1005 = some ((ad 5), .inl (tc 1, 4, .inr (.inl (vp_updL (vp_updL (vp_updL (vp_updL st (0 : Int32).toNatClampNeg ((st (0 : Int32).toNatClampNeg) + ((m_den 0 (d 9 6)).toInt64))) (1 : Int32).toNatClampNeg (((vp_updL st (0 : Int32).toNatClampNeg ((st (0 : Int32).toNatClampNeg) + ((m_den 0 (d 9 6)).toInt64))) (1 : Int32).toNatClampNeg) + ((m_den 1 (d 9 6)).toInt64))) (2 : Int32).toNatClampNeg (((vp_updL (vp_updL st (0 : Int32).toNatClampNeg ((st (0 : Int32).toNatClampNeg) + ((m_den 0 (d 9 6)).toInt64))) (1 : Int32).toNatClampNeg (((vp_updL st (0 : Int32).toNatClampNeg ((st (0 : Int32).toNatClampNeg) + ((m_den 0 (d 9 6)).toInt64))) (1 : Int32).toNatClampNeg) + ((m_den 1 (d 9 6)).toInt64))) (2 : Int32).toNatClampNeg) + ((m_den 2 (d 9 6)).toInt64))) (3 : Int32).toNatClampNeg (((vp_updL (vp_updL (vp_updL st (0 : Int32).toNatClampNeg ((st (0 : Int32).toNatClampNeg) + ((m_den 0 (d 9 6)).toInt64))) (1 : Int32).toNatClampNeg (((vp_updL st (0 : Int32).toNatClampNeg ((st (0 : Int32).toNatClampNeg) + ((m_den 0 (d 9 6)).toInt64))) (1 : Int32).toNatClampNeg) + ((m_den 1 (d 9 6)).toInt64))) (2 : Int32).toNatClampNeg (((vp_updL (vp_updL st (0 : Int32).toNatClampNeg ((st (0 : Int32).toNatClampNeg) + ((m_den 0 (d 9 6)).toInt64))) (1 : Int32).toNatClampNeg (((vp_updL st (0 : Int32).toNatClampNeg ((st (0 : Int32).toNatClampNeg) + ((m_den 0 (d 9 6)).toInt64))) (1 : Int32).toNatClampNeg) + ((m_den 1 (d 9 6)).toInt64))) (2 : Int32).toNatClampNeg) + ((m_den 2 (d 9 6)).toInt64))) (3 : Int32).toNatClampNeg) + ((m_den 3 (d 9 6)).toInt64)))))) := gU_n ew_79 (by decide) h_74
        have h_90 : w_79 1000 = some ((ad 0), .inr (6, [.ref (ad 1), .int (d 9 0), .ref (ad 2), .ref (ad 3), .ref (ad 4), .int (d 9 1), .int (d 9 2), .int (d 9 3), .int v_1, .int v_77, .int (d 9 6), .int (d 9 7), .int (d 9 8), .int (d 9 9), .long (tk + ((d 9 5).toInt64)), .ref (ad 5), .int (d 9 10), .int (d 9 11), .ref (ad 6), .ref (ad 7), .int (d 9 12), .ref (ad 8), .ref (ad 9), .ref (ad 10), .int (d 9 13), .int (d 9 14)])) := gU_s ew_79
        refine lv_aload_n hx hb dX6_playsBeat_134 rfl (lv_at hl 1 rfl) ?_
        refine g_get hE hG h_90 rfl inG6 8 (by decide) mw3_195 rfl dX6_playsBeat_135 ?_
        refine lv_aload_n hx hb dX6_playsBeat_138 rfl (lv_at hl 1 rfl) ?_
        refine lv_aload_n hx hb dX6_playsBeat_139 rfl (lv_at hl 1 rfl) ?_
        refine g_get hE hG h_90 rfl inG6 7 (by decide) mw3_194 rfl dX6_playsBeat_140 ?_
        rw [hcur]
        refine g_callV (rest := [.int v_1]) (As := [.int (nI i)]) hE hG hl.1 (c_X6_lengthOf l hfl D tc A w_79 ad (gD d 9 (upd (upd (d 9) 4 v_1) 5 v_77)) (tk + ((d 9 5).toInt64)) (vp_updL (vp_updL (vp_updL (vp_updL st (0 : Int32).toNatClampNeg ((st (0 : Int32).toNatClampNeg) + ((m_den 0 (d 9 6)).toInt64))) (1 : Int32).toNatClampNeg (((vp_updL st (0 : Int32).toNatClampNeg ((st (0 : Int32).toNatClampNeg) + ((m_den 0 (d 9 6)).toInt64))) (1 : Int32).toNatClampNeg) + ((m_den 1 (d 9 6)).toInt64))) (2 : Int32).toNatClampNeg (((vp_updL (vp_updL st (0 : Int32).toNatClampNeg ((st (0 : Int32).toNatClampNeg) + ((m_den 0 (d 9 6)).toInt64))) (1 : Int32).toNatClampNeg (((vp_updL st (0 : Int32).toNatClampNeg ((st (0 : Int32).toNatClampNeg) + ((m_den 0 (d 9 6)).toInt64))) (1 : Int32).toNatClampNeg) + ((m_den 1 (d 9 6)).toInt64))) (2 : Int32).toNatClampNeg) + ((m_den 2 (d 9 6)).toInt64))) (3 : Int32).toNatClampNeg (((vp_updL (vp_updL (vp_updL st (0 : Int32).toNatClampNeg ((st (0 : Int32).toNatClampNeg) + ((m_den 0 (d 9 6)).toInt64))) (1 : Int32).toNatClampNeg (((vp_updL st (0 : Int32).toNatClampNeg ((st (0 : Int32).toNatClampNeg) + ((m_den 0 (d 9 6)).toInt64))) (1 : Int32).toNatClampNeg) + ((m_den 1 (d 9 6)).toInt64))) (2 : Int32).toNatClampNeg (((vp_updL (vp_updL st (0 : Int32).toNatClampNeg ((st (0 : Int32).toNatClampNeg) + ((m_den 0 (d 9 6)).toInt64))) (1 : Int32).toNatClampNeg (((vp_updL st (0 : Int32).toNatClampNeg ((st (0 : Int32).toNatClampNeg) + ((m_den 0 (d 9 6)).toInt64))) (1 : Int32).toNatClampNeg) + ((m_den 1 (d 9 6)).toInt64))) (2 : Int32).toNatClampNeg) + ((m_den 2 (d 9 6)).toInt64))) (3 : Int32).toNatClampNeg) + ((m_den 3 (d 9 6)).toInt64))) i ⟨h_90, h_80, h_81, h_82, h_83, h_89, h_84, h_85, h_86, h_87, h_88⟩ hOk hi) h_90 rfl mw4_66 mw4_68 mws_16 mw1_4 mw4_69 rfl nm_X6_lengthOf ⟨⟨Nat.le_of_ble_eq_true rfl, Nat.le_of_ble_eq_true rfl⟩, Nat.le_of_ble_eq_true rfl, Nat.le_of_ble_eq_true rfl⟩ rfl rfl (Nat.le_of_ble_eq_true rfl) dX6_playsBeat_143 (g_no) ?_
        intro v9 w9 H locs h9 hG
        obtain ⟨e9, f9⟩ := h9
        rw [f9] at hG; rw [e9]; clear e9 f9
        show W p l e _ s m args below meth c H locs _ _ _ (F0 m 146 ls [.int (nI (lenN d i)), .int v_1])
        refine lv_icmp_ne (tgt := 224) hx hb dX6_playsBeat_146 (by decide) (fun c_91 => ?_) (fun c_91 => ?_)
        · skip
          subst hQ
          have hp : v_1 = mPl d := by rw [ev_1]; unfold mPl m_npl; rw [hcl]
          subst ev_77
          subst ev_75
          have hc9 : ¬ mPl d = mLen d := by rw [hcl, ← hp]; exact c_91
          rw [hp] at h_90
          rw [m_sts_eq] at h_89
          exact g_vret hE hG hr (Nat.le_of_ble_eq_true rfl) (Nat.le_of_ble_eq_true rfl) dX6_playsBeat_224 ⟨rfl, (by unfold mB; rw [if_neg hc9]; exact ⟨h_90, h_80, h_81, h_82, h_83, h_89, h_84, h_85, h_86, h_87, h_88⟩), gF_u (gF_u (gF_u (gF_u (gF_u (gF_u (gF_u (gF_rf w) ew_3 (by decide)) ew_15 (by decide)) ew_27 (by decide)) ew_39 (by decide)) ew_51 (by decide)) ew_63 (by decide)) ew_79 (by decide)⟩
        · skip
          refine lv_aload_n hx hb dX6_playsBeat_149 rfl (lv_at hl 1 rfl) ?_
          refine lv_aload_n hx hb dX6_playsBeat_150 rfl (lv_at hl 1 rfl) ?_
          refine g_get hE hG h_90 rfl inG6 9 (by decide) mw3_196 rfl dX6_playsBeat_151 ?_
          refine lv_sipush (v := 160) hx hb dX6_playsBeat_154 (by decide) ?_
          have j_93 : ∀ (v_92 : Int32) (H : Heap) (locs : List Loc), v_92 = (if v_77 < 160 then (if v_77 < 80 then (if v_77 < 40 then 0 else 1 : Int32) else 2 : Int32) else 3 : Int32) → gS D A s.heap w_79 H locs → W p l e rm_X6_playsBeat s m args below meth c H locs ((((((0 + rm_X6_lengthOf.cells) + rm_X6_density.cells) + rm_X6_density.cells) + rm_X6_density.cells) + rm_X6_density.cells) + rm_X6_lengthOf.cells) ((((((0 + rm_X6_lengthOf.slots) + rm_X6_density.slots) + rm_X6_density.slots) + rm_X6_density.slots) + rm_X6_density.slots) + rm_X6_lengthOf.slots) Q (F0 m 191 ls (.int v_92 :: [.ref (ad 0)])) := by
            intro v_92 H locs ev_92 hG
            refine g_put hE hG h_90 rfl inG6 tyX6 tyX6_ok nmX6 10 (by decide) mw3_197 rfl rfl rfl (Nat.le_of_ble_eq_true rfl) dX6_playsBeat_191 (fun H locs w_94 ew_94 hG => ?_)
            have h_95 : w_94 1001 = some ((ad 1), .inl (tc 0, 4, .inl (d 0))) := gU_n ew_94 (by decide) h_80
            have h_96 : w_94 1002 = some ((ad 2), .inl (tc 0, 6, .inl (d 1))) := gU_n ew_94 (by decide) h_81
            have h_97 : w_94 1003 = some ((ad 3), .inl (tc 0, 6, .inl (d 2))) := gU_n ew_94 (by decide) h_82
            have h_98 : w_94 1004 = some ((ad 4), .inl (tc 0, 390, .inl (d 3))) := gU_n ew_94 (by decide) h_83
            have h_99 : w_94 1006 = some ((ad 6), .inl (tc 0, 32, .inl (d 4))) := gU_n ew_94 (by decide) h_84
            have h_100 : w_94 1007 = some ((ad 7), .inl (tc 0, 4, .inl (d 5))) := gU_n ew_94 (by decide) h_85
            have h_101 : w_94 1008 = some ((ad 8), .inl (tc 0, 8, .inl (d 6))) := gU_n ew_94 (by decide) h_86
            have h_102 : w_94 1009 = some ((ad 9), .inl (tc 2, 48, .inl (d 7))) := gU_n ew_94 (by decide) h_87
            have h_103 : w_94 1010 = some ((ad 10), .inl (tc 0, 3120, .inl (d 8))) := gU_n ew_94 (by decide) h_88
            have h_104 : w_94 1005 = some ((ad 5), .inl (tc 1, 4, .inr (.inl (vp_updL (vp_updL (vp_updL (vp_updL st (0 : Int32).toNatClampNeg ((st (0 : Int32).toNatClampNeg) + ((m_den 0 (d 9 6)).toInt64))) (1 : Int32).toNatClampNeg (((vp_updL st (0 : Int32).toNatClampNeg ((st (0 : Int32).toNatClampNeg) + ((m_den 0 (d 9 6)).toInt64))) (1 : Int32).toNatClampNeg) + ((m_den 1 (d 9 6)).toInt64))) (2 : Int32).toNatClampNeg (((vp_updL (vp_updL st (0 : Int32).toNatClampNeg ((st (0 : Int32).toNatClampNeg) + ((m_den 0 (d 9 6)).toInt64))) (1 : Int32).toNatClampNeg (((vp_updL st (0 : Int32).toNatClampNeg ((st (0 : Int32).toNatClampNeg) + ((m_den 0 (d 9 6)).toInt64))) (1 : Int32).toNatClampNeg) + ((m_den 1 (d 9 6)).toInt64))) (2 : Int32).toNatClampNeg) + ((m_den 2 (d 9 6)).toInt64))) (3 : Int32).toNatClampNeg (((vp_updL (vp_updL (vp_updL st (0 : Int32).toNatClampNeg ((st (0 : Int32).toNatClampNeg) + ((m_den 0 (d 9 6)).toInt64))) (1 : Int32).toNatClampNeg (((vp_updL st (0 : Int32).toNatClampNeg ((st (0 : Int32).toNatClampNeg) + ((m_den 0 (d 9 6)).toInt64))) (1 : Int32).toNatClampNeg) + ((m_den 1 (d 9 6)).toInt64))) (2 : Int32).toNatClampNeg (((vp_updL (vp_updL st (0 : Int32).toNatClampNeg ((st (0 : Int32).toNatClampNeg) + ((m_den 0 (d 9 6)).toInt64))) (1 : Int32).toNatClampNeg (((vp_updL st (0 : Int32).toNatClampNeg ((st (0 : Int32).toNatClampNeg) + ((m_den 0 (d 9 6)).toInt64))) (1 : Int32).toNatClampNeg) + ((m_den 1 (d 9 6)).toInt64))) (2 : Int32).toNatClampNeg) + ((m_den 2 (d 9 6)).toInt64))) (3 : Int32).toNatClampNeg) + ((m_den 3 (d 9 6)).toInt64)))))) := gU_n ew_94 (by decide) h_89
            have h_105 : w_94 1000 = some ((ad 0), .inr (6, [.ref (ad 1), .int (d 9 0), .ref (ad 2), .ref (ad 3), .ref (ad 4), .int (d 9 1), .int (d 9 2), .int (d 9 3), .int v_1, .int v_77, .int v_92, .int (d 9 7), .int (d 9 8), .int (d 9 9), .long (tk + ((d 9 5).toInt64)), .ref (ad 5), .int (d 9 10), .int (d 9 11), .ref (ad 6), .ref (ad 7), .int (d 9 12), .ref (ad 8), .ref (ad 9), .ref (ad 10), .int (d 9 13), .int (d 9 14)])) := gU_s ew_94
            refine lv_aload_n hx hb dX6_playsBeat_194 rfl (lv_at hl 1 rfl) ?_
            refine lv_dup hx hb dX6_playsBeat_195 rfl ?_
            refine g_get hE hG h_105 rfl inG6 11 (by decide) mw3_198 rfl dX6_playsBeat_196 ?_
            refine lv_iconst (v := 1) hx hb dX6_playsBeat_199 (by decide) ?_
            refine lv_iadd hx hb dX6_playsBeat_200 ?_
            refine g_put hE hG h_105 rfl inG6 tyX6 tyX6_ok nmX6 11 (by decide) mw3_198 rfl rfl rfl (Nat.le_of_ble_eq_true rfl) dX6_playsBeat_201 (fun H locs w_106 ew_106 hG => ?_)
            have h_107 : w_106 1001 = some ((ad 1), .inl (tc 0, 4, .inl (d 0))) := gU_n ew_106 (by decide) h_95
            have h_108 : w_106 1002 = some ((ad 2), .inl (tc 0, 6, .inl (d 1))) := gU_n ew_106 (by decide) h_96
            have h_109 : w_106 1003 = some ((ad 3), .inl (tc 0, 6, .inl (d 2))) := gU_n ew_106 (by decide) h_97
            have h_110 : w_106 1004 = some ((ad 4), .inl (tc 0, 390, .inl (d 3))) := gU_n ew_106 (by decide) h_98
            have h_111 : w_106 1006 = some ((ad 6), .inl (tc 0, 32, .inl (d 4))) := gU_n ew_106 (by decide) h_99
            have h_112 : w_106 1007 = some ((ad 7), .inl (tc 0, 4, .inl (d 5))) := gU_n ew_106 (by decide) h_100
            have h_113 : w_106 1008 = some ((ad 8), .inl (tc 0, 8, .inl (d 6))) := gU_n ew_106 (by decide) h_101
            have h_114 : w_106 1009 = some ((ad 9), .inl (tc 2, 48, .inl (d 7))) := gU_n ew_106 (by decide) h_102
            have h_115 : w_106 1010 = some ((ad 10), .inl (tc 0, 3120, .inl (d 8))) := gU_n ew_106 (by decide) h_103
            have h_116 : w_106 1005 = some ((ad 5), .inl (tc 1, 4, .inr (.inl (vp_updL (vp_updL (vp_updL (vp_updL st (0 : Int32).toNatClampNeg ((st (0 : Int32).toNatClampNeg) + ((m_den 0 (d 9 6)).toInt64))) (1 : Int32).toNatClampNeg (((vp_updL st (0 : Int32).toNatClampNeg ((st (0 : Int32).toNatClampNeg) + ((m_den 0 (d 9 6)).toInt64))) (1 : Int32).toNatClampNeg) + ((m_den 1 (d 9 6)).toInt64))) (2 : Int32).toNatClampNeg (((vp_updL (vp_updL st (0 : Int32).toNatClampNeg ((st (0 : Int32).toNatClampNeg) + ((m_den 0 (d 9 6)).toInt64))) (1 : Int32).toNatClampNeg (((vp_updL st (0 : Int32).toNatClampNeg ((st (0 : Int32).toNatClampNeg) + ((m_den 0 (d 9 6)).toInt64))) (1 : Int32).toNatClampNeg) + ((m_den 1 (d 9 6)).toInt64))) (2 : Int32).toNatClampNeg) + ((m_den 2 (d 9 6)).toInt64))) (3 : Int32).toNatClampNeg (((vp_updL (vp_updL (vp_updL st (0 : Int32).toNatClampNeg ((st (0 : Int32).toNatClampNeg) + ((m_den 0 (d 9 6)).toInt64))) (1 : Int32).toNatClampNeg (((vp_updL st (0 : Int32).toNatClampNeg ((st (0 : Int32).toNatClampNeg) + ((m_den 0 (d 9 6)).toInt64))) (1 : Int32).toNatClampNeg) + ((m_den 1 (d 9 6)).toInt64))) (2 : Int32).toNatClampNeg (((vp_updL (vp_updL st (0 : Int32).toNatClampNeg ((st (0 : Int32).toNatClampNeg) + ((m_den 0 (d 9 6)).toInt64))) (1 : Int32).toNatClampNeg (((vp_updL st (0 : Int32).toNatClampNeg ((st (0 : Int32).toNatClampNeg) + ((m_den 0 (d 9 6)).toInt64))) (1 : Int32).toNatClampNeg) + ((m_den 1 (d 9 6)).toInt64))) (2 : Int32).toNatClampNeg) + ((m_den 2 (d 9 6)).toInt64))) (3 : Int32).toNatClampNeg) + ((m_den 3 (d 9 6)).toInt64)))))) := gU_n ew_106 (by decide) h_104
            have h_117 : w_106 1000 = some ((ad 0), .inr (6, [.ref (ad 1), .int (d 9 0), .ref (ad 2), .ref (ad 3), .ref (ad 4), .int (d 9 1), .int (d 9 2), .int (d 9 3), .int v_1, .int v_77, .int v_92, .int ((d 9 7) + 1), .int (d 9 8), .int (d 9 9), .long (tk + ((d 9 5).toInt64)), .ref (ad 5), .int (d 9 10), .int (d 9 11), .ref (ad 6), .ref (ad 7), .int (d 9 12), .ref (ad 8), .ref (ad 9), .ref (ad 10), .int (d 9 13), .int (d 9 14)])) := gU_s ew_106
            refine lv_aload_n hx hb dX6_playsBeat_204 rfl (lv_at hl 1 rfl) ?_
            refine lv_aload_n hx hb dX6_playsBeat_205 rfl (lv_at hl 1 rfl) ?_
            refine g_get hE hG h_117 rfl inG6 11 (by decide) mw3_198 rfl dX6_playsBeat_206 ?_
            refine lv_aload_n hx hb dX6_playsBeat_209 rfl (lv_at hl 1 rfl) ?_
            refine g_get hE hG h_117 rfl inG6 13 (by decide) mw3_200 rfl dX6_playsBeat_210 ?_
            refine lv_icmp_eq (tgt := 220) hx hb dX6_playsBeat_213 (by decide) (fun c_118 => ?_) (fun c_118 => ?_)
            · skip
              refine lv_iconst (v := 0) hx hb dX6_playsBeat_220 (by decide) ?_
              refine g_put hE hG h_117 rfl inG6 tyX6 tyX6_ok nmX6 6 (by decide) mw3_193 rfl (by decide) (by decide) (Nat.le_of_ble_eq_true rfl) dX6_playsBeat_221 (fun H locs w_119 ew_119 hG => ?_)
              have h_120 : w_119 1001 = some ((ad 1), .inl (tc 0, 4, .inl (d 0))) := gU_n ew_119 (by decide) h_107
              have h_121 : w_119 1002 = some ((ad 2), .inl (tc 0, 6, .inl (d 1))) := gU_n ew_119 (by decide) h_108
              have h_122 : w_119 1003 = some ((ad 3), .inl (tc 0, 6, .inl (d 2))) := gU_n ew_119 (by decide) h_109
              have h_123 : w_119 1004 = some ((ad 4), .inl (tc 0, 390, .inl (d 3))) := gU_n ew_119 (by decide) h_110
              have h_124 : w_119 1006 = some ((ad 6), .inl (tc 0, 32, .inl (d 4))) := gU_n ew_119 (by decide) h_111
              have h_125 : w_119 1007 = some ((ad 7), .inl (tc 0, 4, .inl (d 5))) := gU_n ew_119 (by decide) h_112
              have h_126 : w_119 1008 = some ((ad 8), .inl (tc 0, 8, .inl (d 6))) := gU_n ew_119 (by decide) h_113
              have h_127 : w_119 1009 = some ((ad 9), .inl (tc 2, 48, .inl (d 7))) := gU_n ew_119 (by decide) h_114
              have h_128 : w_119 1010 = some ((ad 10), .inl (tc 0, 3120, .inl (d 8))) := gU_n ew_119 (by decide) h_115
              have h_129 : w_119 1005 = some ((ad 5), .inl (tc 1, 4, .inr (.inl (vp_updL (vp_updL (vp_updL (vp_updL st (0 : Int32).toNatClampNeg ((st (0 : Int32).toNatClampNeg) + ((m_den 0 (d 9 6)).toInt64))) (1 : Int32).toNatClampNeg (((vp_updL st (0 : Int32).toNatClampNeg ((st (0 : Int32).toNatClampNeg) + ((m_den 0 (d 9 6)).toInt64))) (1 : Int32).toNatClampNeg) + ((m_den 1 (d 9 6)).toInt64))) (2 : Int32).toNatClampNeg (((vp_updL (vp_updL st (0 : Int32).toNatClampNeg ((st (0 : Int32).toNatClampNeg) + ((m_den 0 (d 9 6)).toInt64))) (1 : Int32).toNatClampNeg (((vp_updL st (0 : Int32).toNatClampNeg ((st (0 : Int32).toNatClampNeg) + ((m_den 0 (d 9 6)).toInt64))) (1 : Int32).toNatClampNeg) + ((m_den 1 (d 9 6)).toInt64))) (2 : Int32).toNatClampNeg) + ((m_den 2 (d 9 6)).toInt64))) (3 : Int32).toNatClampNeg (((vp_updL (vp_updL (vp_updL st (0 : Int32).toNatClampNeg ((st (0 : Int32).toNatClampNeg) + ((m_den 0 (d 9 6)).toInt64))) (1 : Int32).toNatClampNeg (((vp_updL st (0 : Int32).toNatClampNeg ((st (0 : Int32).toNatClampNeg) + ((m_den 0 (d 9 6)).toInt64))) (1 : Int32).toNatClampNeg) + ((m_den 1 (d 9 6)).toInt64))) (2 : Int32).toNatClampNeg (((vp_updL (vp_updL st (0 : Int32).toNatClampNeg ((st (0 : Int32).toNatClampNeg) + ((m_den 0 (d 9 6)).toInt64))) (1 : Int32).toNatClampNeg (((vp_updL st (0 : Int32).toNatClampNeg ((st (0 : Int32).toNatClampNeg) + ((m_den 0 (d 9 6)).toInt64))) (1 : Int32).toNatClampNeg) + ((m_den 1 (d 9 6)).toInt64))) (2 : Int32).toNatClampNeg) + ((m_den 2 (d 9 6)).toInt64))) (3 : Int32).toNatClampNeg) + ((m_den 3 (d 9 6)).toInt64)))))) := gU_n ew_119 (by decide) h_116
              have h_130 : w_119 1000 = some ((ad 0), .inr (6, [.ref (ad 1), .int (d 9 0), .ref (ad 2), .ref (ad 3), .ref (ad 4), .int (d 9 1), .int 0, .int (d 9 3), .int v_1, .int v_77, .int v_92, .int ((d 9 7) + 1), .int (d 9 8), .int (d 9 9), .long (tk + ((d 9 5).toInt64)), .ref (ad 5), .int (d 9 10), .int (d 9 11), .ref (ad 6), .ref (ad 7), .int (d 9 12), .ref (ad 8), .ref (ad 9), .ref (ad 10), .int (d 9 13), .int (d 9 14)])) := gU_s ew_119
              subst hQ
              have hp : v_1 = mPl d := by rw [ev_1]; unfold mPl m_npl; rw [hcl]
              subst ev_92
              subst ev_77
              subst ev_75
              have hc9 : mPl d = mLen d := by rw [hcl, ← hp]; exact c_91
              rw [hp] at h_130
              rw [m_sts_eq] at h_129
              exact g_vret hE hG hr (Nat.le_of_ble_eq_true rfl) (Nat.le_of_ble_eq_true rfl) dX6_playsBeat_224 ⟨rfl, (by unfold mB; rw [if_pos hc9, if_pos c_118]; exact ⟨h_130, h_120, h_121, h_122, h_123, h_129, h_124, h_125, h_126, h_127, h_128⟩), gF_u (gF_u (gF_u (gF_u (gF_u (gF_u (gF_u (gF_u (gF_u (gF_u (gF_rf w) ew_3 (by decide)) ew_15 (by decide)) ew_27 (by decide)) ew_39 (by decide)) ew_51 (by decide)) ew_63 (by decide)) ew_79 (by decide)) ew_94 (by decide)) ew_106 (by decide)) ew_119 (by decide)⟩
            · skip
              refine lv_iconst (v := 1) hx hb dX6_playsBeat_216 (by decide) ?_
              refine lv_goto (tgt := 221) hx hb dX6_playsBeat_217 (by decide) ?_
              refine g_put hE hG h_117 rfl inG6 tyX6 tyX6_ok nmX6 6 (by decide) mw3_193 rfl (by decide) (by decide) (Nat.le_of_ble_eq_true rfl) dX6_playsBeat_221 (fun H locs w_131 ew_131 hG => ?_)
              have h_132 : w_131 1001 = some ((ad 1), .inl (tc 0, 4, .inl (d 0))) := gU_n ew_131 (by decide) h_107
              have h_133 : w_131 1002 = some ((ad 2), .inl (tc 0, 6, .inl (d 1))) := gU_n ew_131 (by decide) h_108
              have h_134 : w_131 1003 = some ((ad 3), .inl (tc 0, 6, .inl (d 2))) := gU_n ew_131 (by decide) h_109
              have h_135 : w_131 1004 = some ((ad 4), .inl (tc 0, 390, .inl (d 3))) := gU_n ew_131 (by decide) h_110
              have h_136 : w_131 1006 = some ((ad 6), .inl (tc 0, 32, .inl (d 4))) := gU_n ew_131 (by decide) h_111
              have h_137 : w_131 1007 = some ((ad 7), .inl (tc 0, 4, .inl (d 5))) := gU_n ew_131 (by decide) h_112
              have h_138 : w_131 1008 = some ((ad 8), .inl (tc 0, 8, .inl (d 6))) := gU_n ew_131 (by decide) h_113
              have h_139 : w_131 1009 = some ((ad 9), .inl (tc 2, 48, .inl (d 7))) := gU_n ew_131 (by decide) h_114
              have h_140 : w_131 1010 = some ((ad 10), .inl (tc 0, 3120, .inl (d 8))) := gU_n ew_131 (by decide) h_115
              have h_141 : w_131 1005 = some ((ad 5), .inl (tc 1, 4, .inr (.inl (vp_updL (vp_updL (vp_updL (vp_updL st (0 : Int32).toNatClampNeg ((st (0 : Int32).toNatClampNeg) + ((m_den 0 (d 9 6)).toInt64))) (1 : Int32).toNatClampNeg (((vp_updL st (0 : Int32).toNatClampNeg ((st (0 : Int32).toNatClampNeg) + ((m_den 0 (d 9 6)).toInt64))) (1 : Int32).toNatClampNeg) + ((m_den 1 (d 9 6)).toInt64))) (2 : Int32).toNatClampNeg (((vp_updL (vp_updL st (0 : Int32).toNatClampNeg ((st (0 : Int32).toNatClampNeg) + ((m_den 0 (d 9 6)).toInt64))) (1 : Int32).toNatClampNeg (((vp_updL st (0 : Int32).toNatClampNeg ((st (0 : Int32).toNatClampNeg) + ((m_den 0 (d 9 6)).toInt64))) (1 : Int32).toNatClampNeg) + ((m_den 1 (d 9 6)).toInt64))) (2 : Int32).toNatClampNeg) + ((m_den 2 (d 9 6)).toInt64))) (3 : Int32).toNatClampNeg (((vp_updL (vp_updL (vp_updL st (0 : Int32).toNatClampNeg ((st (0 : Int32).toNatClampNeg) + ((m_den 0 (d 9 6)).toInt64))) (1 : Int32).toNatClampNeg (((vp_updL st (0 : Int32).toNatClampNeg ((st (0 : Int32).toNatClampNeg) + ((m_den 0 (d 9 6)).toInt64))) (1 : Int32).toNatClampNeg) + ((m_den 1 (d 9 6)).toInt64))) (2 : Int32).toNatClampNeg (((vp_updL (vp_updL st (0 : Int32).toNatClampNeg ((st (0 : Int32).toNatClampNeg) + ((m_den 0 (d 9 6)).toInt64))) (1 : Int32).toNatClampNeg (((vp_updL st (0 : Int32).toNatClampNeg ((st (0 : Int32).toNatClampNeg) + ((m_den 0 (d 9 6)).toInt64))) (1 : Int32).toNatClampNeg) + ((m_den 1 (d 9 6)).toInt64))) (2 : Int32).toNatClampNeg) + ((m_den 2 (d 9 6)).toInt64))) (3 : Int32).toNatClampNeg) + ((m_den 3 (d 9 6)).toInt64)))))) := gU_n ew_131 (by decide) h_116
              have h_142 : w_131 1000 = some ((ad 0), .inr (6, [.ref (ad 1), .int (d 9 0), .ref (ad 2), .ref (ad 3), .ref (ad 4), .int (d 9 1), .int 1, .int (d 9 3), .int v_1, .int v_77, .int v_92, .int ((d 9 7) + 1), .int (d 9 8), .int (d 9 9), .long (tk + ((d 9 5).toInt64)), .ref (ad 5), .int (d 9 10), .int (d 9 11), .ref (ad 6), .ref (ad 7), .int (d 9 12), .ref (ad 8), .ref (ad 9), .ref (ad 10), .int (d 9 13), .int (d 9 14)])) := gU_s ew_131
              subst hQ
              have hp : v_1 = mPl d := by rw [ev_1]; unfold mPl m_npl; rw [hcl]
              subst ev_92
              subst ev_77
              subst ev_75
              have hc9 : mPl d = mLen d := by rw [hcl, ← hp]; exact c_91
              rw [hp] at h_142
              rw [m_sts_eq] at h_141
              exact g_vret hE hG hr (Nat.le_of_ble_eq_true rfl) (Nat.le_of_ble_eq_true rfl) dX6_playsBeat_224 ⟨rfl, (by unfold mB; rw [if_pos hc9, if_neg c_118]; exact ⟨h_142, h_132, h_133, h_134, h_135, h_141, h_136, h_137, h_138, h_139, h_140⟩), gF_u (gF_u (gF_u (gF_u (gF_u (gF_u (gF_u (gF_u (gF_u (gF_u (gF_rf w) ew_3 (by decide)) ew_15 (by decide)) ew_27 (by decide)) ew_39 (by decide)) ew_51 (by decide)) ew_63 (by decide)) ew_79 (by decide)) ew_94 (by decide)) ew_106 (by decide)) ew_131 (by decide)⟩
          refine lv_icmp_lt (tgt := 164) hx hb dX6_playsBeat_157 (by decide) (fun c_143 => ?_) (fun c_143 => ?_)
          · skip
            refine lv_aload_n hx hb dX6_playsBeat_164 rfl (lv_at hl 1 rfl) ?_
            refine g_get hE hG h_90 rfl inG6 9 (by decide) mw3_196 rfl dX6_playsBeat_165 ?_
            refine lv_bipush (v := 80) hx hb dX6_playsBeat_168 (by decide) ?_
            refine lv_icmp_lt (tgt := 177) hx hb dX6_playsBeat_170 (by decide) (fun c_144 => ?_) (fun c_144 => ?_)
            · skip
              refine lv_aload_n hx hb dX6_playsBeat_177 rfl (lv_at hl 1 rfl) ?_
              refine g_get hE hG h_90 rfl inG6 9 (by decide) mw3_196 rfl dX6_playsBeat_178 ?_
              refine lv_bipush (v := 40) hx hb dX6_playsBeat_181 (by decide) ?_
              refine lv_icmp_lt (tgt := 190) hx hb dX6_playsBeat_183 (by decide) (fun c_145 => ?_) (fun c_145 => ?_)
              · skip
                refine lv_iconst (v := 0) hx hb dX6_playsBeat_190 (by decide) ?_
                exact j_93 _ _ _ (by rw [if_pos c_143, if_pos c_144, if_pos c_145]) hG
              · skip
                refine lv_iconst (v := 1) hx hb dX6_playsBeat_186 (by decide) ?_
                refine lv_goto (tgt := 191) hx hb dX6_playsBeat_187 (by decide) ?_
                exact j_93 _ _ _ (by rw [if_pos c_143, if_pos c_144, if_neg c_145]) hG
            · skip
              refine lv_iconst (v := 2) hx hb dX6_playsBeat_173 (by decide) ?_
              refine lv_goto (tgt := 191) hx hb dX6_playsBeat_174 (by decide) ?_
              exact j_93 _ _ _ (by rw [if_pos c_143, if_neg c_144]) hG
          · skip
            refine lv_iconst (v := 3) hx hb dX6_playsBeat_160 (by decide) ?_
            refine lv_goto (tgt := 191) hx hb dX6_playsBeat_161 (by decide) ?_
            exact j_93 _ _ _ (by rw [if_neg c_143]) hG
      refine lv_icmp_le (tgt := 119) hx hb dX6_playsBeat_110 (by decide) (fun c_146 => ?_) (fun c_146 => ?_)
      · skip
        refine lv_iload_n hx hb dX6_playsBeat_119 rfl (lv_at hl 0 rfl) ?_
        refine lv_bipush (v := 10) hx hb dX6_playsBeat_120 (by decide) ?_
        refine lv_icmp_ge (tgt := 130) hx hb dX6_playsBeat_122 (by decide) (fun c_147 => ?_) (fun c_147 => ?_)
        · skip
          refine lv_iload_n hx hb dX6_playsBeat_130 rfl (lv_at hl 0 rfl) ?_
          exact j_78 _ _ _ (by rw [if_pos c_146, if_pos c_147]) hG
        · skip
          refine lv_bipush (v := 10) hx hb dX6_playsBeat_125 (by decide) ?_
          refine lv_goto (tgt := 131) hx hb dX6_playsBeat_127 (by decide) ?_
          exact j_78 _ _ _ (by rw [if_pos c_146, if_neg c_147]) hG
      · skip
        refine lv_sipush (v := 160) hx hb dX6_playsBeat_113 (by decide) ?_
        refine lv_goto (tgt := 131) hx hb dX6_playsBeat_116 (by decide) ?_
        exact j_78 _ _ _ (by rw [if_neg c_146]) hG
    refine lv_if_ne (tgt := 89) hx hb dX6_playsBeat_82 (by decide) (fun c_148 => ?_) (fun c_148 => ?_)
    · skip
      refine lv_aload_n hx hb dX6_playsBeat_89 rfl (lv_at hl 1 rfl) ?_
      refine g_get hE hG h_73 rfl inG6 12 (by decide) mw3_199 rfl dX6_playsBeat_90 ?_
      refine lv_iconst (v := 1) hx hb dX6_playsBeat_93 (by decide) ?_
      refine lv_icmp_ne (tgt := 101) hx hb dX6_playsBeat_94 (by decide) (fun c_149 => ?_) (fun c_149 => ?_)
      · skip
        refine lv_bipush (v := (-2)) hx hb dX6_playsBeat_101 (by decide) ?_
        exact j_76 _ _ _ (by rw [if_neg c_148, if_neg c_149]) hG
      · skip
        refine lv_iconst (v := 2) hx hb dX6_playsBeat_97 (by decide) ?_
        refine lv_goto (tgt := 103) hx hb dX6_playsBeat_98 (by decide) ?_
        exact j_76 _ _ _ (by rw [if_neg c_148, if_pos c_149]) hG
    · skip
      refine lv_iconst (v := 0) hx hb dX6_playsBeat_85 (by decide) ?_
      refine lv_goto (tgt := 103) hx hb dX6_playsBeat_86 (by decide) ?_
      exact j_76 _ _ _ (by rw [if_pos c_148]) hG
  refine lv_icmp_ne (tgt := 20) hx hb dX6_playsBeat_13 (by decide) (fun c_150 => ?_) (fun c_150 => ?_)
  · skip
    refine lv_aload_n hx hb dX6_playsBeat_20 rfl (lv_at hl 0 rfl) ?_
    refine g_get hE hG o0 rfl inG6 8 (by decide) mw3_195 rfl dX6_playsBeat_21 ?_
    refine lv_iconst (v := 1) hx hb dX6_playsBeat_24 (by decide) ?_
    refine lv_iadd hx hb dX6_playsBeat_25 ?_
    exact j_2 _ _ _ (by rw [if_neg c_150]) hG
  · skip
    refine lv_iconst (v := 1) hx hb dX6_playsBeat_16 (by decide) ?_
    refine lv_goto (tgt := 26) hx hb dX6_playsBeat_17 (by decide) ?_
    exact j_2 _ _ _ (by rw [if_pos c_150]) hG
