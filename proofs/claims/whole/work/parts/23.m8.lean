/-! GongCyclesModel: learn, covered -/
theorem gD_s (d : gDt) (k : Nat) (f : Nat → Int32) : gD d k f k = f := if_pos rfl
def m_lrnV (d : gDt) (x y o : Int32) : Nat → Int32 := f_cpO (65 * (6 * x.toNatClampNeg + y.toNatClampNeg) + 1) (lenN d y.toNatClampNeg) (d 8) (fun j => m_tof d o y.toNatClampNeg (j - 65 * (6 * x.toNatClampNeg + y.toNatClampNeg)))
def m_knc (f : Nat → Int32) (i : Nat) : Nat → Nat
  | 0 => 0
  | k + 1 => if f (6 * k + i) = 0 then m_knc f i k else m_knc f i k + 1
def m_lrn (d : gDt) (x y o : Int32) : gDt := gD (gD d 8 (m_lrnV d x y o)) 7 (upd (d 7) (6 * x + y).toNatClampNeg 1)
theorem lrn_ne {d : gDt} {x o y : Int32} (h : ¬ (if m_isPlayer d x = 0 then (0 : Int32) else if m_isPiece d y = 0 then 0 else if o = -1 then 1 else if m_isPlayer d o = 0 then 0 else 1) = 0) : ¬ m_isPlayer d x = 0 ∧ (o = -1 ∨ ¬ m_isPlayer d o = 0) ∧ ¬ m_isPiece d y = 0 := by
  by_cases h1 : m_isPlayer d x = 0
  · rw [if_pos h1] at h; exact absurd rfl h
  · rw [if_neg h1] at h
    by_cases h3 : m_isPiece d y = 0
    · rw [if_pos h3] at h; exact absurd rfl h
    · rw [if_neg h3] at h
      by_cases h2 : o = -1
      · exact ⟨h1, Or.inl h2, h3⟩
      · rw [if_neg h2] at h
        exact ⟨h1, Or.inr (one_ne h), h3⟩
theorem lrn_st {d : gDt} {u i n : Nat} {o : Int32} (hu : u < 8) (hi : i < 6) (hn : n < 64) (ho : o = -1 ∨ ∃ q, q < 8 ∧ o = nI q) (hne : ¬ o = nI u) :
    upd (f_cpO (65 * (6 * u + i) + 1) n (d 8) (fun j => m_tof d o i (j - 65 * (6 * u + i)))) ((65 : Int32) * (6 * nI u + nI i) + nI (n + 1)).toNatClampNeg (m_tof (gD d 8 (f_cpO (65 * (6 * u + i) + 1) n (d 8) (fun j => m_tof d o i (j - 65 * (6 * u + i))))) o i (n + 1)) = f_cpO (65 * (6 * u + i) + 1) (n + 1) (d 8) (fun j => m_tof d o i (j - 65 * (6 * u + i))) := by
  rw [ix_ver hu hi (by omega), nI_clamp (by omega)]
  have e : m_tof (gD d 8 (f_cpO (65 * (6 * u + i) + 1) n (d 8) (fun j => m_tof d o i (j - 65 * (6 * u + i))))) o i (n + 1) = m_tof d o i (n + 1) := by
    unfold m_tof
    by_cases h : o = -1
    · rw [if_pos h, if_pos h]; rfl
    · rw [if_neg h, if_neg h]
      obtain ⟨q, hq, rfl⟩ := ho.resolve_left h
      rw [nI_clamp (by omega)]
      have hqu : q ≠ u := fun h9 => hne (by rw [h9])
      rw [gD_s]
      unfold f_cpO
      rw [if_neg (by omega)]
  rw [e]
  have h2 := f_cpO_s (65 * (6 * u + i) + 1) n (d 8) (fun j => m_tof d o i (j - 65 * (6 * u + i)))
  rw [show 65 * (6 * u + i) + 1 + n = 65 * (6 * u + i) + (n + 1) by omega, show 65 * (6 * u + i) + (n + 1) - 65 * (6 * u + i) = n + 1 by omega] at h2
  exact h2
theorem m_knc_s {f : Nat → Int32} {i k : Nat} {v : Int32} (hk : k < 8) (hi : i < 6) (e : v = if f ((6 : Int32) * nI k + nI i).toNatClampNeg = 0 then (0 : Int32) else 1) : nI (m_knc f i k) + v = nI (m_knc f i (k + 1)) := by
  rw [ix_knI hk hi, nI_clamp (by omega)] at e
  rw [e]
  show _ = nI (if _ then _ else _)
  split
  · exact Int32.add_zero _
  · exact nI_1 _
def ga_learn (d : gDt) (x y o : Int32) : Int32 := (if (m_isPlayer d x) = 0 then 0 else (if (m_isPiece d y) = 0 then 0 else (if o = (-1) then 1 else (if (m_isPlayer d o) = 0 then 0 else 1 : Int32) : Int32) : Int32) : Int32)
def gb_learn (d : gDt) (x y o : Int32) : Int32 := (if o = x then 0 else 1 : Int32)
def gc_learn (d : gDt) (x y o : Int32) : Int32 := (if (if (m_isPlayer d x) = 0 then 0 else (if (m_isPiece d y) = 0 then 0 else (if o = (-1) then 1 else (if (m_isPlayer d o) = 0 then 0 else 1 : Int32) : Int32) : Int32) : Int32) = 0 then 0 else (if (m_kn d o y) = 0 then 0 else 1 : Int32) : Int32)
abbrev rm_X6_learn : Room := { frames := 4, cells := 0, slots := 0, locals := 158 }
theorem nm_X6_learn : gNm yX6_learn 3 := ⟨by decide +kernel, by decide +kernel, by decide +kernel⟩
set_option maxHeartbeats 8000000 in
set_option maxRecDepth 100000 in
theorem c_X6_learn (l : Launch) (hfl : l.stackTraces = false) (D : va_G) (tc : Nat → ClassId) (A : Nat → Prop) (w : gW) (ad : Nat → Nat) (d : gDt) (tk : Int64) (st : Nat → Int64) (x : Int32) (y : Int32) (o : Int32) (hM : mW tc w ad d tk st) (hOk : mOk d) : gM l yX6_learn cX6_learn 7 (some .int) rm_X6_learn D tc A [.ref (ad 0), .int x, .int y, .int o] w (fun v w' => (m_go (ga_learn d x y o) (gb_learn d x y o) (gc_learn d x y o) = 0 ∧ (∃ r, v = some (.int r)) ∧ mW tc w' ad (sL d (m_la (ga_learn d x y o) (gb_learn d x y o) (gc_learn d x y o))) tk st ∧ gF w w') ∨ (¬ m_go (ga_learn d x y o) (gb_learn d x y o) (gc_learn d x y o) = 0 ∧ v = some (.int (nI (m_knc (upd (d 7) (6 * x + y).toNatClampNeg 1) y.toNatClampNeg (nU d)))) ∧ mW tc w' ad (sL (m_lrn d x y o) 0) tk st ∧ gF w w')) (fun _ => False) := by
  refine gM_of (by decide +kernel) (Nat.le_of_ble_eq_true rfl) ?_
  intro p e s m args below meth c ls Q hQ hE hG hr hnt hnm hl
  have hx := hE.1
  have hb := hE.2.1
  have hl : lv_has ls 7 [(0, .ref (ad 0)), (1, .int x), (2, .int y), (3, .int o)] := hl
  obtain ⟨o0, o1, o2, o3, o4, o5, o6, o7, o8, o9, o10⟩ := hM
  refine lv_aload_n hx hb dX6_learn_0 rfl (lv_at hl 0 rfl) ?_
  refine lv_iload_n hx hb dX6_learn_1 rfl (lv_at hl 1 rfl) ?_
  refine g_callV (rest := []) (As := [.int x]) hE hG hl.1 (c_X6_isPlayer l hfl D tc A w ad d tk st x ⟨o0, o1, o2, o3, o4, o5, o6, o7, o8, o9, o10⟩ ) o0 rfl mw4_169 mw4_171 mws_19 mw1_4 mw4_172 rfl nm_X6_isPlayer ⟨⟨Nat.le_of_ble_eq_true rfl, Nat.le_of_ble_eq_true rfl⟩, Nat.le_of_ble_eq_true rfl, Nat.le_of_ble_eq_true rfl⟩ rfl rfl (Nat.le_of_ble_eq_true rfl) dX6_learn_2 (g_no) ?_
  intro v9 w9 H locs h9 hG
  obtain ⟨e9, f9⟩ := h9
  rw [f9] at hG; rw [e9]; clear e9 f9
  show W p l e _ s m args below meth c H locs _ _ _ (F0 m 5 ls [.int (m_isPlayer d x)])
  have j_2 : ∀ (v_1 : Int32) (H : Heap) (locs : List Loc), v_1 = (if (m_isPlayer d x) = 0 then 0 else (if (m_isPiece d y) = 0 then 0 else (if o = (-1) then 1 else (if (m_isPlayer d o) = 0 then 0 else 1 : Int32) : Int32) : Int32) : Int32) → gS D A s.heap w H locs → W p l e rm_X6_learn s m args below meth c H locs (0 + rm_X6_isPlayer.cells) (0 + rm_X6_isPlayer.slots) Q (F0 m 34 ls (.int v_1 :: [])) := by
    intro v_1 H locs ev_1 hG
    refine lv_istore (lv' := [(4, .int v_1), (0, .ref (ad 0)), (1, .int x), (2, .int y), (3, .int o)]) hx hb dX6_learn_34 hl (by decide) rfl (fun ls hl => ?_)
    refine lv_aload_n hx hb dX6_learn_36 rfl (lv_at hl 1 rfl) ?_
    refine lv_iload hx hb dX6_learn_37 (lv_at hl 0 rfl) ?_
    refine lv_iload_n hx hb dX6_learn_39 rfl (lv_at hl 4 rfl) ?_
    refine lv_iload_n hx hb dX6_learn_40 rfl (lv_at hl 2 rfl) ?_
    have j_4 : ∀ (v_3 : Int32) (H : Heap) (locs : List Loc), v_3 = (if o = x then 0 else 1 : Int32) → gS D A s.heap w H locs → W p l e rm_X6_learn s m args below meth c H locs (0 + rm_X6_isPlayer.cells) (0 + rm_X6_isPlayer.slots) Q (F0 m 49 ls (.int v_3 :: [.int v_1, .ref (ad 0)])) := by
      intro v_3 H locs ev_3 hG
      refine lv_iload hx hb dX6_learn_49 (lv_at hl 0 rfl) ?_
      have j_6 : ∀ (v_5 : Int32) (H : Heap) (locs : List Loc), v_5 = (if v_1 = 0 then 0 else (if (m_kn d o y) = 0 then 0 else 1 : Int32) : Int32) → gS D A s.heap w H locs → W p l e rm_X6_learn s m args below meth c H locs (0 + rm_X6_isPlayer.cells) (0 + rm_X6_isPlayer.slots) Q (F0 m 68 ls (.int v_5 :: [.int v_3, .int v_1, .ref (ad 0)])) := by
        intro v_5 H locs ev_5 hG
        refine g_callV (rest := []) (As := [.int v_1, .int v_3, .int v_5]) hE hG hl.1 (c_X6_goes l hfl D tc A w ad d tk st v_1 v_3 v_5 ⟨o0, o1, o2, o3, o4, o5, o6, o7, o8, o9, o10⟩ ) o0 rfl mw4_38 mw4_40 mws_12 mw1_4 mw4_41 rfl nm_X6_goes ⟨⟨Nat.le_of_ble_eq_true rfl, Nat.le_of_ble_eq_true rfl⟩, Nat.le_of_ble_eq_true rfl, Nat.le_of_ble_eq_true rfl⟩ rfl rfl (Nat.le_of_ble_eq_true rfl) dX6_learn_68 (g_no) ?_
        intro v9 w_7 H locs h9 hG
        obtain ⟨e9, ew_7⟩ := h9
        rw [e9]; clear e9
        show W p l e _ s m args below meth c H locs _ _ _ (F0 m 71 ls [.int (m_go v_1 v_3 v_5)])
        have h_8 : w_7 1001 = some ((ad 1), .inl (tc 0, 4, .inl (d 0))) := gU_n ew_7 (by decide) o1
        have h_9 : w_7 1002 = some ((ad 2), .inl (tc 0, 6, .inl (d 1))) := gU_n ew_7 (by decide) o2
        have h_10 : w_7 1003 = some ((ad 3), .inl (tc 0, 6, .inl (d 2))) := gU_n ew_7 (by decide) o3
        have h_11 : w_7 1004 = some ((ad 4), .inl (tc 0, 390, .inl (d 3))) := gU_n ew_7 (by decide) o4
        have h_12 : w_7 1005 = some ((ad 5), .inl (tc 1, 4, .inr (.inl st))) := gU_n ew_7 (by decide) o5
        have h_13 : w_7 1006 = some ((ad 6), .inl (tc 0, 32, .inl (d 4))) := gU_n ew_7 (by decide) o6
        have h_14 : w_7 1007 = some ((ad 7), .inl (tc 0, 4, .inl (d 5))) := gU_n ew_7 (by decide) o7
        have h_15 : w_7 1008 = some ((ad 8), .inl (tc 0, 8, .inl (d 6))) := gU_n ew_7 (by decide) o8
        have h_16 : w_7 1009 = some ((ad 9), .inl (tc 2, 48, .inl (d 7))) := gU_n ew_7 (by decide) o9
        have h_17 : w_7 1010 = some ((ad 10), .inl (tc 0, 3120, .inl (d 8))) := gU_n ew_7 (by decide) o10
        have h_18 : w_7 1000 = some ((ad 0), .inr (6, [.ref (ad 1), .int (d 9 0), .ref (ad 2), .ref (ad 3), .ref (ad 4), .int (d 9 1), .int (d 9 2), .int (d 9 3), .int (d 9 4), .int (d 9 5), .int (d 9 6), .int (d 9 7), .int (d 9 8), .int (d 9 9), .long tk, .ref (ad 5), .int (d 9 10), .int (d 9 11), .ref (ad 6), .ref (ad 7), .int (d 9 12), .ref (ad 8), .ref (ad 9), .ref (ad 10), .int (d 9 13), .int (m_la v_1 v_3 v_5)])) := gU_s ew_7
        refine lv_if_ne (tgt := 76) hx hb dX6_learn_71 (by decide) (fun c_19 => ?_) (fun c_19 => ?_)
        · skip
          have hkn := (m_go_ne c_19).1
          rw [ev_1] at hkn
          have hk2 := (m_go_ne c_19).2.1
          rw [ev_3] at hk2
          have hne9 := one_ne hk2
          obtain ⟨hkp, hko, hki⟩ := lrn_ne hkn
          have ho9 : o = -1 ∨ ∃ u, u < 8 ∧ o = nI u := hko.imp id (fun h => by obtain ⟨q, hq, e9⟩ := m_isPlayer_ne hOk h; exact ⟨q, by have := hOk.1.2.2; omega, e9⟩)
          obtain ⟨u, hu, hxu⟩ := m_isPlayer_ne hOk hkp
          obtain ⟨i, hi, hyi⟩ := m_isPiece_ne hOk hki
          have hu8 : u < 8 := by have := hOk.1.2.2; omega
          have hi6 : i < 6 := by have := hOk.1.2.1; omega
          clear hkn hk2 hko hki hkp
          have hg_v_1 : v_1 = ga_learn d x y o := ev_1
          subst hg_v_1
          have hg_v_3 : v_3 = gb_learn d x y o := ev_3
          subst hg_v_3
          have hg_v_5 : v_5 = gc_learn d x y o := ev_5
          subst hg_v_5
          subst hxu
          subst hyi
          have hU8 := hOk.1.2.2
          have hn64 := (mOk_len hOk hi).2.2.1
          have hiu : (nI u).toNatClampNeg = u := nI_clamp (by omega)
          have hii : (nI i).toNatClampNeg = i := nI_clamp (by omega)
          refine lv_iconst (v := 1) hx hb dX6_learn_76 (by decide) ?_
          refine lv_istore (lv' := [(5, .int 1), (4, .int (ga_learn d (nI u) (nI i) o)), (0, .ref (ad 0)), (1, .int (nI u)), (2, .int (nI i)), (3, .int o)]) hx hb dX6_learn_77 hl (by decide) rfl (fun ls hl => ?_)
          have hl : lv_has ls 7 [(5, .int (nI ((lenN d i) - (lenN d i) + 1))), (4, .int (ga_learn d (nI u) (nI i) o)), (0, .ref (ad 0)), (1, .int (nI u)), (2, .int (nI i)), (3, .int o)] := by rw [Nat.sub_self]; exact hl
          have hw_220 : w_7 = gU w_7 1010 ((ad 10), .inl (tc 0, 3120, .inl (f_cpO (65 * (6 * u + i) + 1) ((lenN d i) - (lenN d i)) (d 8) (fun j => m_tof d o i (j - 65 * (6 * u + i)))))) := by rw [Nat.sub_self, f_cpO_0]; exact (gU_self h_17).symm
          have hloop_24 : ∀ (k_20 : Nat) (w_21 : gW) (H : Heap) (locs : List Loc) (ls : Array Slot), k_20 ≤ (lenN d i) → w_21 = gU w_7 1010 ((ad 10), .inl (tc 0, 3120, .inl (f_cpO (65 * (6 * u + i) + 1) ((lenN d i) - k_20) (d 8) (fun j => m_tof d o i (j - 65 * (6 * u + i)))))) → gS D A s.heap w_21 H locs → lv_has ls 7 [(5, .int (nI ((lenN d i) - k_20 + 1))), (4, .int (ga_learn d (nI u) (nI i) o)), (0, .ref (ad 0)), (1, .int (nI u)), (2, .int (nI i)), (3, .int o)] → W p l e rm_X6_learn s m args below meth c H locs ((0 + rm_X6_isPlayer.cells) + rm_X6_goes.cells) ((0 + rm_X6_isPlayer.slots) + rm_X6_goes.slots) Q (F0 m 79 ls []) := by
            intro k_20
            induction k_20 with
            | zero =>
              intro w_21 H locs ls hk_23 hw_22 hG hl
              have h_25 : w_21 1001 = some ((ad 1), .inl (tc 0, 4, .inl (d 0))) := gU_n hw_22 (by decide) h_8
              have h_26 : w_21 1002 = some ((ad 2), .inl (tc 0, 6, .inl (d 1))) := gU_n hw_22 (by decide) h_9
              have h_27 : w_21 1003 = some ((ad 3), .inl (tc 0, 6, .inl (d 2))) := gU_n hw_22 (by decide) h_10
              have h_28 : w_21 1004 = some ((ad 4), .inl (tc 0, 390, .inl (d 3))) := gU_n hw_22 (by decide) h_11
              have h_29 : w_21 1005 = some ((ad 5), .inl (tc 1, 4, .inr (.inl st))) := gU_n hw_22 (by decide) h_12
              have h_30 : w_21 1006 = some ((ad 6), .inl (tc 0, 32, .inl (d 4))) := gU_n hw_22 (by decide) h_13
              have h_31 : w_21 1007 = some ((ad 7), .inl (tc 0, 4, .inl (d 5))) := gU_n hw_22 (by decide) h_14
              have h_32 : w_21 1008 = some ((ad 8), .inl (tc 0, 8, .inl (d 6))) := gU_n hw_22 (by decide) h_15
              have h_33 : w_21 1009 = some ((ad 9), .inl (tc 2, 48, .inl (d 7))) := gU_n hw_22 (by decide) h_16
              have h_34 : w_21 1000 = some ((ad 0), .inr (6, [.ref (ad 1), .int (d 9 0), .ref (ad 2), .ref (ad 3), .ref (ad 4), .int (d 9 1), .int (d 9 2), .int (d 9 3), .int (d 9 4), .int (d 9 5), .int (d 9 6), .int (d 9 7), .int (d 9 8), .int (d 9 9), .long tk, .ref (ad 5), .int (d 9 10), .int (d 9 11), .ref (ad 6), .ref (ad 7), .int (d 9 12), .ref (ad 8), .ref (ad 9), .ref (ad 10), .int (d 9 13), .int (m_la (ga_learn d (nI u) (nI i) o) (gb_learn d (nI u) (nI i) o) (gc_learn d (nI u) (nI i) o))])) := gU_n hw_22 (by decide) h_18
              have h_35 : w_21 1010 = some ((ad 10), .inl (tc 0, 3120, .inl (f_cpO (65 * (6 * u + i) + 1) ((lenN d i) - 0) (d 8) (fun j => m_tof d o i (j - 65 * (6 * u + i)))))) := gU_s hw_22
              refine lv_iload hx hb dX6_learn_79 (lv_at hl 0 rfl) ?_
              have hw_22z : w_21 = gU w_7 1010 ((ad 10), .inl (tc 0, 3120, .inl (f_cpO (65 * (6 * u + i) + 1) (lenN d i) (d 8) (fun j => m_tof d o i (j - 65 * (6 * u + i)))))) := hw_22
              have h_35z : w_21 1010 = some ((ad 10), .inl (tc 0, 3120, .inl (f_cpO (65 * (6 * u + i) + 1) (lenN d i) (d 8) (fun j => m_tof d o i (j - 65 * (6 * u + i)))))) := h_35
              refine lv_aload_n hx hb dX6_learn_81 rfl (lv_at hl 2 rfl) ?_
              refine lv_iload_n hx hb dX6_learn_82 rfl (lv_at hl 4 rfl) ?_
              refine g_callV (rest := [.int (nI ((lenN d i) - 0 + 1))]) (As := [.int (nI i)]) hE hG hl.1 (c_X6_lengthOf l hfl D tc A w_21 ad (gD (gD d 8 (f_cpO (65 * (6 * u + i) + 1) (lenN d i) (d 8) (fun j => m_tof d o i (j - 65 * (6 * u + i))))) 9 (upd (d 9) 14 (m_la (ga_learn d (nI u) (nI i) o) (gb_learn d (nI u) (nI i) o) (gc_learn d (nI u) (nI i) o)))) tk st i ⟨h_34, h_25, h_26, h_27, h_28, h_29, h_30, h_31, h_32, h_33, h_35z⟩ hOk hi) h_34 rfl mw4_66 mw4_68 mws_16 mw1_4 mw4_69 rfl nm_X6_lengthOf ⟨⟨Nat.le_of_ble_eq_true rfl, Nat.le_of_ble_eq_true rfl⟩, Nat.le_of_ble_eq_true rfl, Nat.le_of_ble_eq_true rfl⟩ rfl rfl (Nat.le_of_ble_eq_true rfl) dX6_learn_83 (g_no) ?_
              intro v9 w9 H locs h9 hG
              obtain ⟨e9, f9⟩ := h9
              rw [f9] at hG; rw [e9]; clear e9 f9
              show W p l e _ s m args below meth c H locs _ _ _ (F0 m 86 ls [.int (nI (lenN d i)), .int (nI ((lenN d i) - 0 + 1))])
              refine lv_icmp_gt (tgt := 120) hx hb dX6_learn_86 (by decide) (fun c9 => ?_) (fun c9 => (c9 (nI_lt (a := (lenN d i)) (by omega) (by omega))).elim)
              refine lv_aload_n hx hb dX6_learn_120 rfl (lv_at hl 2 rfl) ?_
              refine g_get hE hG h_34 rfl inG6 22 (by decide) mw3_209 rfl dX6_learn_121 ?_
              refine lv_bipush (v := 6) hx hb dX6_learn_124 (by decide) ?_
              refine lv_iload_n hx hb dX6_learn_126 rfl (lv_at hl 3 rfl) ?_
              refine lv_imul hx hb dX6_learn_127 ?_
              refine lv_iload_n hx hb dX6_learn_128 rfl (lv_at hl 4 rfl) ?_
              refine lv_iadd hx hb dX6_learn_129 ?_
              refine lv_iconst (v := 1) hx hb dX6_learn_130 (by decide) ?_
              refine g_zast hE hG h_33 (by decide) (by rw [ix_knI hu8 hi6]; exact vp_in_nI (by omega) (by decide)) dX6_learn_131 (fun H locs w_36 ew_36 hG => ?_)
              have h_37 : w_36 1001 = some ((ad 1), .inl (tc 0, 4, .inl (d 0))) := gU_n ew_36 (by decide) h_25
              have h_38 : w_36 1002 = some ((ad 2), .inl (tc 0, 6, .inl (d 1))) := gU_n ew_36 (by decide) h_26
              have h_39 : w_36 1003 = some ((ad 3), .inl (tc 0, 6, .inl (d 2))) := gU_n ew_36 (by decide) h_27
              have h_40 : w_36 1004 = some ((ad 4), .inl (tc 0, 390, .inl (d 3))) := gU_n ew_36 (by decide) h_28
              have h_41 : w_36 1005 = some ((ad 5), .inl (tc 1, 4, .inr (.inl st))) := gU_n ew_36 (by decide) h_29
              have h_42 : w_36 1006 = some ((ad 6), .inl (tc 0, 32, .inl (d 4))) := gU_n ew_36 (by decide) h_30
              have h_43 : w_36 1007 = some ((ad 7), .inl (tc 0, 4, .inl (d 5))) := gU_n ew_36 (by decide) h_31
              have h_44 : w_36 1008 = some ((ad 8), .inl (tc 0, 8, .inl (d 6))) := gU_n ew_36 (by decide) h_32
              have h_45 : w_36 1000 = some ((ad 0), .inr (6, [.ref (ad 1), .int (d 9 0), .ref (ad 2), .ref (ad 3), .ref (ad 4), .int (d 9 1), .int (d 9 2), .int (d 9 3), .int (d 9 4), .int (d 9 5), .int (d 9 6), .int (d 9 7), .int (d 9 8), .int (d 9 9), .long tk, .ref (ad 5), .int (d 9 10), .int (d 9 11), .ref (ad 6), .ref (ad 7), .int (d 9 12), .ref (ad 8), .ref (ad 9), .ref (ad 10), .int (d 9 13), .int (m_la (ga_learn d (nI u) (nI i) o) (gb_learn d (nI u) (nI i) o) (gc_learn d (nI u) (nI i) o))])) := gU_n ew_36 (by decide) h_34
              have h_46 : w_36 1010 = some ((ad 10), .inl (tc 0, 3120, .inl (f_cpO (65 * (6 * u + i) + 1) (lenN d i) (d 8) (fun j => m_tof d o i (j - 65 * (6 * u + i)))))) := gU_n ew_36 (by decide) h_35z
              have h_47 : w_36 1009 = some ((ad 9), .inl (tc 2, 48, .inl (upd (d 7) ((6 * (nI u)) + (nI i)).toNatClampNeg 1))) := gU_s ew_36
              refine lv_iconst (v := 0) hx hb dX6_learn_132 (by decide) ?_
              refine lv_istore (lv' := [(5, .int 0), (4, .int (ga_learn d (nI u) (nI i) o)), (0, .ref (ad 0)), (1, .int (nI u)), (2, .int (nI i)), (3, .int o)]) hx hb dX6_learn_133 hl (by decide) rfl (fun ls hl => ?_)
              refine lv_iconst (v := 0) hx hb dX6_learn_135 (by decide) ?_
              refine lv_istore (lv' := [(6, .int 0), (5, .int 0), (4, .int (ga_learn d (nI u) (nI i) o)), (0, .ref (ad 0)), (1, .int (nI u)), (2, .int (nI i)), (3, .int o)]) hx hb dX6_learn_136 hl (by decide) rfl (fun ls hl => ?_)
              have hl : lv_has ls 7 [(6, .int (nI ((nU d) - (nU d)))), (5, .int (nI (m_knc (upd (d 7) ((6 * (nI u)) + (nI i)).toNatClampNeg 1) i ((nU d) - (nU d))))), (4, .int (ga_learn d (nI u) (nI i) o)), (0, .ref (ad 0)), (1, .int (nI u)), (2, .int (nI i)), (3, .int o)] := by rw [Nat.sub_self]; exact hl
              have hloop_50 : ∀ (k_48 : Nat) (H : Heap) (locs : List Loc) (ls : Array Slot), k_48 ≤ (nU d) → gS D A s.heap w_36 H locs → lv_has ls 7 [(6, .int (nI ((nU d) - k_48))), (5, .int (nI (m_knc (upd (d 7) ((6 * (nI u)) + (nI i)).toNatClampNeg 1) i ((nU d) - k_48)))), (4, .int (ga_learn d (nI u) (nI i) o)), (0, .ref (ad 0)), (1, .int (nI u)), (2, .int (nI i)), (3, .int o)] → W p l e rm_X6_learn s m args below meth c H locs (((0 + rm_X6_isPlayer.cells) + rm_X6_goes.cells) + rm_X6_lengthOf.cells) (((0 + rm_X6_isPlayer.slots) + rm_X6_goes.slots) + rm_X6_lengthOf.slots) Q (F0 m 138 ls []) := by
                intro k_48
                induction k_48 with
                | zero =>
                  intro H locs ls hk_49 hG hl
                  refine lv_iload hx hb dX6_learn_138 (lv_at hl 0 rfl) ?_
                  refine lv_aload_n hx hb dX6_learn_140 rfl (lv_at hl 3 rfl) ?_
                  refine g_get hE hG h_45 rfl inG6 24 (by decide) mw3_211 rfl dX6_learn_141 ?_
                  rw [hOk.2.1.2.2]
                  refine lv_icmp_ge (tgt := 178) hx hb dX6_learn_144 (by decide) (fun c9 => ?_) (fun c9 => (c9 (nI_le (a := (nU d)) (by omega) (by omega))).elim)
                  refine lv_iload hx hb dX6_learn_178 (lv_at hl 1 rfl) ?_
                  subst hQ
                  rw [m_la_ok c_19] at h_45
                  exact g_iret hE hG hr (Nat.le_of_ble_eq_true rfl) (Nat.le_of_ble_eq_true rfl) dX6_learn_180 (Or.inr ⟨c_19, (by rw [hii] <;> rfl), (by unfold m_lrn m_lrnV; rw [hiu, hii]; exact ⟨h_45, h_37, h_38, h_39, h_40, h_41, h_42, h_43, h_44, h_47, h_46⟩), gF_u (gF_u (gF_u (gF_rf w) ew_7 (by decide)) hw_22z (by decide)) ew_36 (by decide)⟩)
                | succ k_48 ihk_48 =>
                  intro H locs ls hk_49 hG hl
                  refine lv_iload hx hb dX6_learn_138 (lv_at hl 0 rfl) ?_
                  refine lv_aload_n hx hb dX6_learn_140 rfl (lv_at hl 3 rfl) ?_
                  refine g_get hE hG h_45 rfl inG6 24 (by decide) mw3_211 rfl dX6_learn_141 ?_
                  rw [hOk.2.1.2.2]
                  refine lv_icmp_ge (tgt := 178) hx hb dX6_learn_144 (by decide) (fun c9 => absurd c9 (nI_ge (b := (nU d)) (by omega) (by omega))) (fun c9 => ?_)
                  refine lv_iload hx hb dX6_learn_147 (lv_at hl 1 rfl) ?_
                  refine lv_aload_n hx hb dX6_learn_149 rfl (lv_at hl 3 rfl) ?_
                  refine g_get hE hG h_45 rfl inG6 22 (by decide) mw3_209 rfl dX6_learn_150 ?_
                  refine lv_bipush (v := 6) hx hb dX6_learn_153 (by decide) ?_
                  refine lv_iload hx hb dX6_learn_155 (lv_at hl 0 rfl) ?_
                  refine lv_imul hx hb dX6_learn_157 ?_
                  refine lv_iload_n hx hb dX6_learn_158 rfl (lv_at hl 5 rfl) ?_
                  refine lv_iadd hx hb dX6_learn_159 ?_
                  refine g_zald hE hG h_47 (by rw [ix_knI (by have := hOk.1.2.2; omega) hi6]; exact vp_in_nI (by have := hOk.1.2.2; omega) (by decide)) dX6_learn_160 ?_
                  have j_52 : ∀ (v_51 : Int32) (H : Heap) (locs : List Loc), v_51 = (if ((upd (d 7) ((6 * (nI u)) + (nI i)).toNatClampNeg 1) ((6 * (nI ((nU d) - (k_48 + 1)))) + (nI i)).toNatClampNeg) = 0 then 0 else 1 : Int32) → gS D A s.heap w_36 H locs → W p l e rm_X6_learn s m args below meth c H locs (((0 + rm_X6_isPlayer.cells) + rm_X6_goes.cells) + rm_X6_lengthOf.cells) (((0 + rm_X6_isPlayer.slots) + rm_X6_goes.slots) + rm_X6_lengthOf.slots) Q (F0 m 169 ls (.int v_51 :: [.int (nI (m_knc (upd (d 7) ((6 * (nI u)) + (nI i)).toNatClampNeg 1) i ((nU d) - (k_48 + 1))))])) := by
                    intro v_51 H locs ev_51 hG
                    refine lv_iadd hx hb dX6_learn_169 ?_
                    rw [m_knc_s (by have := hOk.1.2.2; omega) hi6 ev_51]
                    refine lv_istore (lv' := [(5, .int (nI (m_knc (upd (d 7) ((6 * (nI u)) + (nI i)).toNatClampNeg 1) i (nU d - (k_48 + 1) + 1)))), (6, .int (nI ((nU d) - (k_48 + 1)))), (4, .int (ga_learn d (nI u) (nI i) o)), (0, .ref (ad 0)), (1, .int (nI u)), (2, .int (nI i)), (3, .int o)]) hx hb dX6_learn_170 hl (by decide) rfl (fun ls hl => ?_)
                    refine lv_iinc (v := (nI ((nU d) - k_48))) (lv' := [(6, .int (nI ((nU d) - k_48))), (5, .int (nI (m_knc (upd (d 7) ((6 * (nI u)) + (nI i)).toNatClampNeg 1) i (nU d - (k_48 + 1) + 1)))), (4, .int (ga_learn d (nI u) (nI i) o)), (0, .ref (ad 0)), (1, .int (nI u)), (2, .int (nI i)), (3, .int o)]) hx hb dX6_learn_172 hl (k := 1) rfl (by rw [show (nU d) - k_48 = ((nU d) - (k_48 + 1)) + 1 by omega]; exact nI_1 _) (by decide) rfl (fun ls hl => ?_)
                    refine lv_goto (tgt := 138) hx hb dX6_learn_175 (by decide) ?_
                    have hl : lv_has ls 7 [(6, .int (nI ((nU d) - k_48))), (5, .int (nI (m_knc (upd (d 7) ((6 * (nI u)) + (nI i)).toNatClampNeg 1) i ((nU d) - k_48)))), (4, .int (ga_learn d (nI u) (nI i) o)), (0, .ref (ad 0)), (1, .int (nI u)), (2, .int (nI i)), (3, .int o)] := by rw [show (nU d) - k_48 = ((nU d) - (k_48 + 1)) + 1 by omega] at hl ⊢; exact hl
                    exact ihk_48 _ _ _ (by omega) hG (lv_sub hl [0, 1, 2, 3, 4, 5, 6] rfl)
                  refine lv_if_eq (tgt := 168) hx hb dX6_learn_161 (by decide) (fun c_53 => ?_) (fun c_53 => ?_)
                  · skip
                    refine lv_iconst (v := 0) hx hb dX6_learn_168 (by decide) ?_
                    exact j_52 _ _ _ (by rw [if_pos c_53]) hG
                  · skip
                    refine lv_iconst (v := 1) hx hb dX6_learn_164 (by decide) ?_
                    refine lv_goto (tgt := 169) hx hb dX6_learn_165 (by decide) ?_
                    exact j_52 _ _ _ (by rw [if_neg c_53]) hG
              exact hloop_50 (nU d) _ _ _ (Nat.le_refl _) hG (lv_sub hl [0, 1, 2, 3, 4, 5, 6] rfl)
            | succ k_20 ihk_20 =>
              intro w_21 H locs ls hk_23 hw_22 hG hl
              have h_54 : w_21 1001 = some ((ad 1), .inl (tc 0, 4, .inl (d 0))) := gU_n hw_22 (by decide) h_8
              have h_55 : w_21 1002 = some ((ad 2), .inl (tc 0, 6, .inl (d 1))) := gU_n hw_22 (by decide) h_9
              have h_56 : w_21 1003 = some ((ad 3), .inl (tc 0, 6, .inl (d 2))) := gU_n hw_22 (by decide) h_10
              have h_57 : w_21 1004 = some ((ad 4), .inl (tc 0, 390, .inl (d 3))) := gU_n hw_22 (by decide) h_11
              have h_58 : w_21 1005 = some ((ad 5), .inl (tc 1, 4, .inr (.inl st))) := gU_n hw_22 (by decide) h_12
              have h_59 : w_21 1006 = some ((ad 6), .inl (tc 0, 32, .inl (d 4))) := gU_n hw_22 (by decide) h_13
              have h_60 : w_21 1007 = some ((ad 7), .inl (tc 0, 4, .inl (d 5))) := gU_n hw_22 (by decide) h_14
              have h_61 : w_21 1008 = some ((ad 8), .inl (tc 0, 8, .inl (d 6))) := gU_n hw_22 (by decide) h_15
              have h_62 : w_21 1009 = some ((ad 9), .inl (tc 2, 48, .inl (d 7))) := gU_n hw_22 (by decide) h_16
              have h_63 : w_21 1000 = some ((ad 0), .inr (6, [.ref (ad 1), .int (d 9 0), .ref (ad 2), .ref (ad 3), .ref (ad 4), .int (d 9 1), .int (d 9 2), .int (d 9 3), .int (d 9 4), .int (d 9 5), .int (d 9 6), .int (d 9 7), .int (d 9 8), .int (d 9 9), .long tk, .ref (ad 5), .int (d 9 10), .int (d 9 11), .ref (ad 6), .ref (ad 7), .int (d 9 12), .ref (ad 8), .ref (ad 9), .ref (ad 10), .int (d 9 13), .int (m_la (ga_learn d (nI u) (nI i) o) (gb_learn d (nI u) (nI i) o) (gc_learn d (nI u) (nI i) o))])) := gU_n hw_22 (by decide) h_18
              have h_64 : w_21 1010 = some ((ad 10), .inl (tc 0, 3120, .inl (f_cpO (65 * (6 * u + i) + 1) ((lenN d i) - (k_20 + 1)) (d 8) (fun j => m_tof d o i (j - 65 * (6 * u + i)))))) := gU_s hw_22
              refine lv_iload hx hb dX6_learn_79 (lv_at hl 0 rfl) ?_
              refine lv_aload_n hx hb dX6_learn_81 rfl (lv_at hl 2 rfl) ?_
              refine lv_iload_n hx hb dX6_learn_82 rfl (lv_at hl 4 rfl) ?_
              refine g_callV (rest := [.int (nI ((lenN d i) - (k_20 + 1) + 1))]) (As := [.int (nI i)]) hE hG hl.1 (c_X6_lengthOf l hfl D tc A w_21 ad (gD (gD d 8 (f_cpO (65 * (6 * u + i) + 1) ((lenN d i) - (k_20 + 1)) (d 8) (fun j => m_tof d o i (j - 65 * (6 * u + i))))) 9 (upd (d 9) 14 (m_la (ga_learn d (nI u) (nI i) o) (gb_learn d (nI u) (nI i) o) (gc_learn d (nI u) (nI i) o)))) tk st i ⟨h_63, h_54, h_55, h_56, h_57, h_58, h_59, h_60, h_61, h_62, h_64⟩ hOk hi) h_63 rfl mw4_66 mw4_68 mws_16 mw1_4 mw4_69 rfl nm_X6_lengthOf ⟨⟨Nat.le_of_ble_eq_true rfl, Nat.le_of_ble_eq_true rfl⟩, Nat.le_of_ble_eq_true rfl, Nat.le_of_ble_eq_true rfl⟩ rfl rfl (Nat.le_of_ble_eq_true rfl) dX6_learn_83 (g_no) ?_
              intro v9 w9 H locs h9 hG
              obtain ⟨e9, f9⟩ := h9
              rw [f9] at hG; rw [e9]; clear e9 f9
              show W p l e _ s m args below meth c H locs _ _ _ (F0 m 86 ls [.int (nI (lenN d i)), .int (nI ((lenN d i) - (k_20 + 1) + 1))])
              refine lv_icmp_gt (tgt := 120) hx hb dX6_learn_86 (by decide) (fun c9 => absurd c9 (nI_nlt (a := (lenN d i)) (by omega) (by omega))) (fun c9 => ?_)
              refine lv_aload_n hx hb dX6_learn_89 rfl (lv_at hl 2 rfl) ?_
              refine g_get hE hG h_63 rfl inG6 23 (by decide) mw3_210 rfl dX6_learn_90 ?_
              refine lv_bipush (v := 65) hx hb dX6_learn_93 (by decide) ?_
              refine lv_bipush (v := 6) hx hb dX6_learn_95 (by decide) ?_
              refine lv_iload_n hx hb dX6_learn_97 rfl (lv_at hl 3 rfl) ?_
              refine lv_imul hx hb dX6_learn_98 ?_
              refine lv_iload_n hx hb dX6_learn_99 rfl (lv_at hl 4 rfl) ?_
              refine lv_iadd hx hb dX6_learn_100 ?_
              refine lv_imul hx hb dX6_learn_101 ?_
              refine lv_iload hx hb dX6_learn_102 (lv_at hl 0 rfl) ?_
              refine lv_iadd hx hb dX6_learn_104 ?_
              refine lv_aload_n hx hb dX6_learn_105 rfl (lv_at hl 2 rfl) ?_
              refine lv_iload_n hx hb dX6_learn_106 rfl (lv_at hl 5 rfl) ?_
              refine lv_iload_n hx hb dX6_learn_107 rfl (lv_at hl 4 rfl) ?_
              refine lv_iload hx hb dX6_learn_108 (lv_at hl 0 rfl) ?_
              refine g_callV (rest := [.int ((65 * ((6 * (nI u)) + (nI i))) + (nI ((lenN d i) - (k_20 + 1) + 1))), .ref (ad 10)]) (As := [.int o, .int (nI i), .int (nI ((lenN d i) - (k_20 + 1) + 1))]) hE hG hl.1 (c_X6_toneOf l hfl D tc A w_21 ad (gD (gD d 8 (f_cpO (65 * (6 * u + i) + 1) ((lenN d i) - (k_20 + 1)) (d 8) (fun j => m_tof d o i (j - 65 * (6 * u + i))))) 9 (upd (d 9) 14 (m_la (ga_learn d (nI u) (nI i) o) (gb_learn d (nI u) (nI i) o) (gc_learn d (nI u) (nI i) o)))) tk st o i ((lenN d i) - (k_20 + 1) + 1) ⟨h_63, h_54, h_55, h_56, h_57, h_58, h_59, h_60, h_61, h_62, h_64⟩ hi6 (by omega) ho9) h_63 rfl mw4_177 mw4_179 mws_21 mw1_4 mw4_180 rfl nm_X6_toneOf ⟨⟨Nat.le_of_ble_eq_true rfl, Nat.le_of_ble_eq_true rfl⟩, Nat.le_of_ble_eq_true rfl, Nat.le_of_ble_eq_true rfl⟩ rfl rfl (Nat.le_of_ble_eq_true rfl) dX6_learn_110 (g_no) ?_
              intro v9 w9 H locs h9 hG
              obtain ⟨e9, f9⟩ := h9
              rw [f9] at hG; rw [e9]; clear e9 f9
              show W p l e _ s m args below meth c H locs _ _ _ (F0 m 113 ls [.int (m_tof (gD d 8 (f_cpO (65 * (6 * u + i) + 1) ((lenN d i) - (k_20 + 1)) (d 8) (fun j => m_tof d o i (j - 65 * (6 * u + i))))) o i ((lenN d i) - (k_20 + 1) + 1)), .int ((65 * ((6 * (nI u)) + (nI i))) + (nI ((lenN d i) - (k_20 + 1) + 1))), .ref (ad 10)])
              refine g_iast hE hG h_64 (by rw [ix_ver hu8 hi6 (by omega)]; exact vp_in_nI (by omega) (by decide)) dX6_learn_113 (fun H locs w_65 ew_65 hG => ?_)
              have h_66 : w_65 1001 = some ((ad 1), .inl (tc 0, 4, .inl (d 0))) := gU_n ew_65 (by decide) h_54
              have h_67 : w_65 1002 = some ((ad 2), .inl (tc 0, 6, .inl (d 1))) := gU_n ew_65 (by decide) h_55
              have h_68 : w_65 1003 = some ((ad 3), .inl (tc 0, 6, .inl (d 2))) := gU_n ew_65 (by decide) h_56
              have h_69 : w_65 1004 = some ((ad 4), .inl (tc 0, 390, .inl (d 3))) := gU_n ew_65 (by decide) h_57
              have h_70 : w_65 1005 = some ((ad 5), .inl (tc 1, 4, .inr (.inl st))) := gU_n ew_65 (by decide) h_58
              have h_71 : w_65 1006 = some ((ad 6), .inl (tc 0, 32, .inl (d 4))) := gU_n ew_65 (by decide) h_59
              have h_72 : w_65 1007 = some ((ad 7), .inl (tc 0, 4, .inl (d 5))) := gU_n ew_65 (by decide) h_60
              have h_73 : w_65 1008 = some ((ad 8), .inl (tc 0, 8, .inl (d 6))) := gU_n ew_65 (by decide) h_61
              have h_74 : w_65 1009 = some ((ad 9), .inl (tc 2, 48, .inl (d 7))) := gU_n ew_65 (by decide) h_62
              have h_75 : w_65 1000 = some ((ad 0), .inr (6, [.ref (ad 1), .int (d 9 0), .ref (ad 2), .ref (ad 3), .ref (ad 4), .int (d 9 1), .int (d 9 2), .int (d 9 3), .int (d 9 4), .int (d 9 5), .int (d 9 6), .int (d 9 7), .int (d 9 8), .int (d 9 9), .long tk, .ref (ad 5), .int (d 9 10), .int (d 9 11), .ref (ad 6), .ref (ad 7), .int (d 9 12), .ref (ad 8), .ref (ad 9), .ref (ad 10), .int (d 9 13), .int (m_la (ga_learn d (nI u) (nI i) o) (gb_learn d (nI u) (nI i) o) (gc_learn d (nI u) (nI i) o))])) := gU_n ew_65 (by decide) h_63
              have h_76 : w_65 1010 = some ((ad 10), .inl (tc 0, 3120, .inl (upd (f_cpO (65 * (6 * u + i) + 1) ((lenN d i) - (k_20 + 1)) (d 8) (fun j => m_tof d o i (j - 65 * (6 * u + i)))) ((65 * ((6 * (nI u)) + (nI i))) + (nI ((lenN d i) - (k_20 + 1) + 1))).toNatClampNeg (m_tof (gD d 8 (f_cpO (65 * (6 * u + i) + 1) ((lenN d i) - (k_20 + 1)) (d 8) (fun j => m_tof d o i (j - 65 * (6 * u + i))))) o i ((lenN d i) - (k_20 + 1) + 1))))) := gU_s ew_65
              refine lv_iinc (v := (nI ((lenN d i) - k_20 + 1))) (lv' := [(5, .int (nI ((lenN d i) - k_20 + 1))), (4, .int (ga_learn d (nI u) (nI i) o)), (0, .ref (ad 0)), (1, .int (nI u)), (2, .int (nI i)), (3, .int o)]) hx hb dX6_learn_114 hl (k := 0) rfl (by rw [show (lenN d i) - k_20 + 1 = ((lenN d i) - (k_20 + 1) + 1) + 1 by omega]; exact nI_1 _) (by decide) rfl (fun ls hl => ?_)
              refine lv_goto (tgt := 79) hx hb dX6_learn_117 (by decide) ?_
              exact ihk_20 w_65 _ _ _ (by omega) (by rw [ew_65, hw_22, gU_gU, lrn_st hu8 hi6 (by omega) ho9 hne9, show (lenN d i) - k_20 = ((lenN d i) - (k_20 + 1)) + 1 by omega]) hG (lv_sub hl [0, 1, 2, 3, 4, 5] rfl)
          exact hloop_24 (lenN d i) w_7 _ _ _ (Nat.le_refl _) hw_220 hG (lv_sub hl [0, 1, 2, 3, 4, 5] rfl)
        · skip
          refine lv_iconst (v := 0) hx hb dX6_learn_74 (by decide) ?_
          subst hQ
          have hg_v_1 : v_1 = ga_learn d x y o := ev_1
          subst hg_v_1
          have hg_v_3 : v_3 = gb_learn d x y o := ev_3
          subst hg_v_3
          have hg_v_5 : v_5 = gc_learn d x y o := ev_5
          subst hg_v_5
          exact g_iret hE hG hr (Nat.le_of_ble_eq_true rfl) (Nat.le_of_ble_eq_true rfl) dX6_learn_75 (Or.inl ⟨c_19, ⟨_, rfl⟩, mW_mk h_18 h_8 h_9 h_10 h_11 h_12 h_13 h_14 h_15 h_16 h_17, gF_u (gF_rf w) ew_7 (by decide)⟩)
      refine lv_if_eq (tgt := 67) hx hb dX6_learn_51 (by decide) (fun c_77 => ?_) (fun c_77 => ?_)
      · skip
        refine lv_iconst (v := 0) hx hb dX6_learn_67 (by decide) ?_
        exact j_6 _ _ _ (by rw [if_pos c_77]) hG
      · skip
        refine lv_aload_n hx hb dX6_learn_54 rfl (lv_at hl 1 rfl) ?_
        refine lv_iload_n hx hb dX6_learn_55 rfl (lv_at hl 4 rfl) ?_
        refine lv_iload_n hx hb dX6_learn_56 rfl (lv_at hl 3 rfl) ?_
        refine g_callV (rest := [.int v_3, .int v_1, .ref (ad 0)]) (As := [.int o, .int y]) hE hG hl.1 (c_X6_knowsIt l hfl D tc A w ad d tk st o y ⟨o0, o1, o2, o3, o4, o5, o6, o7, o8, o9, o10⟩ ((lrn_ne (fun h => c_77 (ev_1.trans h))).2.1.imp id (fun h => ix_kn hOk h (lrn_ne (fun h => c_77 (ev_1.trans h))).2.2))) o0 rfl mw4_173 mw4_175 mws_20 mw1_4 mw4_176 rfl nm_X6_knowsIt ⟨⟨Nat.le_of_ble_eq_true rfl, Nat.le_of_ble_eq_true rfl⟩, Nat.le_of_ble_eq_true rfl, Nat.le_of_ble_eq_true rfl⟩ rfl rfl (Nat.le_of_ble_eq_true rfl) dX6_learn_57 (g_no) ?_
        intro v9 w9 H locs h9 hG
        obtain ⟨e9, f9⟩ := h9
        rw [f9] at hG; rw [e9]; clear e9 f9
        show W p l e _ s m args below meth c H locs _ _ _ (F0 m 60 ls [.int (m_kn d o y), .int v_3, .int v_1, .ref (ad 0)])
        refine lv_if_eq (tgt := 67) hx hb dX6_learn_60 (by decide) (fun c_78 => ?_) (fun c_78 => ?_)
        · skip
          refine lv_iconst (v := 0) hx hb dX6_learn_67 (by decide) ?_
          exact j_6 _ _ _ (by rw [if_neg c_77, if_pos c_78]) hG
        · skip
          refine lv_iconst (v := 1) hx hb dX6_learn_63 (by decide) ?_
          refine lv_goto (tgt := 68) hx hb dX6_learn_64 (by decide) ?_
          exact j_6 _ _ _ (by rw [if_neg c_77, if_neg c_78]) hG
    refine lv_icmp_eq (tgt := 48) hx hb dX6_learn_41 (by decide) (fun c_79 => ?_) (fun c_79 => ?_)
    · skip
      refine lv_iconst (v := 0) hx hb dX6_learn_48 (by decide) ?_
      exact j_4 _ _ _ (by rw [if_pos c_79]) hG
    · skip
      refine lv_iconst (v := 1) hx hb dX6_learn_44 (by decide) ?_
      refine lv_goto (tgt := 49) hx hb dX6_learn_45 (by decide) ?_
      exact j_4 _ _ _ (by rw [if_neg c_79]) hG
  refine lv_if_eq (tgt := 33) hx hb dX6_learn_5 (by decide) (fun c_80 => ?_) (fun c_80 => ?_)
  · skip
    refine lv_iconst (v := 0) hx hb dX6_learn_33 (by decide) ?_
    exact j_2 _ _ _ (by rw [if_pos c_80]) hG
  · skip
    refine lv_aload_n hx hb dX6_learn_8 rfl (lv_at hl 0 rfl) ?_
    refine lv_iload_n hx hb dX6_learn_9 rfl (lv_at hl 2 rfl) ?_
    refine g_callV (rest := []) (As := [.int y]) hE hG hl.1 (c_X6_isPiece l hfl D tc A w ad d tk st y ⟨o0, o1, o2, o3, o4, o5, o6, o7, o8, o9, o10⟩ ) o0 rfl mw4_62 mw4_64 mws_15 mw1_4 mw4_65 rfl nm_X6_isPiece ⟨⟨Nat.le_of_ble_eq_true rfl, Nat.le_of_ble_eq_true rfl⟩, Nat.le_of_ble_eq_true rfl, Nat.le_of_ble_eq_true rfl⟩ rfl rfl (Nat.le_of_ble_eq_true rfl) dX6_learn_10 (g_no) ?_
    intro v9 w9 H locs h9 hG
    obtain ⟨e9, f9⟩ := h9
    rw [f9] at hG; rw [e9]; clear e9 f9
    show W p l e _ s m args below meth c H locs _ _ _ (F0 m 13 ls [.int (m_isPiece d y)])
    refine lv_if_eq (tgt := 33) hx hb dX6_learn_13 (by decide) (fun c_81 => ?_) (fun c_81 => ?_)
    · skip
      refine lv_iconst (v := 0) hx hb dX6_learn_33 (by decide) ?_
      exact j_2 _ _ _ (by rw [if_neg c_80, if_pos c_81]) hG
    · skip
      refine lv_iload_n hx hb dX6_learn_16 rfl (lv_at hl 3 rfl) ?_
      refine lv_iconst (v := (-1)) hx hb dX6_learn_17 (by decide) ?_
      refine lv_icmp_eq (tgt := 29) hx hb dX6_learn_18 (by decide) (fun c_82 => ?_) (fun c_82 => ?_)
      · skip
        refine lv_iconst (v := 1) hx hb dX6_learn_29 (by decide) ?_
        refine lv_goto (tgt := 34) hx hb dX6_learn_30 (by decide) ?_
        exact j_2 _ _ _ (by rw [if_neg c_80, if_neg c_81, if_pos c_82]) hG
      · skip
        refine lv_aload_n hx hb dX6_learn_21 rfl (lv_at hl 0 rfl) ?_
        refine lv_iload_n hx hb dX6_learn_22 rfl (lv_at hl 3 rfl) ?_
        refine g_callV (rest := []) (As := [.int o]) hE hG hl.1 (c_X6_isPlayer l hfl D tc A w ad d tk st o ⟨o0, o1, o2, o3, o4, o5, o6, o7, o8, o9, o10⟩ ) o0 rfl mw4_169 mw4_171 mws_19 mw1_4 mw4_172 rfl nm_X6_isPlayer ⟨⟨Nat.le_of_ble_eq_true rfl, Nat.le_of_ble_eq_true rfl⟩, Nat.le_of_ble_eq_true rfl, Nat.le_of_ble_eq_true rfl⟩ rfl rfl (Nat.le_of_ble_eq_true rfl) dX6_learn_23 (g_no) ?_
        intro v9 w9 H locs h9 hG
        obtain ⟨e9, f9⟩ := h9
        rw [f9] at hG; rw [e9]; clear e9 f9
        show W p l e _ s m args below meth c H locs _ _ _ (F0 m 26 ls [.int (m_isPlayer d o)])
        refine lv_if_eq (tgt := 33) hx hb dX6_learn_26 (by decide) (fun c_83 => ?_) (fun c_83 => ?_)
        · skip
          refine lv_iconst (v := 0) hx hb dX6_learn_33 (by decide) ?_
          exact j_2 _ _ _ (by rw [if_neg c_80, if_neg c_81, if_neg c_82, if_pos c_83]) hG
        · skip
          refine lv_iconst (v := 1) hx hb dX6_learn_29 (by decide) ?_
          refine lv_goto (tgt := 34) hx hb dX6_learn_30 (by decide) ?_
          exact j_2 _ _ _ (by rw [if_neg c_80, if_neg c_81, if_neg c_82, if_neg c_83]) hG
def m_wI (a s c : Int32) : Nat → Int32
  | 0 => c
  | k + 1 => m_wI a s c k ||| (if (a >>> (nI k &&& 31)) &&& 1 = 1 then (1 : Int32) <<< ((s ||| ((1 : Int32) <<< (nI k &&& 31))) &&& 31) else 0)
def m_wO (g a : Int32) : Nat → Int32
  | 0 => g
  | k + 1 => if (g >>> (nI k &&& 31)) &&& 1 = 1 then m_wI a (nI k) (m_wO g a k) 4 else m_wO g a k
def m_cv (d : gDt) (i : Nat) : Nat → Int32
  | 0 => 1
  | k + 1 => if d 7 (6 * k + i) = 0 then m_cv d i k else m_wO (m_cv d i k) (d 6 k) 16
def m_bits (k : Nat) : Int32 := (nI k &&& 1) + ((nI k >>> ((1 : Int32) &&& 31)) &&& 1) + ((nI k >>> ((2 : Int32) &&& 31)) &&& 1) + ((nI k >>> ((3 : Int32) &&& 31)) &&& 1)
def m_most (g : Int32) : Nat → Int32
  | 0 => 0
  | k + 1 => if (g >>> (nI k &&& 31)) &&& 1 = 1 then (if m_bits k ≤ m_most g k then m_most g k else m_bits k) else m_most g k
theorem cv_ix {d : gDt} {i k : Nat} (hk : k < 8) (hi : i < 6) : d 7 ((6 : Int32) * nI k + nI i).toNatClampNeg = d 7 (6 * k + i) := by
  rw [ix_knI hk hi, nI_clamp (by omega)]
theorem cv_ab {d : gDt} {k : Nat} (hk : k < 8) : d 6 (nI k).toNatClampNeg = d 6 k := by rw [nI_clamp (by omega)]
def ga_covered (d : gDt) (x : Int32) : Int32 := (m_isPiece d x)
def gb_covered (d : gDt) (x : Int32) : Int32 := 1
def gc_covered (d : gDt) (x : Int32) : Int32 := 1
abbrev rm_X6_covered : Room := { frames := 4, cells := 0, slots := 0, locals := 158 }
theorem nm_X6_covered : gNm yX6_covered 1 := ⟨by decide +kernel, by decide +kernel, by decide +kernel⟩
set_option maxHeartbeats 8000000 in
set_option maxRecDepth 100000 in
theorem c_X6_covered (l : Launch) (hfl : l.stackTraces = false) (D : va_G) (tc : Nat → ClassId) (A : Nat → Prop) (w : gW) (ad : Nat → Nat) (d : gDt) (tk : Int64) (st : Nat → Int64) (x : Int32) (hM : mW tc w ad d tk st) (hOk : mOk d) : gM l yX6_covered cX6_covered 7 (some .int) rm_X6_covered D tc A [.ref (ad 0), .int x] w (fun v w' => (m_go (ga_covered d x) (gb_covered d x) (gc_covered d x) = 0 ∧ (∃ r, v = some (.int r)) ∧ mW tc w' ad (sL d (m_la (ga_covered d x) (gb_covered d x) (gc_covered d x))) tk st ∧ gF w w') ∨ (¬ m_go (ga_covered d x) (gb_covered d x) (gc_covered d x) = 0 ∧ v = some (.int (m_most (m_cv d x.toNatClampNeg (nU d)) 16)) ∧ mW tc w' ad (sL d 0) tk st ∧ gF w w')) (fun _ => False) := by
  refine gM_of (by decide +kernel) (Nat.le_of_ble_eq_true rfl) ?_
  intro p e s m args below meth c ls Q hQ hE hG hr hnt hnm hl
  have hx := hE.1
  have hb := hE.2.1
  have hl : lv_has ls 7 [(0, .ref (ad 0)), (1, .int x)] := hl
  obtain ⟨o0, o1, o2, o3, o4, o5, o6, o7, o8, o9, o10⟩ := hM
  refine lv_aload_n hx hb dX6_covered_0 rfl (lv_at hl 0 rfl) ?_
  refine lv_aload_n hx hb dX6_covered_1 rfl (lv_at hl 0 rfl) ?_
  refine lv_iload_n hx hb dX6_covered_2 rfl (lv_at hl 1 rfl) ?_
  refine g_callV (rest := [.ref (ad 0)]) (As := [.int x]) hE hG hl.1 (c_X6_isPiece l hfl D tc A w ad d tk st x ⟨o0, o1, o2, o3, o4, o5, o6, o7, o8, o9, o10⟩ ) o0 rfl mw4_62 mw4_64 mws_15 mw1_4 mw4_65 rfl nm_X6_isPiece ⟨⟨Nat.le_of_ble_eq_true rfl, Nat.le_of_ble_eq_true rfl⟩, Nat.le_of_ble_eq_true rfl, Nat.le_of_ble_eq_true rfl⟩ rfl rfl (Nat.le_of_ble_eq_true rfl) dX6_covered_3 (g_no) ?_
  intro v9 w9 H locs h9 hG
  obtain ⟨e9, f9⟩ := h9
  rw [f9] at hG; rw [e9]; clear e9 f9
  show W p l e _ s m args below meth c H locs _ _ _ (F0 m 6 ls [.int (m_isPiece d x), .ref (ad 0)])
  refine lv_iconst (v := 1) hx hb dX6_covered_6 (by decide) ?_
  refine lv_iconst (v := 1) hx hb dX6_covered_7 (by decide) ?_
  refine g_callV (rest := []) (As := [.int (m_isPiece d x), .int 1, .int 1]) hE hG hl.1 (c_X6_goes l hfl D tc A w ad d tk st (m_isPiece d x) 1 1 ⟨o0, o1, o2, o3, o4, o5, o6, o7, o8, o9, o10⟩ ) o0 rfl mw4_38 mw4_40 mws_12 mw1_4 mw4_41 rfl nm_X6_goes ⟨⟨Nat.le_of_ble_eq_true rfl, Nat.le_of_ble_eq_true rfl⟩, Nat.le_of_ble_eq_true rfl, Nat.le_of_ble_eq_true rfl⟩ rfl rfl (Nat.le_of_ble_eq_true rfl) dX6_covered_8 (g_no) ?_
  intro v9 w_1 H locs h9 hG
  obtain ⟨e9, ew_1⟩ := h9
  rw [e9]; clear e9
  show W p l e _ s m args below meth c H locs _ _ _ (F0 m 11 ls [.int (m_go (m_isPiece d x) 1 1)])
  have h_2 : w_1 1001 = some ((ad 1), .inl (tc 0, 4, .inl (d 0))) := gU_n ew_1 (by decide) o1
  have h_3 : w_1 1002 = some ((ad 2), .inl (tc 0, 6, .inl (d 1))) := gU_n ew_1 (by decide) o2
  have h_4 : w_1 1003 = some ((ad 3), .inl (tc 0, 6, .inl (d 2))) := gU_n ew_1 (by decide) o3
  have h_5 : w_1 1004 = some ((ad 4), .inl (tc 0, 390, .inl (d 3))) := gU_n ew_1 (by decide) o4
  have h_6 : w_1 1005 = some ((ad 5), .inl (tc 1, 4, .inr (.inl st))) := gU_n ew_1 (by decide) o5
  have h_7 : w_1 1006 = some ((ad 6), .inl (tc 0, 32, .inl (d 4))) := gU_n ew_1 (by decide) o6
  have h_8 : w_1 1007 = some ((ad 7), .inl (tc 0, 4, .inl (d 5))) := gU_n ew_1 (by decide) o7
  have h_9 : w_1 1008 = some ((ad 8), .inl (tc 0, 8, .inl (d 6))) := gU_n ew_1 (by decide) o8
  have h_10 : w_1 1009 = some ((ad 9), .inl (tc 2, 48, .inl (d 7))) := gU_n ew_1 (by decide) o9
  have h_11 : w_1 1010 = some ((ad 10), .inl (tc 0, 3120, .inl (d 8))) := gU_n ew_1 (by decide) o10
  have h_12 : w_1 1000 = some ((ad 0), .inr (6, [.ref (ad 1), .int (d 9 0), .ref (ad 2), .ref (ad 3), .ref (ad 4), .int (d 9 1), .int (d 9 2), .int (d 9 3), .int (d 9 4), .int (d 9 5), .int (d 9 6), .int (d 9 7), .int (d 9 8), .int (d 9 9), .long tk, .ref (ad 5), .int (d 9 10), .int (d 9 11), .ref (ad 6), .ref (ad 7), .int (d 9 12), .ref (ad 8), .ref (ad 9), .ref (ad 10), .int (d 9 13), .int (m_la (m_isPiece d x) 1 1)])) := gU_s ew_1
  refine lv_if_ne (tgt := 16) hx hb dX6_covered_11 (by decide) (fun c_13 => ?_) (fun c_13 => ?_)
  · skip
    obtain ⟨i, hi, hxi⟩ := m_isPiece_ne hOk (m_go_ne c_13).1
    subst hxi
    have hi6 : i < 6 := by have := hOk.1.2.1; omega
    have hu8 : nU d ≤ 8 := hOk.1.2.2
    have hii : (nI i).toNatClampNeg = i := nI_clamp (by omega)
    refine lv_iconst (v := 1) hx hb dX6_covered_16 (by decide) ?_
    refine lv_istore_n (lv' := [(2, .int 1), (0, .ref (ad 0)), (1, .int (nI i))]) hx hb dX6_covered_17 rfl hl (by decide) rfl (fun ls hl => ?_)
    refine lv_iconst (v := 0) hx hb dX6_covered_18 (by decide) ?_
    refine lv_istore_n (lv' := [(3, .int 0), (2, .int 1), (0, .ref (ad 0)), (1, .int (nI i))]) hx hb dX6_covered_19 rfl hl (by decide) rfl (fun ls hl => ?_)
    have hl : lv_has ls 7 [(3, .int (nI ((nU d) - (nU d)))), (2, .int (m_cv d i ((nU d) - (nU d)))), (0, .ref (ad 0)), (1, .int (nI i))] := by rw [Nat.sub_self]; exact hl
    have hloop_16 : ∀ (k_14 : Nat) (H : Heap) (locs : List Loc) (ls : Array Slot), k_14 ≤ (nU d) → gS D A s.heap w_1 H locs → lv_has ls 7 [(3, .int (nI ((nU d) - k_14))), (2, .int (m_cv d i ((nU d) - k_14))), (0, .ref (ad 0)), (1, .int (nI i))] → W p l e rm_X6_covered s m args below meth c H locs ((0 + rm_X6_isPiece.cells) + rm_X6_goes.cells) ((0 + rm_X6_isPiece.slots) + rm_X6_goes.slots) Q (F0 m 20 ls []) := by
      intro k_14
      induction k_14 with
      | zero =>
        intro H locs ls hk_15 hG hl
        refine lv_iload_n hx hb dX6_covered_20 rfl (lv_at hl 0 rfl) ?_
        refine lv_aload_n hx hb dX6_covered_21 rfl (lv_at hl 2 rfl) ?_
        refine g_get hE hG h_12 rfl inG6 24 (by decide) mw3_211 rfl dX6_covered_22 ?_
        rw [hOk.2.1.2.2]
        refine lv_icmp_ge (tgt := 128) hx hb dX6_covered_25 (by decide) (fun c9 => ?_) (fun c9 => (c9 (nI_le (a := (nU d)) (by omega) (by omega))).elim)
        refine lv_iconst (v := 0) hx hb dX6_covered_128 (by decide) ?_
        refine lv_istore_n (lv' := [(3, .int 0), (2, .int (m_cv d i ((nU d) - 0))), (0, .ref (ad 0)), (1, .int (nI i))]) hx hb dX6_covered_129 rfl hl (by decide) rfl (fun ls hl => ?_)
        refine lv_iconst (v := 0) hx hb dX6_covered_130 (by decide) ?_
        refine lv_istore (lv' := [(4, .int 0), (3, .int 0), (2, .int (m_cv d i ((nU d) - 0))), (0, .ref (ad 0)), (1, .int (nI i))]) hx hb dX6_covered_131 hl (by decide) rfl (fun ls hl => ?_)
        have hl : lv_has ls 7 [(4, .int (nI (16 - 16))), (3, .int (m_most (m_cv d i (nU d - 0)) (16 - 16))), (2, .int (m_cv d i ((nU d) - 0))), (0, .ref (ad 0)), (1, .int (nI i))] := by rw [Nat.sub_self]; exact hl
        have hloop_19 : ∀ (k_17 : Nat) (H : Heap) (locs : List Loc) (ls : Array Slot), k_17 ≤ 16 → gS D A s.heap w_1 H locs → lv_has ls 7 [(4, .int (nI (16 - k_17))), (3, .int (m_most (m_cv d i (nU d - 0)) (16 - k_17))), (2, .int (m_cv d i ((nU d) - 0))), (0, .ref (ad 0)), (1, .int (nI i))] → W p l e rm_X6_covered s m args below meth c H locs ((0 + rm_X6_isPiece.cells) + rm_X6_goes.cells) ((0 + rm_X6_isPiece.slots) + rm_X6_goes.slots) Q (F0 m 133 ls []) := by
          intro k_17
          induction k_17 with
          | zero =>
            intro H locs ls hk_18 hG hl
            refine lv_iload hx hb dX6_covered_133 (lv_at hl 0 rfl) ?_
            refine lv_bipush (v := 16) hx hb dX6_covered_135 (by decide) ?_
            refine lv_icmp_ge (tgt := 196) hx hb dX6_covered_137 (by decide) (fun c9 => ?_) (fun c9 => (c9 (nI_le (a := 16) (by omega) (by omega))).elim)
            refine lv_iload_n hx hb dX6_covered_196 rfl (lv_at hl 1 rfl) ?_
            subst hQ
            rw [m_la_ok c_13] at h_12
            exact g_iret hE hG hr (Nat.le_of_ble_eq_true rfl) (Nat.le_of_ble_eq_true rfl) dX6_covered_197 (Or.inr ⟨c_13, (by rw [hii] <;> rfl), ⟨h_12, h_2, h_3, h_4, h_5, h_6, h_7, h_8, h_9, h_10, h_11⟩, gF_u (gF_rf w) ew_1 (by decide)⟩)
          | succ k_17 ihk_17 =>
            intro H locs ls hk_18 hG hl
            refine lv_iload hx hb dX6_covered_133 (lv_at hl 0 rfl) ?_
            refine lv_bipush (v := 16) hx hb dX6_covered_135 (by decide) ?_
            refine lv_icmp_ge (tgt := 196) hx hb dX6_covered_137 (by decide) (fun c9 => absurd c9 (nI_ge (b := 16) (by omega) (by omega))) (fun c9 => ?_)
            refine lv_iload hx hb dX6_covered_140 (lv_at hl 0 rfl) ?_
            refine lv_iconst (v := 1) hx hb dX6_covered_142 (by decide) ?_
            refine lv_iand hx hb dX6_covered_143 ?_
            refine lv_iload hx hb dX6_covered_144 (lv_at hl 0 rfl) ?_
            refine lv_iconst (v := 1) hx hb dX6_covered_146 (by decide) ?_
            refine lv_ishr hx hb dX6_covered_147 ?_
            refine lv_iconst (v := 1) hx hb dX6_covered_148 (by decide) ?_
            refine lv_iand hx hb dX6_covered_149 ?_
            refine lv_iadd hx hb dX6_covered_150 ?_
            refine lv_iload hx hb dX6_covered_151 (lv_at hl 0 rfl) ?_
            refine lv_iconst (v := 2) hx hb dX6_covered_153 (by decide) ?_
            refine lv_ishr hx hb dX6_covered_154 ?_
            refine lv_iconst (v := 1) hx hb dX6_covered_155 (by decide) ?_
            refine lv_iand hx hb dX6_covered_156 ?_
            refine lv_iadd hx hb dX6_covered_157 ?_
            refine lv_iload hx hb dX6_covered_158 (lv_at hl 0 rfl) ?_
            refine lv_iconst (v := 3) hx hb dX6_covered_160 (by decide) ?_
            refine lv_ishr hx hb dX6_covered_161 ?_
            refine lv_iconst (v := 1) hx hb dX6_covered_162 (by decide) ?_
            refine lv_iand hx hb dX6_covered_163 ?_
            refine lv_iadd hx hb dX6_covered_164 ?_
            refine lv_istore (lv' := [(5, .int (((((nI (16 - (k_17 + 1))) &&& 1) + (((nI (16 - (k_17 + 1))) >>> ((1 : Int32) &&& 31)) &&& 1)) + (((nI (16 - (k_17 + 1))) >>> ((2 : Int32) &&& 31)) &&& 1)) + (((nI (16 - (k_17 + 1))) >>> ((3 : Int32) &&& 31)) &&& 1))), (4, .int (nI (16 - (k_17 + 1)))), (3, .int (m_most (m_cv d i (nU d - 0)) (16 - (k_17 + 1)))), (2, .int (m_cv d i ((nU d) - 0))), (0, .ref (ad 0)), (1, .int (nI i))]) hx hb dX6_covered_165 hl (by decide) rfl (fun ls hl => ?_)
            refine lv_iload_n hx hb dX6_covered_167 rfl (lv_at hl 3 rfl) ?_
            refine lv_iload hx hb dX6_covered_168 (lv_at hl 1 rfl) ?_
            refine lv_ishr hx hb dX6_covered_170 ?_
            refine lv_iconst (v := 1) hx hb dX6_covered_171 (by decide) ?_
            refine lv_iand hx hb dX6_covered_172 ?_
            refine lv_iconst (v := 1) hx hb dX6_covered_173 (by decide) ?_
            refine lv_icmp_ne (tgt := 188) hx hb dX6_covered_174 (by decide) (fun c_20 => ?_) (fun c_20 => ?_)
            · skip
              refine lv_iload_n hx hb dX6_covered_188 rfl (lv_at hl 2 rfl) ?_
              refine lv_istore_n (lv' := [(3, .int (m_most (m_cv d i (nU d - 0)) (16 - (k_17 + 1)))), (5, .int (((((nI (16 - (k_17 + 1))) &&& 1) + (((nI (16 - (k_17 + 1))) >>> ((1 : Int32) &&& 31)) &&& 1)) + (((nI (16 - (k_17 + 1))) >>> ((2 : Int32) &&& 31)) &&& 1)) + (((nI (16 - (k_17 + 1))) >>> ((3 : Int32) &&& 31)) &&& 1))), (4, .int (nI (16 - (k_17 + 1)))), (2, .int (m_cv d i ((nU d) - 0))), (0, .ref (ad 0)), (1, .int (nI i))]) hx hb dX6_covered_189 rfl hl (by decide) rfl (fun ls hl => ?_)
              refine lv_iinc (v := (nI (16 - k_17))) (lv' := [(4, .int (nI (16 - k_17))), (3, .int (m_most (m_cv d i (nU d - 0)) (16 - (k_17 + 1)))), (5, .int (((((nI (16 - (k_17 + 1))) &&& 1) + (((nI (16 - (k_17 + 1))) >>> ((1 : Int32) &&& 31)) &&& 1)) + (((nI (16 - (k_17 + 1))) >>> ((2 : Int32) &&& 31)) &&& 1)) + (((nI (16 - (k_17 + 1))) >>> ((3 : Int32) &&& 31)) &&& 1))), (2, .int (m_cv d i ((nU d) - 0))), (0, .ref (ad 0)), (1, .int (nI i))]) hx hb dX6_covered_190 hl (k := 2) rfl (by rw [show 16 - k_17 = (16 - (k_17 + 1)) + 1 by omega]; exact nI_1 _) (by decide) rfl (fun ls hl => ?_)
              refine lv_goto (tgt := 133) hx hb dX6_covered_193 (by decide) ?_
              have hl : lv_has ls 7 [(4, .int (nI (16 - k_17))), (3, .int (m_most (m_cv d i (nU d - 0)) (16 - k_17))), (5, .int (((((nI (16 - (k_17 + 1))) &&& 1) + (((nI (16 - (k_17 + 1))) >>> ((1 : Int32) &&& 31)) &&& 1)) + (((nI (16 - (k_17 + 1))) >>> ((2 : Int32) &&& 31)) &&& 1)) + (((nI (16 - (k_17 + 1))) >>> ((3 : Int32) &&& 31)) &&& 1))), (2, .int (m_cv d i ((nU d) - 0))), (0, .ref (ad 0)), (1, .int (nI i))] := by rw [show 16 - k_17 = (16 - (k_17 + 1)) + 1 by omega] at hl ⊢; show lv_has _ _ [(4, _), (3, Value.int (if _ then _ else _)), (5, _), (2, _), (0, _), (1, _)]; unfold m_bits; rw [if_neg c_20]; exact hl
              exact ihk_17 _ _ _ (by omega) hG (lv_sub hl [0, 1, 3, 4, 5] rfl)
            · skip
              refine lv_iload hx hb dX6_covered_177 (lv_at hl 0 rfl) ?_
              refine lv_iload_n hx hb dX6_covered_179 rfl (lv_at hl 2 rfl) ?_
              refine lv_icmp_le (tgt := 188) hx hb dX6_covered_180 (by decide) (fun c_21 => ?_) (fun c_21 => ?_)
              · skip
                refine lv_iload_n hx hb dX6_covered_188 rfl (lv_at hl 2 rfl) ?_
                refine lv_istore_n (lv' := [(3, .int (m_most (m_cv d i (nU d - 0)) (16 - (k_17 + 1)))), (5, .int (((((nI (16 - (k_17 + 1))) &&& 1) + (((nI (16 - (k_17 + 1))) >>> ((1 : Int32) &&& 31)) &&& 1)) + (((nI (16 - (k_17 + 1))) >>> ((2 : Int32) &&& 31)) &&& 1)) + (((nI (16 - (k_17 + 1))) >>> ((3 : Int32) &&& 31)) &&& 1))), (4, .int (nI (16 - (k_17 + 1)))), (2, .int (m_cv d i ((nU d) - 0))), (0, .ref (ad 0)), (1, .int (nI i))]) hx hb dX6_covered_189 rfl hl (by decide) rfl (fun ls hl => ?_)
                refine lv_iinc (v := (nI (16 - k_17))) (lv' := [(4, .int (nI (16 - k_17))), (3, .int (m_most (m_cv d i (nU d - 0)) (16 - (k_17 + 1)))), (5, .int (((((nI (16 - (k_17 + 1))) &&& 1) + (((nI (16 - (k_17 + 1))) >>> ((1 : Int32) &&& 31)) &&& 1)) + (((nI (16 - (k_17 + 1))) >>> ((2 : Int32) &&& 31)) &&& 1)) + (((nI (16 - (k_17 + 1))) >>> ((3 : Int32) &&& 31)) &&& 1))), (2, .int (m_cv d i ((nU d) - 0))), (0, .ref (ad 0)), (1, .int (nI i))]) hx hb dX6_covered_190 hl (k := 2) rfl (by rw [show 16 - k_17 = (16 - (k_17 + 1)) + 1 by omega]; exact nI_1 _) (by decide) rfl (fun ls hl => ?_)
                refine lv_goto (tgt := 133) hx hb dX6_covered_193 (by decide) ?_
                have hl : lv_has ls 7 [(4, .int (nI (16 - k_17))), (3, .int (m_most (m_cv d i (nU d - 0)) (16 - k_17))), (5, .int (((((nI (16 - (k_17 + 1))) &&& 1) + (((nI (16 - (k_17 + 1))) >>> ((1 : Int32) &&& 31)) &&& 1)) + (((nI (16 - (k_17 + 1))) >>> ((2 : Int32) &&& 31)) &&& 1)) + (((nI (16 - (k_17 + 1))) >>> ((3 : Int32) &&& 31)) &&& 1))), (2, .int (m_cv d i ((nU d) - 0))), (0, .ref (ad 0)), (1, .int (nI i))] := by rw [show 16 - k_17 = (16 - (k_17 + 1)) + 1 by omega] at hl ⊢; show lv_has _ _ [(4, _), (3, Value.int (if _ then _ else _)), (5, _), (2, _), (0, _), (1, _)]; unfold m_bits; rw [if_pos c_20, if_pos c_21]; exact hl
                exact ihk_17 _ _ _ (by omega) hG (lv_sub hl [0, 1, 3, 4, 5] rfl)
              · skip
                refine lv_iload hx hb dX6_covered_183 (lv_at hl 0 rfl) ?_
                refine lv_goto (tgt := 189) hx hb dX6_covered_185 (by decide) ?_
                refine lv_istore_n (lv' := [(3, .int (((((nI (16 - (k_17 + 1))) &&& 1) + (((nI (16 - (k_17 + 1))) >>> ((1 : Int32) &&& 31)) &&& 1)) + (((nI (16 - (k_17 + 1))) >>> ((2 : Int32) &&& 31)) &&& 1)) + (((nI (16 - (k_17 + 1))) >>> ((3 : Int32) &&& 31)) &&& 1))), (5, .int (((((nI (16 - (k_17 + 1))) &&& 1) + (((nI (16 - (k_17 + 1))) >>> ((1 : Int32) &&& 31)) &&& 1)) + (((nI (16 - (k_17 + 1))) >>> ((2 : Int32) &&& 31)) &&& 1)) + (((nI (16 - (k_17 + 1))) >>> ((3 : Int32) &&& 31)) &&& 1))), (4, .int (nI (16 - (k_17 + 1)))), (2, .int (m_cv d i ((nU d) - 0))), (0, .ref (ad 0)), (1, .int (nI i))]) hx hb dX6_covered_189 rfl hl (by decide) rfl (fun ls hl => ?_)
                refine lv_iinc (v := (nI (16 - k_17))) (lv' := [(4, .int (nI (16 - k_17))), (3, .int (((((nI (16 - (k_17 + 1))) &&& 1) + (((nI (16 - (k_17 + 1))) >>> ((1 : Int32) &&& 31)) &&& 1)) + (((nI (16 - (k_17 + 1))) >>> ((2 : Int32) &&& 31)) &&& 1)) + (((nI (16 - (k_17 + 1))) >>> ((3 : Int32) &&& 31)) &&& 1))), (5, .int (((((nI (16 - (k_17 + 1))) &&& 1) + (((nI (16 - (k_17 + 1))) >>> ((1 : Int32) &&& 31)) &&& 1)) + (((nI (16 - (k_17 + 1))) >>> ((2 : Int32) &&& 31)) &&& 1)) + (((nI (16 - (k_17 + 1))) >>> ((3 : Int32) &&& 31)) &&& 1))), (2, .int (m_cv d i ((nU d) - 0))), (0, .ref (ad 0)), (1, .int (nI i))]) hx hb dX6_covered_190 hl (k := 2) rfl (by rw [show 16 - k_17 = (16 - (k_17 + 1)) + 1 by omega]; exact nI_1 _) (by decide) rfl (fun ls hl => ?_)
                refine lv_goto (tgt := 133) hx hb dX6_covered_193 (by decide) ?_
                have hl : lv_has ls 7 [(4, .int (nI (16 - k_17))), (3, .int (m_most (m_cv d i (nU d - 0)) (16 - k_17))), (5, .int (((((nI (16 - (k_17 + 1))) &&& 1) + (((nI (16 - (k_17 + 1))) >>> ((1 : Int32) &&& 31)) &&& 1)) + (((nI (16 - (k_17 + 1))) >>> ((2 : Int32) &&& 31)) &&& 1)) + (((nI (16 - (k_17 + 1))) >>> ((3 : Int32) &&& 31)) &&& 1))), (2, .int (m_cv d i ((nU d) - 0))), (0, .ref (ad 0)), (1, .int (nI i))] := by rw [show 16 - k_17 = (16 - (k_17 + 1)) + 1 by omega] at hl ⊢; show lv_has _ _ [(4, _), (3, Value.int (if _ then _ else _)), (5, _), (2, _), (0, _), (1, _)]; unfold m_bits; rw [if_pos c_20, if_neg c_21]; exact hl
                exact ihk_17 _ _ _ (by omega) hG (lv_sub hl [0, 1, 3, 4, 5] rfl)
        exact hloop_19 16 _ _ _ (Nat.le_refl _) hG (lv_sub hl [0, 1, 2, 3, 4] rfl)
      | succ k_14 ihk_14 =>
        intro H locs ls hk_15 hG hl
        refine lv_iload_n hx hb dX6_covered_20 rfl (lv_at hl 0 rfl) ?_
        refine lv_aload_n hx hb dX6_covered_21 rfl (lv_at hl 2 rfl) ?_
        refine g_get hE hG h_12 rfl inG6 24 (by decide) mw3_211 rfl dX6_covered_22 ?_
        rw [hOk.2.1.2.2]
        refine lv_icmp_ge (tgt := 128) hx hb dX6_covered_25 (by decide) (fun c9 => absurd c9 (nI_ge (b := (nU d)) (by omega) (by omega))) (fun c9 => ?_)
        refine lv_iload_n hx hb dX6_covered_28 rfl (lv_at hl 1 rfl) ?_
        refine lv_istore (lv' := [(4, .int (m_cv d i ((nU d) - (k_14 + 1)))), (3, .int (nI ((nU d) - (k_14 + 1)))), (2, .int (m_cv d i ((nU d) - (k_14 + 1)))), (0, .ref (ad 0)), (1, .int (nI i))]) hx hb dX6_covered_29 hl (by decide) rfl (fun ls hl => ?_)
        refine lv_iconst (v := 0) hx hb dX6_covered_31 (by decide) ?_
        refine lv_istore (lv' := [(5, .int 0), (4, .int (m_cv d i ((nU d) - (k_14 + 1)))), (3, .int (nI ((nU d) - (k_14 + 1)))), (2, .int (m_cv d i ((nU d) - (k_14 + 1)))), (0, .ref (ad 0)), (1, .int (nI i))]) hx hb dX6_covered_32 hl (by decide) rfl (fun ls hl => ?_)
        by_cases hkn : (d 7 (6 * (nU d - (k_14 + 1)) + i)) = 0
        · skip
          refine lv_iload hx hb dX6_covered_34 (lv_at hl 0 rfl) ?_
          refine lv_bipush (v := 16) hx hb dX6_covered_36 (by decide) ?_
          refine lv_icmp_ge (tgt := 119) hx hb dX6_covered_38 (by decide) (fun c9 => absurd c9 (by decide)) (fun _ => ?_)
          refine lv_aload_n hx hb dX6_covered_41 rfl (lv_at hl 4 rfl) ?_
          refine g_get hE hG h_12 rfl inG6 22 (by decide) mw3_209 rfl dX6_covered_42 ?_
          refine lv_bipush (v := 6) hx hb dX6_covered_45 (by decide) ?_
          refine lv_iload_n hx hb dX6_covered_47 rfl (lv_at hl 2 rfl) ?_
          refine lv_imul hx hb dX6_covered_48 ?_
          refine lv_iload_n hx hb dX6_covered_49 rfl (lv_at hl 5 rfl) ?_
          refine lv_iadd hx hb dX6_covered_50 ?_
          refine g_zald hE hG h_10 (by rw [ix_knI (by omega) hi6]; exact vp_in_nI (by omega) (by decide)) dX6_covered_51 ?_
          rw [cv_ix (d := d) (k := nU d - (k_14 + 1)) (by omega) hi6]
          refine lv_if_eq (tgt := 119) hx hb dX6_covered_52 (by decide) (fun c9 => ?_) (fun c9 => (c9 hkn).elim)
          refine lv_iload hx hb dX6_covered_119 (lv_at hl 1 rfl) ?_
          refine lv_istore_n (lv' := [(2, .int (m_cv d i ((nU d) - (k_14 + 1)))), (5, .int 0), (4, .int (m_cv d i ((nU d) - (k_14 + 1)))), (3, .int (nI ((nU d) - (k_14 + 1)))), (0, .ref (ad 0)), (1, .int (nI i))]) hx hb dX6_covered_121 rfl hl (by decide) rfl (fun ls hl => ?_)
          refine lv_iinc (v := (nI ((nU d) - k_14))) (lv' := [(3, .int (nI ((nU d) - k_14))), (2, .int (m_cv d i ((nU d) - (k_14 + 1)))), (5, .int 0), (4, .int (m_cv d i ((nU d) - (k_14 + 1)))), (0, .ref (ad 0)), (1, .int (nI i))]) hx hb dX6_covered_122 hl (k := 3) rfl (by rw [show (nU d) - k_14 = ((nU d) - (k_14 + 1)) + 1 by omega]; exact nI_1 _) (by decide) rfl (fun ls hl => ?_)
          refine lv_goto (tgt := 20) hx hb dX6_covered_125 (by decide) ?_
          have hl : lv_has ls 7 [(3, .int (nI ((nU d) - k_14))), (2, .int (m_cv d i ((nU d) - k_14))), (5, .int 0), (4, .int (m_cv d i ((nU d) - (k_14 + 1)))), (0, .ref (ad 0)), (1, .int (nI i))] := by rw [show (nU d) - k_14 = ((nU d) - (k_14 + 1)) + 1 by omega] at hl ⊢; show lv_has _ _ [(3, _), (2, Value.int (if _ then _ else _)), (5, _), (4, _), (0, _), (1, _)]; rw [if_pos hkn]; exact hl
          exact ihk_14 _ _ _ (by omega) hG (lv_sub hl [0, 1, 4, 5] rfl)
        · skip
          have hl : lv_has ls 7 [(5, .int (nI (16 - 16))), (4, .int (m_wO (m_cv d i (nU d - (k_14 + 1))) (d 6 (nU d - (k_14 + 1))) (16 - 16))), (3, .int (nI ((nU d) - (k_14 + 1)))), (2, .int (m_cv d i ((nU d) - (k_14 + 1)))), (0, .ref (ad 0)), (1, .int (nI i))] := by rw [Nat.sub_self]; exact hl
          have hloop_24 : ∀ (k_22 : Nat) (H : Heap) (locs : List Loc) (ls : Array Slot), k_22 ≤ 16 → gS D A s.heap w_1 H locs → lv_has ls 7 [(5, .int (nI (16 - k_22))), (4, .int (m_wO (m_cv d i (nU d - (k_14 + 1))) (d 6 (nU d - (k_14 + 1))) (16 - k_22))), (3, .int (nI ((nU d) - (k_14 + 1)))), (2, .int (m_cv d i ((nU d) - (k_14 + 1)))), (0, .ref (ad 0)), (1, .int (nI i))] → W p l e rm_X6_covered s m args below meth c H locs ((0 + rm_X6_isPiece.cells) + rm_X6_goes.cells) ((0 + rm_X6_isPiece.slots) + rm_X6_goes.slots) Q (F0 m 34 ls []) := by
            intro k_22
            induction k_22 with
            | zero =>
              intro H locs ls hk_23 hG hl
              refine lv_iload hx hb dX6_covered_34 (lv_at hl 0 rfl) ?_
              refine lv_bipush (v := 16) hx hb dX6_covered_36 (by decide) ?_
              refine lv_icmp_ge (tgt := 119) hx hb dX6_covered_38 (by decide) (fun c9 => ?_) (fun c9 => (c9 (nI_le (a := 16) (by omega) (by omega))).elim)
              refine lv_iload hx hb dX6_covered_119 (lv_at hl 1 rfl) ?_
              refine lv_istore_n (lv' := [(2, .int (m_wO (m_cv d i (nU d - (k_14 + 1))) (d 6 (nU d - (k_14 + 1))) (16 - 0))), (5, .int (nI (16 - 0))), (4, .int (m_wO (m_cv d i (nU d - (k_14 + 1))) (d 6 (nU d - (k_14 + 1))) (16 - 0))), (3, .int (nI ((nU d) - (k_14 + 1)))), (0, .ref (ad 0)), (1, .int (nI i))]) hx hb dX6_covered_121 rfl hl (by decide) rfl (fun ls hl => ?_)
              refine lv_iinc (v := (nI ((nU d) - k_14))) (lv' := [(3, .int (nI ((nU d) - k_14))), (2, .int (m_wO (m_cv d i (nU d - (k_14 + 1))) (d 6 (nU d - (k_14 + 1))) (16 - 0))), (5, .int (nI (16 - 0))), (4, .int (m_wO (m_cv d i (nU d - (k_14 + 1))) (d 6 (nU d - (k_14 + 1))) (16 - 0))), (0, .ref (ad 0)), (1, .int (nI i))]) hx hb dX6_covered_122 hl (k := 3) rfl (by rw [show (nU d) - k_14 = ((nU d) - (k_14 + 1)) + 1 by omega]; exact nI_1 _) (by decide) rfl (fun ls hl => ?_)
              refine lv_goto (tgt := 20) hx hb dX6_covered_125 (by decide) ?_
              have hl : lv_has ls 7 [(3, .int (nI ((nU d) - k_14))), (2, .int (m_cv d i ((nU d) - k_14))), (5, .int (nI (16 - 0))), (4, .int (m_wO (m_cv d i (nU d - (k_14 + 1))) (d 6 (nU d - (k_14 + 1))) (16 - 0))), (0, .ref (ad 0)), (1, .int (nI i))] := by rw [show (nU d) - k_14 = ((nU d) - (k_14 + 1)) + 1 by omega] at hl ⊢; show lv_has _ _ [(3, _), (2, Value.int (if _ then _ else _)), (5, _), (4, _), (0, _), (1, _)]; rw [if_neg hkn]; exact hl
              exact ihk_14 _ _ _ (by omega) hG (lv_sub hl [0, 1, 4, 5] rfl)
            | succ k_22 ihk_22 =>
              intro H locs ls hk_23 hG hl
              refine lv_iload hx hb dX6_covered_34 (lv_at hl 0 rfl) ?_
              refine lv_bipush (v := 16) hx hb dX6_covered_36 (by decide) ?_
              refine lv_icmp_ge (tgt := 119) hx hb dX6_covered_38 (by decide) (fun c9 => absurd c9 (nI_ge (b := 16) (by omega) (by omega))) (fun c9 => ?_)
              refine lv_aload_n hx hb dX6_covered_41 rfl (lv_at hl 4 rfl) ?_
              refine g_get hE hG h_12 rfl inG6 22 (by decide) mw3_209 rfl dX6_covered_42 ?_
              refine lv_bipush (v := 6) hx hb dX6_covered_45 (by decide) ?_
              refine lv_iload_n hx hb dX6_covered_47 rfl (lv_at hl 2 rfl) ?_
              refine lv_imul hx hb dX6_covered_48 ?_
              refine lv_iload_n hx hb dX6_covered_49 rfl (lv_at hl 5 rfl) ?_
              refine lv_iadd hx hb dX6_covered_50 ?_
              refine g_zald hE hG h_10 (by rw [ix_knI (by omega) hi6]; exact vp_in_nI (by omega) (by decide)) dX6_covered_51 ?_
              rw [cv_ix (d := d) (k := nU d - (k_14 + 1)) (by omega) hi6]
              refine lv_if_eq (tgt := 119) hx hb dX6_covered_52 (by decide) (fun c9 => absurd c9 hkn) (fun c9 => ?_)
              refine lv_iconst (v := 0) hx hb dX6_covered_55 (by decide) ?_
              refine lv_istore (lv' := [(6, .int 0), (5, .int (nI (16 - (k_22 + 1)))), (4, .int (m_wO (m_cv d i (nU d - (k_14 + 1))) (d 6 (nU d - (k_14 + 1))) (16 - (k_22 + 1)))), (3, .int (nI ((nU d) - (k_14 + 1)))), (2, .int (m_cv d i ((nU d) - (k_14 + 1)))), (0, .ref (ad 0)), (1, .int (nI i))]) hx hb dX6_covered_56 hl (by decide) rfl (fun ls hl => ?_)
              by_cases hbit : ((m_cv d i (nU d - (k_14 + 1))) >>> ((nI (16 - (k_22 + 1))) &&& 31)) &&& 1 = 1
              · skip
                have hl : lv_has ls 7 [(6, .int (nI (4 - 4))), (5, .int (nI (16 - (k_22 + 1)))), (4, .int (m_wI (d 6 (nU d - (k_14 + 1))) (nI (16 - (k_22 + 1))) (m_wO (m_cv d i (nU d - (k_14 + 1))) (d 6 (nU d - (k_14 + 1))) (16 - (k_22 + 1))) (4 - 4))), (3, .int (nI ((nU d) - (k_14 + 1)))), (2, .int (m_cv d i ((nU d) - (k_14 + 1)))), (0, .ref (ad 0)), (1, .int (nI i))] := by rw [Nat.sub_self]; exact hl
                have hloop_27 : ∀ (k_25 : Nat) (H : Heap) (locs : List Loc) (ls : Array Slot), k_25 ≤ 4 → gS D A s.heap w_1 H locs → lv_has ls 7 [(6, .int (nI (4 - k_25))), (4, .int (m_wI (d 6 (nU d - (k_14 + 1))) (nI (16 - (k_22 + 1))) (m_wO (m_cv d i (nU d - (k_14 + 1))) (d 6 (nU d - (k_14 + 1))) (16 - (k_22 + 1))) (4 - k_25))), (5, .int (nI (16 - (k_22 + 1)))), (3, .int (nI ((nU d) - (k_14 + 1)))), (2, .int (m_cv d i ((nU d) - (k_14 + 1)))), (0, .ref (ad 0)), (1, .int (nI i))] → W p l e rm_X6_covered s m args below meth c H locs ((0 + rm_X6_isPiece.cells) + rm_X6_goes.cells) ((0 + rm_X6_isPiece.slots) + rm_X6_goes.slots) Q (F0 m 58 ls []) := by
                  intro k_25
                  induction k_25 with
                  | zero =>
                    intro H locs ls hk_26 hG hl
                    refine lv_iload hx hb dX6_covered_58 (lv_at hl 0 rfl) ?_
                    refine lv_iconst (v := 4) hx hb dX6_covered_60 (by decide) ?_
                    refine lv_icmp_ge (tgt := 113) hx hb dX6_covered_61 (by decide) (fun c9 => ?_) (fun c9 => (c9 (nI_le (a := 4) (by omega) (by omega))).elim)
                    refine lv_iinc (v := (nI (16 - k_22))) (lv' := [(5, .int (nI (16 - k_22))), (6, .int (nI (4 - 0))), (4, .int (m_wI (d 6 (nU d - (k_14 + 1))) (nI (16 - (k_22 + 1))) (m_wO (m_cv d i (nU d - (k_14 + 1))) (d 6 (nU d - (k_14 + 1))) (16 - (k_22 + 1))) (4 - 0))), (3, .int (nI ((nU d) - (k_14 + 1)))), (2, .int (m_cv d i ((nU d) - (k_14 + 1)))), (0, .ref (ad 0)), (1, .int (nI i))]) hx hb dX6_covered_113 hl (k := 2) rfl (by rw [show 16 - k_22 = (16 - (k_22 + 1)) + 1 by omega]; exact nI_1 _) (by decide) rfl (fun ls hl => ?_)
                    refine lv_goto (tgt := 34) hx hb dX6_covered_116 (by decide) ?_
                    have hl : lv_has ls 7 [(5, .int (nI (16 - k_22))), (6, .int (nI (4 - 0))), (4, .int (m_wO (m_cv d i (nU d - (k_14 + 1))) (d 6 (nU d - (k_14 + 1))) (16 - k_22))), (3, .int (nI ((nU d) - (k_14 + 1)))), (2, .int (m_cv d i ((nU d) - (k_14 + 1)))), (0, .ref (ad 0)), (1, .int (nI i))] := by rw [show 16 - k_22 = (16 - (k_22 + 1)) + 1 by omega] at hl ⊢; show lv_has _ _ [(5, _), (6, _), (4, Value.int (if _ then _ else _)), (3, _), (2, _), (0, _), (1, _)]; rw [if_pos hbit]; exact hl
                    exact ihk_22 _ _ _ (by omega) hG (lv_sub hl [0, 2, 3, 4, 5, 6] rfl)
                  | succ k_25 ihk_25 =>
                    intro H locs ls hk_26 hG hl
                    refine lv_iload hx hb dX6_covered_58 (lv_at hl 0 rfl) ?_
                    refine lv_iconst (v := 4) hx hb dX6_covered_60 (by decide) ?_
                    refine lv_icmp_ge (tgt := 113) hx hb dX6_covered_61 (by decide) (fun c9 => absurd c9 (nI_ge (b := 4) (by omega) (by omega))) (fun c9 => ?_)
                    refine lv_iload_n hx hb dX6_covered_64 rfl (lv_at hl 4 rfl) ?_
                    refine lv_iload hx hb dX6_covered_65 (lv_at hl 2 rfl) ?_
                    refine lv_ishr hx hb dX6_covered_67 ?_
                    refine lv_iconst (v := 1) hx hb dX6_covered_68 (by decide) ?_
                    refine lv_iand hx hb dX6_covered_69 ?_
                    refine lv_iconst (v := 1) hx hb dX6_covered_70 (by decide) ?_
                    refine lv_icmp_ne (tgt := 113) hx hb dX6_covered_71 (by decide) (fun c9 => (c9 hbit).elim) (fun c9 => ?_)
                    refine lv_iload hx hb dX6_covered_74 (lv_at hl 1 rfl) ?_
                    refine lv_aload_n hx hb dX6_covered_76 rfl (lv_at hl 5 rfl) ?_
                    refine g_get hE hG h_12 rfl inG6 21 (by decide) mw3_208 rfl dX6_covered_77 ?_
                    refine lv_iload_n hx hb dX6_covered_80 rfl (lv_at hl 3 rfl) ?_
                    refine g_iald hE hG h_9 (vp_in_nI (by omega) (by decide)) dX6_covered_81 ?_
                    rw [cv_ab (d := d) (k := nU d - (k_14 + 1)) (by omega)]
                    refine lv_iload hx hb dX6_covered_82 (lv_at hl 0 rfl) ?_
                    refine lv_ishr hx hb dX6_covered_84 ?_
                    refine lv_iconst (v := 1) hx hb dX6_covered_85 (by decide) ?_
                    refine lv_iand hx hb dX6_covered_86 ?_
                    refine lv_iconst (v := 1) hx hb dX6_covered_87 (by decide) ?_
                    have j_29 : ∀ (v_28 : Int32) (H : Heap) (locs : List Loc), v_28 = (if (((d 6 (nU d - (k_14 + 1))) >>> ((nI (4 - (k_25 + 1))) &&& 31)) &&& 1) = 1 then ((1 : Int32) <<< (((nI (16 - (k_22 + 1))) ||| ((1 : Int32) <<< ((nI (4 - (k_25 + 1))) &&& 31))) &&& 31)) else 0 : Int32) → gS D A s.heap w_1 H locs → W p l e rm_X6_covered s m args below meth c H locs ((0 + rm_X6_isPiece.cells) + rm_X6_goes.cells) ((0 + rm_X6_isPiece.slots) + rm_X6_goes.slots) Q (F0 m 104 ls (.int v_28 :: [.int (m_wI (d 6 (nU d - (k_14 + 1))) (nI (16 - (k_22 + 1))) (m_wO (m_cv d i (nU d - (k_14 + 1))) (d 6 (nU d - (k_14 + 1))) (16 - (k_22 + 1))) (4 - (k_25 + 1)))])) := by
                      intro v_28 H locs ev_28 hG
                      refine lv_ior hx hb dX6_covered_104 ?_
                      refine lv_istore (lv' := [(4, .int ((m_wI (d 6 (nU d - (k_14 + 1))) (nI (16 - (k_22 + 1))) (m_wO (m_cv d i (nU d - (k_14 + 1))) (d 6 (nU d - (k_14 + 1))) (16 - (k_22 + 1))) (4 - (k_25 + 1))) ||| v_28)), (6, .int (nI (4 - (k_25 + 1)))), (5, .int (nI (16 - (k_22 + 1)))), (3, .int (nI ((nU d) - (k_14 + 1)))), (2, .int (m_cv d i ((nU d) - (k_14 + 1)))), (0, .ref (ad 0)), (1, .int (nI i))]) hx hb dX6_covered_105 hl (by decide) rfl (fun ls hl => ?_)
                      refine lv_iinc (v := (nI (4 - k_25))) (lv' := [(6, .int (nI (4 - k_25))), (4, .int ((m_wI (d 6 (nU d - (k_14 + 1))) (nI (16 - (k_22 + 1))) (m_wO (m_cv d i (nU d - (k_14 + 1))) (d 6 (nU d - (k_14 + 1))) (16 - (k_22 + 1))) (4 - (k_25 + 1))) ||| v_28)), (5, .int (nI (16 - (k_22 + 1)))), (3, .int (nI ((nU d) - (k_14 + 1)))), (2, .int (m_cv d i ((nU d) - (k_14 + 1)))), (0, .ref (ad 0)), (1, .int (nI i))]) hx hb dX6_covered_107 hl (k := 1) rfl (by rw [show 4 - k_25 = (4 - (k_25 + 1)) + 1 by omega]; exact nI_1 _) (by decide) rfl (fun ls hl => ?_)
                      refine lv_goto (tgt := 58) hx hb dX6_covered_110 (by decide) ?_
                      have hl : lv_has ls 7 [(6, .int (nI (4 - k_25))), (4, .int (m_wI (d 6 (nU d - (k_14 + 1))) (nI (16 - (k_22 + 1))) (m_wO (m_cv d i (nU d - (k_14 + 1))) (d 6 (nU d - (k_14 + 1))) (16 - (k_22 + 1))) (4 - k_25))), (5, .int (nI (16 - (k_22 + 1)))), (3, .int (nI ((nU d) - (k_14 + 1)))), (2, .int (m_cv d i ((nU d) - (k_14 + 1)))), (0, .ref (ad 0)), (1, .int (nI i))] := by rw [show 4 - k_25 = (4 - (k_25 + 1)) + 1 by omega] at hl ⊢; rw [ev_28] at hl; exact hl
                      exact ihk_25 _ _ _ (by omega) hG (lv_sub hl [0, 1, 2, 3, 4, 5, 6] rfl)
                    refine lv_icmp_ne (tgt := 103) hx hb dX6_covered_88 (by decide) (fun c_30 => ?_) (fun c_30 => ?_)
                    · skip
                      refine lv_iconst (v := 0) hx hb dX6_covered_103 (by decide) ?_
                      exact j_29 _ _ _ (by rw [if_neg c_30]) hG
                    · skip
                      refine lv_iconst (v := 1) hx hb dX6_covered_91 (by decide) ?_
                      refine lv_iload hx hb dX6_covered_92 (lv_at hl 2 rfl) ?_
                      refine lv_iconst (v := 1) hx hb dX6_covered_94 (by decide) ?_
                      refine lv_iload hx hb dX6_covered_95 (lv_at hl 0 rfl) ?_
                      refine lv_ishl hx hb dX6_covered_97 ?_
                      refine lv_ior hx hb dX6_covered_98 ?_
                      refine lv_ishl hx hb dX6_covered_99 ?_
                      refine lv_goto (tgt := 104) hx hb dX6_covered_100 (by decide) ?_
                      exact j_29 _ _ _ (by rw [if_pos c_30]) hG
                exact hloop_27 4 _ _ _ (Nat.le_refl _) hG (lv_sub hl [0, 2, 1, 3, 4, 5, 6] rfl)
              · skip
                refine lv_iload hx hb dX6_covered_58 (lv_at hl 0 rfl) ?_
                refine lv_iconst (v := 4) hx hb dX6_covered_60 (by decide) ?_
                refine lv_icmp_ge (tgt := 113) hx hb dX6_covered_61 (by decide) (fun c9 => absurd c9 (by decide)) (fun _ => ?_)
                refine lv_iload_n hx hb dX6_covered_64 rfl (lv_at hl 4 rfl) ?_
                refine lv_iload hx hb dX6_covered_65 (lv_at hl 1 rfl) ?_
                refine lv_ishr hx hb dX6_covered_67 ?_
                refine lv_iconst (v := 1) hx hb dX6_covered_68 (by decide) ?_
                refine lv_iand hx hb dX6_covered_69 ?_
                refine lv_iconst (v := 1) hx hb dX6_covered_70 (by decide) ?_
                refine lv_icmp_ne (tgt := 113) hx hb dX6_covered_71 (by decide) (fun c9 => ?_) (fun c9 => absurd c9 hbit)
                refine lv_iinc (v := (nI (16 - k_22))) (lv' := [(5, .int (nI (16 - k_22))), (6, .int 0), (4, .int (m_wO (m_cv d i (nU d - (k_14 + 1))) (d 6 (nU d - (k_14 + 1))) (16 - (k_22 + 1)))), (3, .int (nI ((nU d) - (k_14 + 1)))), (2, .int (m_cv d i ((nU d) - (k_14 + 1)))), (0, .ref (ad 0)), (1, .int (nI i))]) hx hb dX6_covered_113 hl (k := 1) rfl (by rw [show 16 - k_22 = (16 - (k_22 + 1)) + 1 by omega]; exact nI_1 _) (by decide) rfl (fun ls hl => ?_)
                refine lv_goto (tgt := 34) hx hb dX6_covered_116 (by decide) ?_
                have hl : lv_has ls 7 [(5, .int (nI (16 - k_22))), (6, .int 0), (4, .int (m_wO (m_cv d i (nU d - (k_14 + 1))) (d 6 (nU d - (k_14 + 1))) (16 - k_22))), (3, .int (nI ((nU d) - (k_14 + 1)))), (2, .int (m_cv d i ((nU d) - (k_14 + 1)))), (0, .ref (ad 0)), (1, .int (nI i))] := by rw [show 16 - k_22 = (16 - (k_22 + 1)) + 1 by omega] at hl ⊢; show lv_has _ _ [(5, _), (6, _), (4, Value.int (if _ then _ else _)), (3, _), (2, _), (0, _), (1, _)]; rw [if_neg hbit]; exact hl
                exact ihk_22 _ _ _ (by omega) hG (lv_sub hl [0, 2, 3, 4, 5, 6] rfl)
          exact hloop_24 16 _ _ _ (Nat.le_refl _) hG (lv_sub hl [0, 1, 2, 3, 4, 5] rfl)
    exact hloop_16 (nU d) _ _ _ (Nat.le_refl _) hG (lv_sub hl [0, 1, 2, 3] rfl)
  · skip
    refine lv_iconst (v := 0) hx hb dX6_covered_14 (by decide) ?_
    subst hQ
    exact g_iret hE hG hr (Nat.le_of_ble_eq_true rfl) (Nat.le_of_ble_eq_true rfl) dX6_covered_15 (Or.inl ⟨c_13, ⟨_, rfl⟩, mW_mk h_12 h_2 h_3 h_4 h_5 h_6 h_7 h_8 h_9 h_10 h_11, gF_u (gF_rf w) ew_1 (by decide)⟩)
