/-! GongCyclesModel: depth, beats, beat, versions, tune -/
def m_dp (y : Int32) : Nat → Nat → Nat → Int32
  | 0, _, _ => -1
  | k + 1, b, c => if y - y / nI b * nI b = 0 then nI c else if nI b - nI b / 2 * 2 = 0 then m_dp y k (b / 2) (c + 1) else -1
theorem m_even {b : Nat} (hb : b < 2 ^ 31) (h : nI b - nI b / 2 * 2 = 0) : b % 2 = 0 := by
  rw [show (2 : Int32) = nI 2 from rfl, pk_rem hb (by decide) (by decide)] at h
  exact (nI_eq (b := 0) (by omega) (by decide)).mp h
def m_depth (d : gDt) (x y : Int32) : Int32 := m_dp y 7 (d 0 x.toNatClampNeg).toNatClampNeg 0
def ga_depth (d : gDt) (x y : Int32) : Int32 := (if (m_isForm d x) = 0 then 0 else (if (f_in y 1 ((d 0) x.toNatClampNeg)) = 0 then 0 else 1 : Int32) : Int32)
def gb_depth (d : gDt) (x y : Int32) : Int32 := 1
def gc_depth (d : gDt) (x y : Int32) : Int32 := 1
abbrev rm_X6_depth : Room := { frames := 4, cells := 0, slots := 0, locals := 158 }
theorem nm_X6_depth : gNm yX6_depth 2 := ⟨by decide +kernel, by decide +kernel, by decide +kernel⟩
set_option maxHeartbeats 8000000 in
set_option maxRecDepth 100000 in
theorem c_X6_depth (l : Launch) (hfl : l.stackTraces = false) (D : va_G) (tc : Nat → ClassId) (A : Nat → Prop) (w : gW) (ad : Nat → Nat) (d : gDt) (tk : Int64) (st : Nat → Int64) (x : Int32) (y : Int32) (hM : mW tc w ad d tk st) (hOk : mOk d) : gM l yX6_depth cX6_depth 5 (some .int) rm_X6_depth D tc A [.ref (ad 0), .int x, .int y] w (fun v w' => (m_go (ga_depth d x y) (gb_depth d x y) (gc_depth d x y) = 0 ∧ (∃ r, v = some (.int r)) ∧ mW tc w' ad (sL d (m_la (ga_depth d x y) (gb_depth d x y) (gc_depth d x y))) tk st ∧ gF w w') ∨ (¬ m_go (ga_depth d x y) (gb_depth d x y) (gc_depth d x y) = 0 ∧ v = some (.int (m_depth d x y)) ∧ mW tc w' ad (sL d 0) tk st ∧ gF w w')) (fun _ => False) := by
  refine gM_of (by decide +kernel) (Nat.le_of_ble_eq_true rfl) ?_
  intro p e s m args below meth c ls Q hQ hE hG hr hnt hnm hl
  have hx := hE.1
  have hb := hE.2.1
  have hl : lv_has ls 5 [(0, .ref (ad 0)), (1, .int x), (2, .int y)] := hl
  obtain ⟨o0, o1, o2, o3, o4, o5, o6, o7, o8, o9, o10⟩ := hM
  refine lv_aload_n hx hb dX6_depth_0 rfl (lv_at hl 0 rfl) ?_
  refine lv_aload_n hx hb dX6_depth_1 rfl (lv_at hl 0 rfl) ?_
  refine lv_iload_n hx hb dX6_depth_2 rfl (lv_at hl 1 rfl) ?_
  refine g_callV (rest := [.ref (ad 0)]) (As := [.int x]) hE hG hl.1 (c_X6_isForm l hfl D tc A w ad d tk st x ⟨o0, o1, o2, o3, o4, o5, o6, o7, o8, o9, o10⟩ ) o0 rfl mw4_46 mw4_48 mws_13 mw1_4 mw4_49 rfl nm_X6_isForm ⟨⟨Nat.le_of_ble_eq_true rfl, Nat.le_of_ble_eq_true rfl⟩, Nat.le_of_ble_eq_true rfl, Nat.le_of_ble_eq_true rfl⟩ rfl rfl (Nat.le_of_ble_eq_true rfl) dX6_depth_3 (g_no) ?_
  intro v9 w9 H locs h9 hG
  obtain ⟨e9, f9⟩ := h9
  rw [f9] at hG; rw [e9]; clear e9 f9
  show W p l e _ s m args below meth c H locs _ _ _ (F0 m 6 ls [.int (m_isForm d x), .ref (ad 0)])
  have j_2 : ∀ (v_1 : Int32) (H : Heap) (locs : List Loc), v_1 = (if (m_isForm d x) = 0 then 0 else (if (f_in y 1 ((d 0) x.toNatClampNeg)) = 0 then 0 else 1 : Int32) : Int32) → gS D A s.heap w H locs → W p l e rm_X6_depth s m args below meth c H locs (0 + rm_X6_isForm.cells) (0 + rm_X6_isForm.slots) Q (F0 m 40 ls (.int v_1 :: [.ref (ad 0)])) := by
    intro v_1 H locs ev_1 hG
    refine lv_iconst (v := 1) hx hb dX6_depth_40 (by decide) ?_
    refine lv_iconst (v := 1) hx hb dX6_depth_41 (by decide) ?_
    refine g_callV (rest := []) (As := [.int v_1, .int 1, .int 1]) hE hG hl.1 (c_X6_goes l hfl D tc A w ad d tk st v_1 1 1 ⟨o0, o1, o2, o3, o4, o5, o6, o7, o8, o9, o10⟩ ) o0 rfl mw4_38 mw4_40 mws_12 mw1_4 mw4_41 rfl nm_X6_goes ⟨⟨Nat.le_of_ble_eq_true rfl, Nat.le_of_ble_eq_true rfl⟩, Nat.le_of_ble_eq_true rfl, Nat.le_of_ble_eq_true rfl⟩ rfl rfl (Nat.le_of_ble_eq_true rfl) dX6_depth_42 (g_no) ?_
    intro v9 w_3 H locs h9 hG
    obtain ⟨e9, ew_3⟩ := h9
    rw [e9]; clear e9
    show W p l e _ s m args below meth c H locs _ _ _ (F0 m 45 ls [.int (m_go v_1 1 1)])
    have h_4 : w_3 1001 = some ((ad 1), .inl (tc 0, 4, .inl (d 0))) := gU_n ew_3 (by decide) o1
    have h_5 : w_3 1002 = some ((ad 2), .inl (tc 0, 6, .inl (d 1))) := gU_n ew_3 (by decide) o2
    have h_6 : w_3 1003 = some ((ad 3), .inl (tc 0, 6, .inl (d 2))) := gU_n ew_3 (by decide) o3
    have h_7 : w_3 1004 = some ((ad 4), .inl (tc 0, 390, .inl (d 3))) := gU_n ew_3 (by decide) o4
    have h_8 : w_3 1005 = some ((ad 5), .inl (tc 1, 4, .inr (.inl st))) := gU_n ew_3 (by decide) o5
    have h_9 : w_3 1006 = some ((ad 6), .inl (tc 0, 32, .inl (d 4))) := gU_n ew_3 (by decide) o6
    have h_10 : w_3 1007 = some ((ad 7), .inl (tc 0, 4, .inl (d 5))) := gU_n ew_3 (by decide) o7
    have h_11 : w_3 1008 = some ((ad 8), .inl (tc 0, 8, .inl (d 6))) := gU_n ew_3 (by decide) o8
    have h_12 : w_3 1009 = some ((ad 9), .inl (tc 2, 48, .inl (d 7))) := gU_n ew_3 (by decide) o9
    have h_13 : w_3 1010 = some ((ad 10), .inl (tc 0, 3120, .inl (d 8))) := gU_n ew_3 (by decide) o10
    have h_14 : w_3 1000 = some ((ad 0), .inr (6, [.ref (ad 1), .int (d 9 0), .ref (ad 2), .ref (ad 3), .ref (ad 4), .int (d 9 1), .int (d 9 2), .int (d 9 3), .int (d 9 4), .int (d 9 5), .int (d 9 6), .int (d 9 7), .int (d 9 8), .int (d 9 9), .long tk, .ref (ad 5), .int (d 9 10), .int (d 9 11), .ref (ad 6), .ref (ad 7), .int (d 9 12), .ref (ad 8), .ref (ad 9), .ref (ad 10), .int (d 9 13), .int (m_la v_1 1 1)])) := gU_s ew_3
    refine lv_if_ne (tgt := 50) hx hb dX6_depth_45 (by decide) (fun c_15 => ?_) (fun c_15 => ?_)
    · skip
      have hkn := (m_go_ne c_15).1
      rw [ev_1] at hkn
      obtain ⟨i, hi, hxi⟩ := m_isForm_ne hOk (and_ne hkn).1
      clear hkn
      have hg_v_1 : v_1 = ga_depth d x y := ev_1
      subst hg_v_1
      subst hxi
      have hi4 : i < 4 := by have := hOk.1.1; omega
      obtain ⟨hb1, hb2, hb3, hb4⟩ := gLen_n (hOk.2.2.1 i hi)
      refine lv_iconst (v := 0) hx hb dX6_depth_50 (by decide) ?_
      refine lv_istore_n (lv' := [(3, .int 0), (0, .ref (ad 0)), (1, .int (nI i)), (2, .int y)]) hx hb dX6_depth_51 rfl hl (by decide) rfl (fun ls hl => ?_)
      refine lv_aload_n hx hb dX6_depth_52 rfl (lv_at hl 1 rfl) ?_
      refine g_get hE hG h_14 rfl inG6 0 (by decide) mw3_187 rfl dX6_depth_53 ?_
      refine lv_iload_n hx hb dX6_depth_56 rfl (lv_at hl 2 rfl) ?_
      refine g_iald hE hG h_4 (vp_in_nI hi4 (by decide)) dX6_depth_57 ?_
      rw [nI_clamp (by omega), hb1]
      refine lv_istore (lv' := [(4, .int (nI (d 0 i).toNatClampNeg)), (3, .int 0), (0, .ref (ad 0)), (1, .int (nI i)), (2, .int y)]) hx hb dX6_depth_58 hl (by decide) rfl (fun ls hl => ?_)
      have hl : lv_has ls 5 [(4, .int (nI (d 0 i).toNatClampNeg)), (3, .int (nI 0)), (0, .ref (ad 0)), (1, .int (nI i)), (2, .int y)] := hl
      have hloop_16 : ∀ (k : Nat) (b : Nat) (c9 : Nat) (H : Heap) (locs : List Loc) (ls : Array Slot), 1 ≤ b ∧ b < 2 ^ k ∧ b ≤ 64 → m_dp y k b c9 = m_dp y 7 (d 0 i).toNatClampNeg 0 → gS D A s.heap w_3 H locs → lv_has ls 5 [(4, .int (nI b)), (3, .int (nI c9)), (0, .ref (ad 0)), (1, .int (nI i)), (2, .int y)] → W p l e rm_X6_depth s m args below meth c H locs ((0 + rm_X6_isForm.cells) + rm_X6_goes.cells) ((0 + rm_X6_isForm.slots) + rm_X6_goes.slots) Q (F0 m 60 ls []) := by
        intro k
        induction k with
        | zero =>
          intro b c9 H locs ls hbb hres hG hl
          exact absurd hbb.2.1 (by have := hbb.1; simp; omega)
        | succ k ih =>
          intro b c9 H locs ls hbb hres hG hl
          refine lv_iload_n hx hb dX6_depth_60 rfl (lv_at hl 4 rfl) ?_
          refine lv_iload hx hb dX6_depth_61 (lv_at hl 0 rfl) ?_
          refine lv_irem hx hb dX6_depth_63 (nI_ne0 (by omega) (by omega)) ?_
          refine lv_if_eq (tgt := 86) hx hb dX6_depth_64 (by decide) (fun c_17 => ?_) (fun c_17 => ?_)
          · skip
            refine lv_iload_n hx hb dX6_depth_86 rfl (lv_at hl 4 rfl) ?_
            refine lv_iload hx hb dX6_depth_87 (lv_at hl 0 rfl) ?_
            refine lv_irem hx hb dX6_depth_89 (nI_ne0 (by omega) (by omega)) ?_
            refine lv_if_ne (tgt := 97) hx hb dX6_depth_90 (by decide) (fun c9 => (c9 c_17).elim) (fun c9 => ?_)
            refine lv_iload_n hx hb dX6_depth_93 rfl (lv_at hl 1 rfl) ?_
            refine lv_goto (tgt := 98) hx hb dX6_depth_94 (by decide) ?_
            subst hQ
            rw [m_la_ok c_15] at h_14
            exact g_iret hE hG hr (Nat.le_of_ble_eq_true rfl) (Nat.le_of_ble_eq_true rfl) dX6_depth_98 (Or.inr ⟨c_15, (by unfold m_depth; rw [nI_clamp (by omega), ← hres]; show _ = some (Value.int (if _ then _ else _)); rw [if_pos c_17]), ⟨h_14, h_4, h_5, h_6, h_7, h_8, h_9, h_10, h_11, h_12, h_13⟩, gF_u (gF_rf w) ew_3 (by decide)⟩)
          · skip
            refine lv_iload hx hb dX6_depth_67 (lv_at hl 0 rfl) ?_
            refine lv_iconst (v := 2) hx hb dX6_depth_69 (by decide) ?_
            refine lv_irem hx hb dX6_depth_70 (by decide) ?_
            refine lv_if_ne (tgt := 86) hx hb dX6_depth_71 (by decide) (fun c_18 => ?_) (fun c_18 => ?_)
            · skip
              refine lv_iload_n hx hb dX6_depth_86 rfl (lv_at hl 4 rfl) ?_
              refine lv_iload hx hb dX6_depth_87 (lv_at hl 0 rfl) ?_
              refine lv_irem hx hb dX6_depth_89 (nI_ne0 (by omega) (by omega)) ?_
              refine lv_if_ne (tgt := 97) hx hb dX6_depth_90 (by decide) (fun c9 => ?_) (fun c9 => absurd c9 c_17)
              refine lv_iconst (v := (-1)) hx hb dX6_depth_97 (by decide) ?_
              subst hQ
              rw [m_la_ok c_15] at h_14
              exact g_iret hE hG hr (Nat.le_of_ble_eq_true rfl) (Nat.le_of_ble_eq_true rfl) dX6_depth_98 (Or.inr ⟨c_15, (by unfold m_depth; rw [nI_clamp (by omega), ← hres]; show _ = some (Value.int (if _ then _ else _)); rw [if_neg c_17, if_neg c_18]), ⟨h_14, h_4, h_5, h_6, h_7, h_8, h_9, h_10, h_11, h_12, h_13⟩, gF_u (gF_rf w) ew_3 (by decide)⟩)
            · skip
              refine lv_iload hx hb dX6_depth_74 (lv_at hl 0 rfl) ?_
              refine lv_iconst (v := 2) hx hb dX6_depth_76 (by decide) ?_
              refine lv_idiv hx hb dX6_depth_77 (by decide) ?_
              rw [show (nI b / 2) = nI (b / 2) from pk_div (d := 2) (by omega) (by decide) (by decide)]
              refine lv_istore (lv' := [(4, .int (nI (b / 2))), (3, .int (nI c9)), (0, .ref (ad 0)), (1, .int (nI i)), (2, .int y)]) hx hb dX6_depth_78 hl (by decide) rfl (fun ls hl => ?_)
              refine lv_iinc (v := (nI (c9 + 1))) (lv' := [(3, .int (nI (c9 + 1))), (4, .int (nI (b / 2))), (0, .ref (ad 0)), (1, .int (nI i)), (2, .int y)]) hx hb dX6_depth_80 hl (k := 1) rfl (nI_1 c9) (by decide) rfl (fun ls hl => ?_)
              refine lv_goto (tgt := 60) hx hb dX6_depth_83 (by decide) ?_
              exact ih (b / 2) (c9 + 1) _ _ _ (by have h9 := m_even (by omega) c_18; have h8 : 2 ^ (k + 1) = 2 * 2 ^ k := (by rw [Nat.pow_succ, Nat.mul_comm]); omega) (by rw [← hres]; show _ = (if _ then _ else _); rw [if_neg c_17, if_pos c_18]) hG (lv_sub hl [1, 0, 2, 3, 4] rfl)
      exact hloop_16 7 ((d 0 i).toNatClampNeg) 0 _ _ _ ⟨by omega, by omega, by omega⟩ rfl hG (lv_sub hl [0, 1, 2, 3, 4] rfl)
    · skip
      refine lv_iconst (v := 0) hx hb dX6_depth_48 (by decide) ?_
      subst hQ
      have hg_v_1 : v_1 = ga_depth d x y := ev_1
      subst hg_v_1
      exact g_iret hE hG hr (Nat.le_of_ble_eq_true rfl) (Nat.le_of_ble_eq_true rfl) dX6_depth_49 (Or.inl ⟨c_15, ⟨_, rfl⟩, mW_mk h_14 h_4 h_5 h_6 h_7 h_8 h_9 h_10 h_11 h_12 h_13, gF_u (gF_rf w) ew_3 (by decide)⟩)
  refine lv_if_eq (tgt := 39) hx hb dX6_depth_6 (by decide) (fun c_19 => ?_) (fun c_19 => ?_)
  · skip
    refine lv_iconst (v := 0) hx hb dX6_depth_39 (by decide) ?_
    exact j_2 _ _ _ (by rw [if_pos c_19]) hG
  · skip
    refine lv_iload_n hx hb dX6_depth_9 rfl (lv_at hl 2 rfl) ?_
    refine lv_iconst (v := 1) hx hb dX6_depth_10 (by decide) ?_
    refine lv_aload_n hx hb dX6_depth_11 rfl (lv_at hl 0 rfl) ?_
    refine g_get hE hG o0 rfl inG6 0 (by decide) mw3_187 rfl dX6_depth_12 ?_
    refine lv_aload_n hx hb dX6_depth_15 rfl (lv_at hl 0 rfl) ?_
    refine lv_iload_n hx hb dX6_depth_16 rfl (lv_at hl 1 rfl) ?_
    refine g_callV (rest := [.ref (ad 1), .int 1, .int y, .ref (ad 0)]) (As := [.int x]) hE hG hl.1 (c_X6_isForm l hfl D tc A w ad d tk st x ⟨o0, o1, o2, o3, o4, o5, o6, o7, o8, o9, o10⟩ ) o0 rfl mw4_46 mw4_48 mws_13 mw1_4 mw4_49 rfl nm_X6_isForm ⟨⟨Nat.le_of_ble_eq_true rfl, Nat.le_of_ble_eq_true rfl⟩, Nat.le_of_ble_eq_true rfl, Nat.le_of_ble_eq_true rfl⟩ rfl rfl (Nat.le_of_ble_eq_true rfl) dX6_depth_17 (g_no) ?_
    intro v9 w9 H locs h9 hG
    obtain ⟨e9, f9⟩ := h9
    rw [f9] at hG; rw [e9]; clear e9 f9
    show W p l e _ s m args below meth c H locs _ _ _ (F0 m 20 ls [.int (m_isForm d x), .ref (ad 1), .int 1, .int y, .ref (ad 0)])
    refine lv_if_eq (tgt := 27) hx hb dX6_depth_20 (by decide) (fun c9 => absurd c9 c_19) (fun c9 => ?_)
    refine lv_iload_n hx hb dX6_depth_23 rfl (lv_at hl 1 rfl) ?_
    refine lv_goto (tgt := 28) hx hb dX6_depth_24 (by decide) ?_
    refine g_iald hE hG o1 (ix_form hOk c_19) dX6_depth_28 ?_
    refine g_callS (rest := [.ref (ad 0)]) (As := [.int y, .int 1, .int ((d 0) x.toNatClampNeg)]) hE hG hl.1 (c_X6_in l hfl D tc A w y 1 ((d 0) x.toNatClampNeg) ) mw4_35 mw4_36 mw1_4 mw4_37 nm_X6_in ⟨⟨Nat.le_of_ble_eq_true rfl, Nat.le_of_ble_eq_true rfl⟩, Nat.le_of_ble_eq_true rfl, Nat.le_of_ble_eq_true rfl⟩ rfl rfl (Nat.le_of_ble_eq_true rfl) dX6_depth_29 (g_no) ?_
    intro v9 w9 H locs h9 hG
    obtain ⟨e9, f9⟩ := h9
    rw [f9] at hG; rw [e9]; clear e9 f9
    show W p l e _ s m args below meth c H locs _ _ _ (F0 m 32 ls [.int (f_in y 1 ((d 0) x.toNatClampNeg)), .ref (ad 0)])
    refine lv_if_eq (tgt := 39) hx hb dX6_depth_32 (by decide) (fun c_20 => ?_) (fun c_20 => ?_)
    · skip
      refine lv_iconst (v := 0) hx hb dX6_depth_39 (by decide) ?_
      exact j_2 _ _ _ (by rw [if_neg c_19, if_pos c_20]) hG
    · skip
      refine lv_iconst (v := 1) hx hb dX6_depth_35 (by decide) ?_
      refine lv_goto (tgt := 40) hx hb dX6_depth_36 (by decide) ?_
      exact j_2 _ _ _ (by rw [if_neg c_19, if_neg c_20]) hG
def m_bt : Nat → gDt → Int64 → (Nat → Int64) → Nat × gDt × Int64 × (Nat → Int64)
  | 0, d, tk, st => (0, d, tk, st)
  | k + 1, d, tk, st => if d 9 2 = 0 then (0, d, tk, st) else ((m_bt k (mB d) (tk + (d 9 5).toInt64) (m_sts (d 9 6) st)).1 + 1, (m_bt k (mB d) (tk + (d 9 5).toInt64) (m_sts (d 9 6) st)).2)
theorem mB_o (d : gDt) {k : Nat} (h : k ≠ 9) : mB d k = d k := by unfold mB gD; exact if_neg h
theorem mB_s (d : gDt) {j : Nat} (h : j ≠ 2 ∧ j ≠ 4 ∧ j ≠ 5 ∧ j ≠ 6 ∧ j ≠ 7) : mB d 9 j = d 9 j := by
  unfold mB gD
  rw [if_pos rfl]
  split <;> simp [upd, h]
theorem mOk_cong {d d' : gDt} (h : mOk d) (h0 : d' 0 = d 0) (h1 : d' 1 = d 1) (e0 : d' 9 0 = d 9 0) (e1 : d' 9 1 = d 9 1) (e2 : d' 9 13 = d 9 13) : mOk d' := by
  unfold mOk nF nP nU at h ⊢
  rw [h0, h1, e0, e1, e2]
  exact h
theorem mOk_B {d : gDt} (h : mOk d) : mOk (mB d) := mOk_cong h (mB_o d (by decide)) (mB_o d (by decide)) (mB_s d (by decide)) (mB_s d (by decide)) (mB_s d (by decide))
theorem nP_B (d : gDt) : nP (mB d) = nP d := by unfold nP; rw [mB_s d (by decide)]
def ga_beats (d : gDt) (x : Int32) : Int32 := (f_in x 1 100)
def gb_beats (d : gDt) (x : Int32) : Int32 := (d 9 2)
def gc_beats (d : gDt) (x : Int32) : Int32 := 1
abbrev rm_X6_beats : Room := { frames := 4, cells := 0, slots := 0, locals := 158 }
theorem nm_X6_beats : gNm yX6_beats 1 := ⟨by decide +kernel, by decide +kernel, by decide +kernel⟩
set_option maxHeartbeats 8000000 in
set_option maxRecDepth 100000 in
theorem c_X6_beats (l : Launch) (hfl : l.stackTraces = false) (D : va_G) (tc : Nat → ClassId) (A : Nat → Prop) (w : gW) (ad : Nat → Nat) (d : gDt) (tk : Int64) (st : Nat → Int64) (x : Int32) (hM : mW tc w ad d tk st) (hOk : mOk d) (hcu : ¬ d 9 2 = 0 → ∃ i, i < nP d ∧ d 9 3 = nI i) : gM l yX6_beats cX6_beats 3 (some .int) rm_X6_beats D tc A [.ref (ad 0), .int x] w (fun v w' => (m_go (ga_beats d x) (gb_beats d x) (gc_beats d x) = 0 ∧ (∃ r, v = some (.int r)) ∧ mW tc w' ad (sL d (m_la (ga_beats d x) (gb_beats d x) (gc_beats d x))) tk st ∧ gF w w') ∨ (¬ m_go (ga_beats d x) (gb_beats d x) (gc_beats d x) = 0 ∧ v = some (.int (nI (m_bt x.toNatClampNeg (sL d 0) tk st).1)) ∧ mW tc w' ad ((m_bt x.toNatClampNeg (sL d 0) tk st).2.1) ((m_bt x.toNatClampNeg (sL d 0) tk st).2.2.1) ((m_bt x.toNatClampNeg (sL d 0) tk st).2.2.2) ∧ gF w w')) (fun _ => False) := by
  refine gM_of (by decide +kernel) (Nat.le_of_ble_eq_true rfl) ?_
  intro p e s m args below meth c ls Q hQ hE hG hr hnt hnm hl
  have hx := hE.1
  have hb := hE.2.1
  have hl : lv_has ls 3 [(0, .ref (ad 0)), (1, .int x)] := hl
  obtain ⟨o0, o1, o2, o3, o4, o5, o6, o7, o8, o9, o10⟩ := hM
  refine lv_aload_n hx hb dX6_beats_0 rfl (lv_at hl 0 rfl) ?_
  refine lv_iload_n hx hb dX6_beats_1 rfl (lv_at hl 1 rfl) ?_
  refine lv_iconst (v := 1) hx hb dX6_beats_2 (by decide) ?_
  refine lv_bipush (v := 100) hx hb dX6_beats_3 (by decide) ?_
  refine g_callS (rest := [.ref (ad 0)]) (As := [.int x, .int 1, .int 100]) hE hG hl.1 (c_X6_in l hfl D tc A w x 1 100 ) mw4_35 mw4_36 mw1_4 mw4_37 nm_X6_in ⟨⟨Nat.le_of_ble_eq_true rfl, Nat.le_of_ble_eq_true rfl⟩, Nat.le_of_ble_eq_true rfl, Nat.le_of_ble_eq_true rfl⟩ rfl rfl (Nat.le_of_ble_eq_true rfl) dX6_beats_5 (g_no) ?_
  intro v9 w9 H locs h9 hG
  obtain ⟨e9, f9⟩ := h9
  rw [f9] at hG; rw [e9]; clear e9 f9
  show W p l e _ s m args below meth c H locs _ _ _ (F0 m 8 ls [.int (f_in x 1 100), .ref (ad 0)])
  refine lv_aload_n hx hb dX6_beats_8 rfl (lv_at hl 0 rfl) ?_
  refine g_get hE hG o0 rfl inG6 6 (by decide) mw3_193 rfl dX6_beats_9 ?_
  refine lv_iconst (v := 1) hx hb dX6_beats_12 (by decide) ?_
  refine g_callV (rest := []) (As := [.int (f_in x 1 100), .int (d 9 2), .int 1]) hE hG hl.1 (c_X6_goes l hfl D tc A w ad d tk st (f_in x 1 100) (d 9 2) 1 ⟨o0, o1, o2, o3, o4, o5, o6, o7, o8, o9, o10⟩ ) o0 rfl mw4_38 mw4_40 mws_12 mw1_4 mw4_41 rfl nm_X6_goes ⟨⟨Nat.le_of_ble_eq_true rfl, Nat.le_of_ble_eq_true rfl⟩, Nat.le_of_ble_eq_true rfl, Nat.le_of_ble_eq_true rfl⟩ rfl rfl (Nat.le_of_ble_eq_true rfl) dX6_beats_13 (g_no) ?_
  intro v9 w_1 H locs h9 hG
  obtain ⟨e9, ew_1⟩ := h9
  rw [e9]; clear e9
  show W p l e _ s m args below meth c H locs _ _ _ (F0 m 16 ls [.int (m_go (f_in x 1 100) (d 9 2) 1)])
  have h_2 : w_1 1001 = some ((ad 1), .inl (tc 0, 4, .inl (d 0))) := gU_n ew_1 (by decide) o1
  have h_3 : w_1 1002 = some ((ad 2), .inl (tc 0, 6, .inl (d 1))) := gU_n ew_1 (by decide) o2
  have h_4 : w_1 1003 = some ((ad 3), .inl (tc 0, 6, .inl (d 2))) := gU_n ew_1 (by decide) o3
  have h_5 : w_1 1004 = some ((ad 4), .inl (tc 0, 390, .inl (d 3))) := gU_n ew_1 (by decide) o4
  have h_6 : w_1 1005 = some ((ad 5), .inl (tc 1, 4, .inr (.inl st))) := gU_n ew_1 (by decide) o5
  have h_7 : w_1 1006 = some ((ad 6), .inl (tc 0, 32, .inl (d 4))) := gU_n ew_1 (by decide) o6
  have h_8 : w_1 1007 = some ((ad 7), .inl (tc 0, 4, .inl (d 5))) := gU_n ew_1 (by decide) o7
  have h_9 : w_1 1008 = some ((ad 8), .inl (tc 0, 8, .inl (d 6))) := gU_n ew_1 (by decide) o8
  have h_10 : w_1 1009 = some ((ad 9), .inl (tc 2, 48, .inl (d 7))) := gU_n ew_1 (by decide) o9
  have h_11 : w_1 1010 = some ((ad 10), .inl (tc 0, 3120, .inl (d 8))) := gU_n ew_1 (by decide) o10
  have h_12 : w_1 1000 = some ((ad 0), .inr (6, [.ref (ad 1), .int (d 9 0), .ref (ad 2), .ref (ad 3), .ref (ad 4), .int (d 9 1), .int (d 9 2), .int (d 9 3), .int (d 9 4), .int (d 9 5), .int (d 9 6), .int (d 9 7), .int (d 9 8), .int (d 9 9), .long tk, .ref (ad 5), .int (d 9 10), .int (d 9 11), .ref (ad 6), .ref (ad 7), .int (d 9 12), .ref (ad 8), .ref (ad 9), .ref (ad 10), .int (d 9 13), .int (m_la (f_in x 1 100) (d 9 2) 1)])) := gU_s ew_1
  refine lv_if_ne (tgt := 21) hx hb dX6_beats_16 (by decide) (fun c_13 => ?_) (fun c_13 => ?_)
  · skip
    obtain ⟨y, hy1, hy2, hxy⟩ := nI_bet (a := 1) (b := 100) (by decide) (f_in_ne (m_go_ne c_13).1).1 (f_in_ne (m_go_ne c_13).1).2 (by decide)
    subst hxy
    rw [m_la_ok c_13] at h_12
    have hM0 : mW tc w_1 ad (sL d 0) tk st := mW_mk h_12 h_2 h_3 h_4 h_5 h_6 h_7 h_8 h_9 h_10 h_11
    have hF0 : gF w w_1 := gF_u (gF_rf w) ew_1 (by decide)
    refine lv_iconst (v := 0) hx hb dX6_beats_21 (by decide) ?_
    refine lv_istore_n (lv' := [(2, .int 0), (0, .ref (ad 0)), (1, .int (nI y))]) hx hb dX6_beats_22 rfl hl (by decide) rfl (fun ls hl => ?_)
    have hl : lv_has ls 3 [(2, .int (nI 0)), (0, .ref (ad 0)), (1, .int (nI y))] := hl
    have hloop : ∀ (k n9 : Nat) (d9 : gDt) (tk9 : Int64) (st9 : Nat → Int64) (w8 : gW) (H : Heap) (locs : List Loc) (ls : Array Slot), k + n9 = y → n9 + (m_bt k d9 tk9 st9).1 = (m_bt y (sL d 0) tk st).1 → (m_bt k d9 tk9 st9).2 = (m_bt y (sL d 0) tk st).2 → mW tc w8 ad d9 tk9 st9 → gF w w8 → mOk d9 → (¬ d9 9 2 = 0 → ∃ i, i < nP d9 ∧ d9 9 3 = nI i) → gS D A s.heap w8 H locs → lv_has ls 3 [(2, .int (nI n9)), (0, .ref (ad 0)), (1, .int (nI y))] → W p l e rm_X6_beats s m args below meth c H locs ((0 + rm_X6_in.cells) + rm_X6_goes.cells) ((0 + rm_X6_in.slots) + rm_X6_goes.slots) Q (F0 m 23 ls []) := by
      intro k
      induction k with
      | zero =>
        intro n9 d9 tk9 st9 w8 H locs ls hkn hr1 hr2 hM9 hF9 hOk9 hcu9 hG hl
        obtain ⟨q0, q1, q2, q3, q4, q5, q6, q7, q8, q9, q10⟩ := id hM9
        refine lv_iload_n hx hb dX6_beats_23 rfl (lv_at hl 0 rfl) ?_
        refine lv_iload_n hx hb dX6_beats_24 rfl (lv_at hl 2 rfl) ?_
        refine lv_icmp_ge (tgt := 45) hx hb dX6_beats_25 (by decide) (fun c9 => ?_) (fun c9 => (c9 (nI_le (by omega) (by omega))).elim)
        refine lv_iload_n hx hb dX6_beats_45 rfl (lv_at hl 0 rfl) ?_
        subst hQ
        have hyc : (nI y).toNatClampNeg = y := nI_clamp (by omega)
        have hr1 : n9 = (m_bt y (sL d 0) tk st).1 := hr1
        have hr2 : (d9, tk9, st9) = (m_bt y (sL d 0) tk st).2 := hr2
        exact g_iret hE hG hr (Nat.le_of_ble_eq_true rfl) (Nat.le_of_ble_eq_true rfl) dX6_beats_46 (Or.inr ⟨c_13, (by rw [hyc, ← hr1]), (by rw [hyc, ← hr2]; exact hM9), hF9⟩)
      | succ k ih =>
        intro n9 d9 tk9 st9 w8 H locs ls hkn hr1 hr2 hM9 hF9 hOk9 hcu9 hG hl
        obtain ⟨q0, q1, q2, q3, q4, q5, q6, q7, q8, q9, q10⟩ := id hM9
        refine lv_iload_n hx hb dX6_beats_23 rfl (lv_at hl 0 rfl) ?_
        refine lv_iload_n hx hb dX6_beats_24 rfl (lv_at hl 2 rfl) ?_
        refine lv_icmp_ge (tgt := 45) hx hb dX6_beats_25 (by decide) (fun c9 => absurd c9 (nI_ge (by omega) (by omega))) (fun c9 => ?_)
        refine lv_aload_n hx hb dX6_beats_28 rfl (lv_at hl 1 rfl) ?_
        refine g_get hE hG q0 rfl inG6 6 (by decide) mw3_193 rfl dX6_beats_29 ?_
        refine lv_if_eq (tgt := 45) hx hb dX6_beats_32 (by decide) (fun c_14 => ?_) (fun c_14 => ?_)
        · skip
          refine lv_iload_n hx hb dX6_beats_45 rfl (lv_at hl 0 rfl) ?_
          subst hQ
          have hyc : (nI y).toNatClampNeg = y := nI_clamp (by omega)
          have hb9 : m_bt (k + 1) d9 tk9 st9 = (0, d9, tk9, st9) := by show (if _ then _ else _) = _; rw [if_pos c_14]
          rw [hb9] at hr1 hr2
          have hr1 : n9 = (m_bt y (sL d 0) tk st).1 := hr1
          have hr2 : (d9, tk9, st9) = (m_bt y (sL d 0) tk st).2 := hr2
          exact g_iret hE hG hr (Nat.le_of_ble_eq_true rfl) (Nat.le_of_ble_eq_true rfl) dX6_beats_46 (Or.inr ⟨c_13, (by rw [hyc, ← hr1]), (by rw [hyc, ← hr2]; exact hM9), hF9⟩)
        · skip
          refine lv_aload_n hx hb dX6_beats_35 rfl (lv_at hl 1 rfl) ?_
          refine g_callV (rest := []) (As := []) hE hG hl.1 (c_X6_playsBeat l hfl D tc A w8 ad d9 tk9 st9  ⟨q0, q1, q2, q3, q4, q5, q6, q7, q8, q9, q10⟩ hOk9 (hcu9 c_14)) q0 rfl mw4_115 mw4_117 mws_18 mw1_4 mw4_118 rfl nm_X6_playsBeat ⟨⟨Nat.le_of_ble_eq_true rfl, Nat.le_of_ble_eq_true rfl⟩, Nat.le_of_ble_eq_true rfl, Nat.le_of_ble_eq_true rfl⟩ rfl rfl (Nat.le_of_ble_eq_true rfl) dX6_beats_36 (g_no) ?_
          intro v9 w7 H locs h9 hG
          obtain ⟨e9, hM8, hF8⟩ := h9
          rw [e9]; clear e9
          show W p l e _ s m args below meth c H locs _ _ _ (F0 m 39 ls [])
          refine lv_iinc (v := (nI (n9 + 1))) (lv' := [(2, .int (nI (n9 + 1))), (0, .ref (ad 0)), (1, .int (nI y))]) hx hb dX6_beats_39 hl (k := 0) rfl (nI_1 n9) (by decide) rfl (fun ls hl => ?_)
          refine lv_goto (tgt := 23) hx hb dX6_beats_42 (by decide) ?_
          exact ih (n9 + 1) (mB d9) (tk9 + (d9 9 5).toInt64) (m_sts (d9 9 6) st9) w7 _ _ _ (by omega) (by rw [← hr1]; show _ = n9 + (if _ then _ else _ : Nat × gDt × Int64 × (Nat → Int64)).1; rw [if_neg c_14]; show _ = n9 + (_ + 1); omega) (by rw [← hr2]; show _ = (if _ then _ else _ : Nat × gDt × Int64 × (Nat → Int64)).2; rw [if_neg c_14]) hM8 (gF_tr hF9 hF8) (mOk_B hOk9) (fun _ => by obtain ⟨i, hi, hc⟩ := hcu9 c_14; exact ⟨i, by rw [nP_B]; exact hi, by rw [mB_s d9 (by decide)]; exact hc⟩) hG (lv_sub hl [0, 1, 2] rfl)
    exact hloop y 0 (sL d 0) tk st w_1 _ _ _ rfl (Nat.zero_add _) rfl hM0 hF0 hOk hcu hG (lv_sub hl [0, 1, 2] rfl)
  · skip
    refine lv_iconst (v := 0) hx hb dX6_beats_19 (by decide) ?_
    subst hQ
    exact g_iret hE hG hr (Nat.le_of_ble_eq_true rfl) (Nat.le_of_ble_eq_true rfl) dX6_beats_20 (Or.inl ⟨c_13, ⟨_, rfl⟩, mW_mk h_12 h_2 h_3 h_4 h_5 h_6 h_7 h_8 h_9 h_10 h_11, gF_u (gF_rf w) ew_1 (by decide)⟩)
