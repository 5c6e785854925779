/-! GongCycles: knowersOf, learn, covered -/
abbrev rm_X5_knowersOf : Room := { frames := 2, cells := 0, slots := 0, locals := 86 }
theorem nm_X5_knowersOf : gNm yX5_knowersOf 1 := ⟨by decide +kernel, by decide +kernel, by decide +kernel⟩
set_option maxHeartbeats 4000000 in
set_option maxRecDepth 100000 in
theorem c_X5_knowersOf (l : Launch) (hfl : l.stackTraces = false) (D : va_G) (tc : Nat → ClassId) (A : Nat → Prop) (w : gW) (ca : Nat → Nat) (d : gDt) (tk : Int64) (st : Nat → Int64) (i : Nat) (hC : cW tc w ca d tk st) (hOk : mOk d) (hi : i < nP d) : gM l yX5_knowersOf cX5_knowersOf 4 (some .int) rm_X5_knowersOf D tc A [.ref (ca 0), .int (nI i)] w (fun v w' => w' = w ∧ v = some (.int (nI (m_knc (d 7) i (nU d))))) (fun _ => False) := by
  refine gM_of (by decide +kernel) (Nat.le_of_ble_eq_true rfl) ?_
  intro p e s m args below meth c ls Q hQ hE hG hr hnt hnm hl
  have hx := hE.1
  have hb := hE.2.1
  have hl : lv_has ls 4 [(0, .ref (ca 0)), (1, .int (nI i))] := hl
  obtain ⟨⟨z0, z1, z2, z5, z6⟩, ⟨cy, ge, sf, z3, z4, hsf, hce, hcy⟩, zP, zS, zU, zV, zN⟩ := id hC
  refine lv_iconst (v := 0) hx hb dX5_knowersOf_0 (by decide) ?_
  refine lv_istore_n (lv' := [(2, .int 0), (0, .ref (ca 0)), (1, .int (nI i))]) hx hb dX5_knowersOf_1 rfl hl (by decide) rfl (fun ls hl => ?_)
  refine lv_iconst (v := 0) hx hb dX5_knowersOf_2 (by decide) ?_
  refine lv_istore_n (lv' := [(3, .int 0), (2, .int 0), (0, .ref (ca 0)), (1, .int (nI i))]) hx hb dX5_knowersOf_3 rfl hl (by decide) rfl (fun ls hl => ?_)
  have b9 := hOk.1.2.2
  have b6 : i < 6 := by have := hOk.1.2.1; omega
  have hl : lv_has ls 4 [(3, .int (nI 0)), (2, .int (nI (m_knc (d 7) i 0))), (0, .ref (ca 0)), (1, .int (nI i))] := hl
  have hloop : ∀ (k : Nat) (H : Heap) (locs : List Loc) (ls : Array Slot), k ≤ (nU d) → gS D A s.heap w H locs → lv_has ls 4 [(3, .int (nI ((nU d) - k))), (2, .int (nI (m_knc (d 7) i ((nU d) - k)))), (0, .ref (ca 0)), (1, .int (nI i))] → W p l e rm_X5_knowersOf s m args below meth c H locs 0 0 Q (F0 m 4 ls []) := by
    intro k
    induction k with
    | zero =>
      intro H locs ls hkT hG hl
      have hl : lv_has ls 4 [(3, .int (nI (nU d))), (2, .int (nI (m_knc (d 7) i (nU d)))), (0, .ref (ca 0)), (1, .int (nI i))] := hl
      refine lv_iload_n hx hb dX5_knowersOf_4 rfl (lv_at hl 0 rfl) ?_
      refine lv_aload_n hx hb dX5_knowersOf_5 rfl (lv_at hl 2 rfl) ?_
      refine g_get hE hG z0 rfl inG5 10 (by decide) mw1_111 rfl dX5_knowersOf_6 ?_
      rw [hOk.2.1.2.2]
      refine lv_icmp_ge (tgt := 33) hx hb dX5_knowersOf_9 (by decide) (fun c9 => ?_) (fun c9 => (c9 (nI_le (a := nU d) (by omega) (by omega))).elim)
      refine lv_iload_n hx hb dX5_knowersOf_33 rfl (lv_at hl 1 rfl) ?_
      subst hQ
      exact g_iret hE hG hr (Nat.le_of_ble_eq_true rfl) (Nat.le_of_ble_eq_true rfl) dX5_knowersOf_34 ⟨rfl, rfl⟩
    | succ k ih =>
      intro H locs ls hkT hG hl
      refine lv_iload_n hx hb dX5_knowersOf_4 rfl (lv_at hl 0 rfl) ?_
      refine lv_aload_n hx hb dX5_knowersOf_5 rfl (lv_at hl 2 rfl) ?_
      refine g_get hE hG z0 rfl inG5 10 (by decide) mw1_111 rfl dX5_knowersOf_6 ?_
      rw [hOk.2.1.2.2]
      refine lv_icmp_ge (tgt := 33) hx hb dX5_knowersOf_9 (by decide) (fun c9 => absurd c9 (nI_ge (b := nU d) (by omega) (by omega))) (fun c9 => ?_)
      refine lv_aload_n hx hb dX5_knowersOf_12 rfl (lv_at hl 2 rfl) ?_
      refine lv_iload_n hx hb dX5_knowersOf_13 rfl (lv_at hl 0 rfl) ?_
      refine g_callV (rest := []) (As := [.int (nI ((nU d) - (k + 1)))]) hE hG hl.1 (c_X5_playerAt_ok l hfl D tc A w ca d tk st ((nU d) - (k + 1)) hC hOk (by omega)) z0 rfl mw3_17 mw3_19 mws_8 mw1_1 mw3_20 rfl nm_X5_playerAt ⟨⟨Nat.le_of_ble_eq_true rfl, Nat.le_of_ble_eq_true rfl⟩, Nat.le_of_ble_eq_true rfl, Nat.le_of_ble_eq_true rfl⟩ rfl rfl (Nat.le_of_ble_eq_true rfl) dX5_knowersOf_14 (g_no) ?_
      intro v9 w9 H locs h9 hG
      obtain ⟨e8, e9⟩ := h9
      rw [e9]; clear e9
      rw [e8] at hG; clear e8
      show W p l e _ s m args below meth c H locs _ _ _ (F0 m 17 ls [.ref (ca (40 + ((nU d) - (k + 1))))])
      obtain ⟨q1, qg, q3, q4⟩ := zU ((nU d) - (k + 1)) (by omega)
      refine lv_iload_n hx hb dX5_knowersOf_17 rfl (lv_at hl 3 rfl) ?_
      refine g_callV (rest := []) (As := [.int (nI i)]) hE hG hl.1 (c_X3_versionOf l hfl D tc A w (40 + ((nU d) - (k + 1))) (50 + ((nU d) - (k + 1))) (ca (40 + ((nU d) - (k + 1)))) (ca (50 + ((nU d) - (k + 1)))) (d 6 ((nU d) - (k + 1))) qg (nI i) q1 q3 ) q1 rfl mw3_22 mw3_23 mw3_24 mw1_13 mw3_25 rfl nm_X3_versionOf ⟨⟨Nat.le_of_ble_eq_true rfl, Nat.le_of_ble_eq_true rfl⟩, Nat.le_of_ble_eq_true rfl, Nat.le_of_ble_eq_true rfl⟩ rfl rfl (Nat.le_of_ble_eq_true rfl) dX5_knowersOf_18 (g_no) ?_
      intro v9 w9 H locs h9 hG
      obtain ⟨e9, f9⟩ := h9
      rw [f9] at hG; rw [e9]; clear e9 f9
      show W p l e _ s m args below meth c H locs _ _ _ (F0 m 21 ls [va_rf (f_ver qg (nI i))])
      rw [f_ver_in b6, q4 _ b6]
      by_cases hz : d 7 (6 * ((nU d) - (k + 1)) + i) = 0
      · skip
        rw [if_pos hz]
        show W p l e _ s m args below meth c _ _ _ _ _ (F0 m 21 ls [.null])
        refine lv_ifnullN (tgt := 27) hx hb dX5_knowersOf_21 (by decide) ?_
        refine lv_iinc (v := (nI ((nU d) - k))) (lv' := [(3, .int (nI ((nU d) - k))), (2, .int (nI (m_knc (d 7) i ((nU d) - (k + 1))))), (0, .ref (ca 0)), (1, .int (nI i))]) hx hb dX5_knowersOf_27 hl (k := 0) rfl (by rw [show (nU d) - k = ((nU d) - (k + 1)) + 1 by omega]; exact nI_1 _) (by decide) rfl (fun ls hl => ?_)
        refine lv_goto (tgt := 4) hx hb dX5_knowersOf_30 (by decide) ?_
        have e9 : nI (m_knc (d 7) i (nU d - k)) = (nI (m_knc (d 7) i ((nU d) - (k + 1)))) := by rw [show nU d - k = (nU d - (k + 1)) + 1 by omega]; show nI (if _ then _ else _) = _; rw [if_pos hz]
        exact ih _ _ _ (by omega) hG (by rw [e9]; exact lv_sub hl [0, 1, 2, 3] rfl)
      · skip
        rw [if_neg hz]
        show W p l e _ s m args below meth c _ _ _ _ _ (F0 m 21 ls [.ref (ca (100 + 10 * ((nU d) - (k + 1)) + i))])
        refine lv_ifnull hx hb dX5_knowersOf_21 ?_
        refine lv_iinc (v := ((nI (m_knc (d 7) i ((nU d) - (k + 1)))) + 1)) (lv' := [(2, .int ((nI (m_knc (d 7) i ((nU d) - (k + 1)))) + 1)), (3, .int (nI ((nU d) - (k + 1)))), (0, .ref (ca 0)), (1, .int (nI i))]) hx hb dX5_knowersOf_24 hl (k := 1) rfl rfl (by decide) rfl (fun ls hl => ?_)
        refine lv_iinc (v := (nI ((nU d) - k))) (lv' := [(3, .int (nI ((nU d) - k))), (2, .int ((nI (m_knc (d 7) i ((nU d) - (k + 1)))) + 1)), (0, .ref (ca 0)), (1, .int (nI i))]) hx hb dX5_knowersOf_27 hl (k := 1) rfl (by rw [show (nU d) - k = ((nU d) - (k + 1)) + 1 by omega]; exact nI_1 _) (by decide) rfl (fun ls hl => ?_)
        refine lv_goto (tgt := 4) hx hb dX5_knowersOf_30 (by decide) ?_
        have e9 : nI (m_knc (d 7) i (nU d - k)) = ((nI (m_knc (d 7) i ((nU d) - (k + 1)))) + 1) := by rw [show nU d - k = (nU d - (k + 1)) + 1 by omega]; show nI (if _ then _ else _) = _; rw [if_neg hz]; exact (nI_1 _).symm
        exact ih _ _ _ (by omega) hG (by rw [e9]; exact lv_sub hl [0, 1, 2, 3] rfl)
  exact hloop (nU d) _ _ _ (Nat.le_refl _) hG (by rw [Nat.sub_self]; exact lv_sub hl [0, 1, 2, 3] rfl)
abbrev rm_X5_covered : Room := { frames := 8, cells := 8, slots := 48, locals := 302 }
theorem nm_X5_covered : gNm yX5_covered 1 := ⟨by decide +kernel, by decide +kernel, by decide +kernel⟩
set_option maxHeartbeats 4000000 in
set_option maxRecDepth 100000 in
theorem c_X5_covered (l : Launch) (hfl : l.stackTraces = false) (D : va_G) (tc : Nat → ClassId) (A : Nat → Prop) (w : gW) (ca : Nat → Nat) (d : gDt) (tk : Int64) (st : Nat → Int64) (x : Int32) (hC : cW tc w ca d tk st) (hOk : mOk d) : gM l yX5_covered cX5_covered 5 (some .int) rm_X5_covered D tc A [.ref (ca 0), .int x] w (fun v w' => ¬ m_go (ga_covered d x) (gb_covered d x) (gc_covered d x) = 0 ∧ v = some (.int (m_most (m_cv d x.toNatClampNeg (nU d)) 16)) ∧ (∃ ca' : Nat → Nat, ca' 0 = ca 0 ∧ cW tc w' ca' (sL d 0) tk st) ∧ gK w w') (c_thr gIO gIS gIS (ga_covered d x) (gb_covered d x) (gc_covered d x)) := by
  refine gM_of (by decide +kernel) (Nat.le_of_ble_eq_true rfl) ?_
  intro p e s m args below meth c ls Q hQ hE hG hr hnt hnm hl
  have hx := hE.1
  have hb := hE.2.1
  have hl : lv_has ls 5 [(0, .ref (ca 0)), (1, .int x)] := hl
  obtain ⟨⟨z0, z1, z2, z5, z6⟩, ⟨cy, ge, sf, z3, z4, hsf, hce, hcy⟩, zP, zS, zU, zV, zN⟩ := id hC
  refine lv_aload_n hx hb dX5_covered_0 rfl (lv_at hl 0 rfl) ?_
  refine lv_iload_n hx hb dX5_covered_1 rfl (lv_at hl 1 rfl) ?_
  refine g_callV (rest := []) (As := [.int x]) hE hG hl.1 (c_X5_pieceAt l hfl D tc A w ca d tk st x hC hOk) z0 rfl mw2_57 mw2_59 mws_2 mw1_1 mw2_60 rfl nm_X5_pieceAt ⟨⟨Nat.le_of_ble_eq_true rfl, Nat.le_of_ble_eq_true rfl⟩, Nat.le_of_ble_eq_true rfl, Nat.le_of_ble_eq_true rfl⟩ rfl rfl (Nat.le_of_ble_eq_true rfl) dX5_covered_2 (by subst hQ; exact g_out hE hnt rfl (fun E h => Or.inl h) (Nat.le_of_ble_eq_true rfl) (Nat.le_of_ble_eq_true rfl)) ?_
  intro v9 w9 H locs h9 hG
  obtain ⟨e8, i_1, hi_1, hxi_1, e9⟩ := h9
  rw [e9]; clear e9
  rw [e8] at hG; clear e8
  show W p l e _ s m args below meth c H locs _ _ _ (F0 m 5 ls [.ref (ca (10 + i_1))])
  subst hxi_1
  have b6a : i_1 < 6 := by have := hOk.1.2.1; omega
  have b8a := (mOk_len hOk hi_1).2.2.1
  obtain ⟨p1a, p2a, pfa, p3a, p4a⟩ := zP i_1 hi_1
  refine lv_pop hx hb dX5_covered_5 rfl ?_
  refine lv_iconst (v := 1) hx hb dX5_covered_6 (by decide) ?_
  refine lv_istore_n (lv' := [(2, .int 1), (0, .ref (ca 0)), (1, .int (nI i_1))]) hx hb dX5_covered_7 rfl hl (by decide) rfl (fun ls hl => ?_)
  refine lv_iconst (v := 0) hx hb dX5_covered_8 (by decide) ?_
  refine lv_istore_n (lv' := [(3, .int 0), (2, .int 1), (0, .ref (ca 0)), (1, .int (nI i_1))]) hx hb dX5_covered_9 rfl hl (by decide) rfl (fun ls hl => ?_)
  have b9 := hOk.1.2.2
  have hl : lv_has ls 5 [(3, .int (nI 0)), (2, .int (m_cv d i_1 0)), (0, .ref (ca 0)), (1, .int (nI i_1))] := hl
  have hloop : ∀ (k : Nat) (H : Heap) (locs : List Loc) (ls : Array Slot), k ≤ (nU d) → gS D A s.heap w H locs → lv_has ls 5 [(3, .int (nI ((nU d) - k))), (2, .int (m_cv d i_1 ((nU d) - k))), (0, .ref (ca 0)), (1, .int (nI i_1))] → W p l e rm_X5_covered s m args below meth c H locs (0 + rm_X5_pieceAt.cells) (0 + rm_X5_pieceAt.slots) Q (F0 m 10 ls []) := by
    intro k
    induction k with
    | zero =>
      intro H locs ls hkT hG hl
      have hl : lv_has ls 5 [(3, .int (nI (nU d))), (2, .int (m_cv d i_1 (nU d))), (0, .ref (ca 0)), (1, .int (nI i_1))] := hl
      refine lv_iload_n hx hb dX5_covered_10 rfl (lv_at hl 0 rfl) ?_
      refine lv_aload_n hx hb dX5_covered_11 rfl (lv_at hl 2 rfl) ?_
      refine g_get hE hG z0 rfl inG5 10 (by decide) mw1_111 rfl dX5_covered_12 ?_
      rw [hOk.2.1.2.2]
      refine lv_icmp_ge (tgt := 50) hx hb dX5_covered_15 (by decide) (fun c9 => ?_) (fun c9 => (c9 (nI_le (a := nU d) (by omega) (by omega))).elim)
      refine lv_iload_n hx hb dX5_covered_50 rfl (lv_at hl 1 rfl) ?_
      refine g_callS (rest := []) (As := [.int (m_cv d i_1 (nU d))]) hE hG hl.1 (c_X5_mostParts l hfl D tc A w (m_cv d i_1 (nU d)) ) mw3_143 mw3_144 mw1_1 mw3_145 nm_X5_mostParts ⟨⟨Nat.le_of_ble_eq_true rfl, Nat.le_of_ble_eq_true rfl⟩, Nat.le_of_ble_eq_true rfl, Nat.le_of_ble_eq_true rfl⟩ rfl rfl (Nat.le_of_ble_eq_true rfl) dX5_covered_51 (g_no) ?_
      intro v9 w9 H locs h9 hG
      obtain ⟨e9, f9⟩ := h9
      rw [f9] at hG; rw [e9]; clear e9 f9
      show W p l e _ s m args below meth c H locs _ _ _ (F0 m 54 ls [.int (f_mp (m_cv d i_1 (nU d)) 16)])
      subst hQ
      exact g_iret hE hG hr (Nat.le_of_ble_eq_true rfl) (Nat.le_of_ble_eq_true rfl) dX5_covered_54 ⟨m_go_i (isPiece_s hOk hi_1) one_nz one_nz, congrArg (fun a => some (Value.int a)) (by rw [nI_clamp (by omega), mp_eq _ 16 (Nat.le_refl _)]), ⟨ca, rfl, cW_l hC 0⟩, gK_rf w⟩
    | succ k ih =>
      intro H locs ls hkT hG hl
      refine lv_iload_n hx hb dX5_covered_10 rfl (lv_at hl 0 rfl) ?_
      refine lv_aload_n hx hb dX5_covered_11 rfl (lv_at hl 2 rfl) ?_
      refine g_get hE hG z0 rfl inG5 10 (by decide) mw1_111 rfl dX5_covered_12 ?_
      rw [hOk.2.1.2.2]
      refine lv_icmp_ge (tgt := 50) hx hb dX5_covered_15 (by decide) (fun c9 => absurd c9 (nI_ge (b := nU d) (by omega) (by omega))) (fun c9 => ?_)
      refine lv_aload_n hx hb dX5_covered_18 rfl (lv_at hl 2 rfl) ?_
      refine lv_iload_n hx hb dX5_covered_19 rfl (lv_at hl 0 rfl) ?_
      refine g_callV (rest := []) (As := [.int (nI ((nU d) - (k + 1)))]) hE hG hl.1 (c_X5_playerAt_ok l hfl D tc A w ca d tk st ((nU d) - (k + 1)) hC hOk (by omega)) z0 rfl mw3_17 mw3_19 mws_8 mw1_1 mw3_20 rfl nm_X5_playerAt ⟨⟨Nat.le_of_ble_eq_true rfl, Nat.le_of_ble_eq_true rfl⟩, Nat.le_of_ble_eq_true rfl, Nat.le_of_ble_eq_true rfl⟩ rfl rfl (Nat.le_of_ble_eq_true rfl) dX5_covered_20 (g_no) ?_
      intro v9 w9 H locs h9 hG
      obtain ⟨e8, e9⟩ := h9
      rw [e9]; clear e9
      rw [e8] at hG; clear e8
      show W p l e _ s m args below meth c H locs _ _ _ (F0 m 23 ls [.ref (ca (40 + ((nU d) - (k + 1))))])
      obtain ⟨q1, qg, q3, q4⟩ := zU ((nU d) - (k + 1)) (by omega)
      refine lv_astore (lv' := [(4, .ref (ca (40 + ((nU d) - (k + 1))))), (3, .int (nI ((nU d) - (k + 1)))), (2, .int (m_cv d i_1 ((nU d) - (k + 1)))), (0, .ref (ca 0)), (1, .int (nI i_1))]) hx hb dX5_covered_23 hl (by decide) rfl (fun ls hl => ?_)
      refine lv_aload hx hb dX5_covered_25 (lv_at hl 0 rfl) ?_
      refine lv_iload_n hx hb dX5_covered_27 rfl (lv_at hl 4 rfl) ?_
      refine g_callV (rest := []) (As := [.int (nI i_1)]) hE hG hl.1 (c_X3_versionOf l hfl D tc A w (40 + ((nU d) - (k + 1))) (50 + ((nU d) - (k + 1))) (ca (40 + ((nU d) - (k + 1)))) (ca (50 + ((nU d) - (k + 1)))) (d 6 ((nU d) - (k + 1))) qg (nI i_1) q1 q3 ) q1 rfl mw3_22 mw3_23 mw3_24 mw1_13 mw3_25 rfl nm_X3_versionOf ⟨⟨Nat.le_of_ble_eq_true rfl, Nat.le_of_ble_eq_true rfl⟩, Nat.le_of_ble_eq_true rfl, Nat.le_of_ble_eq_true rfl⟩ rfl rfl (Nat.le_of_ble_eq_true rfl) dX5_covered_28 (g_no) ?_
      intro v9 w9 H locs h9 hG
      obtain ⟨e9, f9⟩ := h9
      rw [f9] at hG; rw [e9]; clear e9 f9
      show W p l e _ s m args below meth c H locs _ _ _ (F0 m 31 ls [va_rf (f_ver qg (nI i_1))])
      rw [f_ver_in b6a, q4 _ b6a]
      by_cases hz : d 7 (6 * ((nU d) - (k + 1)) + i_1) = 0
      · skip
        rw [if_pos hz]
        show W p l e _ s m args below meth c _ _ _ _ _ (F0 m 31 ls [.null])
        refine lv_ifnullN (tgt := 44) hx hb dX5_covered_31 (by decide) ?_
        refine lv_iinc (v := (nI ((nU d) - k))) (lv' := [(3, .int (nI ((nU d) - k))), (4, .ref (ca (40 + ((nU d) - (k + 1))))), (2, .int (m_cv d i_1 ((nU d) - (k + 1)))), (0, .ref (ca 0)), (1, .int (nI i_1))]) hx hb dX5_covered_44 hl (k := 1) rfl (by rw [show (nU d) - k = ((nU d) - (k + 1)) + 1 by omega]; exact nI_1 _) (by decide) rfl (fun ls hl => ?_)
        refine lv_goto (tgt := 10) hx hb dX5_covered_47 (by decide) ?_
        have e9 : m_cv d i_1 (nU d - k) = (m_cv d i_1 ((nU d) - (k + 1))) := by rw [show nU d - k = (nU d - (k + 1)) + 1 by omega]; show (if _ then _ else _) = _; rw [if_pos hz]
        exact ih _ _ _ (by omega) hG (by rw [e9]; exact lv_sub hl [0, 2, 3, 4] rfl)
      · skip
        rw [if_neg hz]
        show W p l e _ s m args below meth c _ _ _ _ _ (F0 m 31 ls [.ref (ca (100 + 10 * ((nU d) - (k + 1)) + i_1))])
        refine lv_ifnull hx hb dX5_covered_31 ?_
        refine lv_iload_n hx hb dX5_covered_34 rfl (lv_at hl 2 rfl) ?_
        refine lv_aload hx hb dX5_covered_35 (lv_at hl 0 rfl) ?_
        refine g_getN hE hG q1 rfl inG3 0 (by decide) (List.mem_of_getElem? (i := 10) rfl) rfl dX5_covered_37 ?_
        refine g_callS (rest := []) (As := [.int (m_cv d i_1 ((nU d) - (k + 1))), .int (d 6 ((nU d) - (k + 1)))]) hE hG hl.1 (c_X5_withOnePlayerMore l hfl D tc A w (m_cv d i_1 ((nU d) - (k + 1))) (d 6 ((nU d) - (k + 1))) ) mw3_140 mw3_141 mw1_1 mw3_142 nm_X5_withOnePlayerMore ⟨⟨Nat.le_of_ble_eq_true rfl, Nat.le_of_ble_eq_true rfl⟩, Nat.le_of_ble_eq_true rfl, Nat.le_of_ble_eq_true rfl⟩ rfl rfl (Nat.le_of_ble_eq_true rfl) dX5_covered_40 (g_no) ?_
        intro v9 w9 H locs h9 hG
        obtain ⟨e9, f9⟩ := h9
        rw [f9] at hG; rw [e9]; clear e9 f9
        show W p l e _ s m args below meth c H locs _ _ _ (F0 m 43 ls [.int (f_wO (m_cv d i_1 ((nU d) - (k + 1))) (d 6 ((nU d) - (k + 1))) 16)])
        refine lv_istore_n (lv' := [(2, .int (f_wO (m_cv d i_1 ((nU d) - (k + 1))) (d 6 ((nU d) - (k + 1))) 16)), (4, .ref (ca (40 + ((nU d) - (k + 1))))), (3, .int (nI ((nU d) - (k + 1)))), (0, .ref (ca 0)), (1, .int (nI i_1))]) hx hb dX5_covered_43 rfl hl (by decide) rfl (fun ls hl => ?_)
        refine lv_iinc (v := (nI ((nU d) - k))) (lv' := [(3, .int (nI ((nU d) - k))), (2, .int (f_wO (m_cv d i_1 ((nU d) - (k + 1))) (d 6 ((nU d) - (k + 1))) 16)), (4, .ref (ca (40 + ((nU d) - (k + 1))))), (0, .ref (ca 0)), (1, .int (nI i_1))]) hx hb dX5_covered_44 hl (k := 2) rfl (by rw [show (nU d) - k = ((nU d) - (k + 1)) + 1 by omega]; exact nI_1 _) (by decide) rfl (fun ls hl => ?_)
        refine lv_goto (tgt := 10) hx hb dX5_covered_47 (by decide) ?_
        have e9 : m_cv d i_1 (nU d - k) = (f_wO (m_cv d i_1 ((nU d) - (k + 1))) (d 6 ((nU d) - (k + 1))) 16) := by rw [show nU d - k = (nU d - (k + 1)) + 1 by omega]; show (if _ then _ else _) = _; rw [if_neg hz, ← wO_eq]
        exact ih _ _ _ (by omega) hG (by rw [e9]; exact lv_sub hl [0, 1, 3, 4] rfl)
  exact hloop (nU d) _ _ _ (Nat.le_refl _) hG (by rw [Nat.sub_self]; exact lv_sub hl [0, 1, 2, 3] rfl)
theorem cW_7 {tc : Nat → ClassId} {w : gW} {ca : Nat → Nat} {d : gDt} {tk : Int64} {st : Nat → Int64} {f : Nat → Int32} (hC : cW tc w ca d tk st) (h : ∀ k, f k = 0 ↔ d 7 k = 0) : cW tc w ca (gD d 7 f) tk st := by
  obtain ⟨z, hp, zP, zS, zU, zV, zN1, zN2, zN3⟩ := hC
  refine ⟨z, hp, zP, zS, ?_, ?_, zN1, zN2, ?_⟩
  · intro u hu
    obtain ⟨a, g, e, b⟩ := zU u hu
    refine ⟨a, g, e, ?_⟩
    intro i hi
    rw [b i hi]
    show (if d 7 (6 * u + i) = 0 then none else some (ca (100 + 10 * u + i))) = (if f (6 * u + i) = 0 then none else some (ca (100 + 10 * u + i)))
    by_cases hz : d 7 (6 * u + i) = 0
    · rw [if_pos hz, if_pos ((h _).mpr hz)]
    · rw [if_neg hz, if_neg (fun g => hz ((h _).mp g))]
  · intro u i hu hi hk
    exact zV u i hu hi (fun g => hk ((h _).mpr g))
  · intro u i hu hi hk
    exact zN3 u i hu hi ((h _).mp hk)
theorem lrn_V {d : gDt} {u i : Nat} {o : Int32} {f3 g : Nat → Int32} (hOk : mOk d) (hu : u < 8) (hi : i < nP d) (hs : ∀ j, j < lenN d i → g j = m_tof d o i (j + 1)) : (∀ j, j < lenN d i → f_cp (lenN d i) f3 g j = m_lrnV d (nI u) (nI i) o (65 * (6 * u + i) + j + 1)) ∧ (∀ q j, q ≠ 6 * u + i → j < 64 → m_lrnV d (nI u) (nI i) o (65 * q + j + 1) = d 8 (65 * q + j + 1)) := by
  have := hOk.1.2.1
  have := (mOk_len hOk hi).2.2.1
  unfold m_lrnV f_cpO f_cp
  rw [nI_clamp (by omega), nI_clamp (by omega)]
  constructor
  · intro j hj
    show (if j < lenN d i then g j else f3 j) = (if 65 * (6 * u + i) + 1 ≤ 65 * (6 * u + i) + j + 1 ∧ 65 * (6 * u + i) + j + 1 < 65 * (6 * u + i) + 1 + lenN d i then m_tof d o i (65 * (6 * u + i) + j + 1 - 65 * (6 * u + i)) else d 8 (65 * (6 * u + i) + j + 1))
    rw [if_pos hj, if_pos (by omega), hs j hj, show 65 * (6 * u + i) + j + 1 - 65 * (6 * u + i) = j + 1 by omega]
  · intro q j hq hj
    show (if 65 * (6 * u + i) + 1 ≤ 65 * q + j + 1 ∧ 65 * q + j + 1 < 65 * (6 * u + i) + 1 + lenN d i then _ else d 8 (65 * q + j + 1)) = _
    rw [if_neg (by omega)]
theorem lrn_7 {d : gDt} {u i : Nat} (hu : u < 8) (hi : i < 6) : ((6 : Int32) * nI u + nI i).toNatClampNeg = 6 * u + i := by rw [ix_knI hu hi, nI_clamp (by omega)]
theorem cW_lrn_o {tc : Nat → ClassId} {w w' : gW} {ca : Nat → Nat} {d : gDt} {tk : Int64} {st : Nat → Int64} {u i : Nat} {o : Int32} {f3 g : Nat → Int32} (hC : cW tc w ca d tk st) (hOk : mOk d) (hu : u < 8) (hi : i < nP d) (hkn : ¬ d 7 (6 * u + i) = 0) (hs : ∀ j, j < lenN d i → g j = m_tof d o i (j + 1)) (ew : w' = gU w (200 + 10 * u + i) (ca (200 + 10 * u + i), .inl (tc 0, lenN d i, .inl (f_cp (lenN d i) f3 g)))) : cW tc w' ca (m_lrn d (nI u) (nI i) o) tk st := by
  have := hOk.1.2.1
  unfold m_lrn
  rw [lrn_7 (d := d) hu (by omega)]
  refine cW_7 (cW_ver hC hOk hu hi hkn (lrn_V hOk hu hi hs).1 (lrn_V (f3 := f3) hOk hu hi hs).2 ew) (fun k => ?_)
  show upd (d 7) (6 * u + i) 1 k = 0 ↔ d 7 k = 0
  by_cases h : k = 6 * u + i
  · subst h
    rw [upd_e]
    exact ⟨fun g => absurd g (by decide), fun g => absurd g hkn⟩
  · rw [upd_n h]
theorem mOk_lrn {d : gDt} {x y o : Int32} (hOk : mOk d) : mOk (m_lrn d x y o) := hOk
theorem cW_lrn_n {tc : Nat → ClassId} {w w' : gW} {ca : Nat → Nat} {d : gDt} {tk : Int64} {st : Nat → Int64} {u i q1 q2 : Nat} {o : Int32} {f3 g : Nat → Int32} {gv : Nat → Option Nat} (hC : cW tc w ca d tk st) (hOk : mOk d) (hu : u < nU d) (hi : i < nP d) (hkn : d 7 (6 * u + i) = 0) (hs : ∀ j, j < lenN d i → g j = m_tof d o i (j + 1))
    (hgv : ∀ i', i' < 6 → gv i' = (if d 7 (6 * u + i') = 0 then none else some (ca (100 + 10 * u + i')))) (ew : w' = gU (gU (gU w (200 + 10 * u + i) (q2, .inl (tc 0, lenN d i, .inl (f_cp (lenN d i) f3 g)))) (100 + 10 * u + i) (q1, .inr (1, [.ref q2]))) (50 + u) (ca (50 + u), .inl (tc 6, 6, .inr (.inr (.inr (.inr (va_up gv i (some q1)))))))) : ∃ ca' : Nat → Nat, ca' 0 = ca 0 ∧ cW tc w' ca' (m_lrn d (nI u) (nI i) o) tk st := by
  have b1 := hOk.1.2.1
  have b2 := hOk.1.2.2
  have n9 := hC.2.2.2.2.2.2.2.2 u i (by omega) (by omega) hkn
  obtain ⟨ca', a1, a2, ao⟩ := ca_ext2 ca (100 + 10 * u + i) (200 + 10 * u + i) q1 q2 (by omega)
  have hC' : cW tc w ca' d tk st := cW_ca hC hOk (fun k x hx => ao k (fun e => by rw [e, n9.1] at hx; cases hx) (fun e => by rw [e, n9.2] at hx; cases hx))
  have hw : ∀ k, k ≠ 200 + 10 * u + i → k ≠ 100 + 10 * u + i → k ≠ 50 + u → w' k = w k := fun k h1 h2 h3 => by rw [ew, gU_ne _ _ h3, gU_ne _ _ h2, gU_ne _ _ h1]
  have y1 : w' (100 + 10 * u + i) = some (q1, .inr (1, [.ref q2])) := by rw [ew, gU_ne _ _ (by omega), gU_same]
  have y2 : w' (200 + 10 * u + i) = some (q2, .inl (tc 0, lenN d i, .inl (f_cp (lenN d i) f3 g))) := by rw [ew, gU_ne _ _ (by omega), gU_ne _ _ (by omega), gU_same]
  have y3 := gU_s ew
  have k50 := ao (50 + u) (by omega) (by omega)
  unfold m_lrn
  rw [lrn_7 (d := d) (show u < 8 by omega) (show i < 6 by omega)]
  obtain ⟨V1, V2⟩ := lrn_V (f3 := f3) hOk (show u < 8 by omega) hi hs
  obtain ⟨⟨z0, z1, z2, z5, z6⟩, ⟨cy, ge, sf, z3, z4, hsf, hce, hcy⟩, zP, zS, zU, zV, zN1, zN2, zN3⟩ := hC'
  refine ⟨ca', ao 0 (by omega) (by omega), ⟨by rw [hw 0 (by omega) (by omega) (by omega)]; exact z0, by rw [hw 1 (by omega) (by omega) (by omega)]; exact z1, by rw [hw 2 (by omega) (by omega) (by omega)]; exact z2, by rw [hw 5 (by omega) (by omega) (by omega)]; exact z5, by rw [hw 6 (by omega) (by omega) (by omega)]; exact z6⟩, ⟨cy, ge, sf, by rw [hw 3 (by omega) (by omega) (by omega)]; exact z3, by rw [hw 4 (by omega) (by omega) (by omega)]; exact z4, hsf, hce, hcy⟩, ?_, ?_, ?_, ?_, ?_, ?_, ?_⟩
  · intro j hj
    have hj : j < nP d := hj
    exact cP_fr (zP j hj) (hw _ (by omega) (by omega) (by omega)) (hw _ (by omega) (by omega) (by omega)) (hw _ (by omega) (by omega) (by omega)) rfl rfl rfl
  · intro j hj
    exact cS_fr (zS j hj) (hw _ (by omega) (by omega) (by omega)) (hw _ (by omega) (by omega) (by omega)) rfl rfl
  · intro v hv
    have hv : v < nU d := hv
    obtain ⟨a, gg, e, b⟩ := zU v hv
    by_cases hvu : v = u
    · subst hvu
      refine ⟨by rw [hw _ (by omega) (by omega) (by omega)]; exact a, va_up gv i (some q1), by rw [k50]; exact y3, ?_⟩
      intro j hj
      show va_up gv i (some q1) j = (if upd (d 7) (6 * v + i) 1 (6 * v + j) = 0 then none else some (ca' (100 + 10 * v + j)))
      by_cases hji : j = i
      · subst hji
        rw [va_up_self, upd_e, if_neg (by decide), a1]
      · rw [va_up_ne _ _ hji, upd_n (by omega), hgv j hj, ao _ (by omega) (by omega)]
    · refine ⟨by rw [hw _ (by omega) (by omega) (by omega)]; exact a, gg, by rw [hw _ (by omega) (by omega) (by omega)]; exact e, ?_⟩
      intro j hj
      show gg j = (if upd (d 7) (6 * u + i) 1 (6 * v + j) = 0 then none else some (ca' (100 + 10 * v + j)))
      rw [upd_n (by omega)]
      exact b j hj
  · intro v j hv hj hk
    by_cases h : 6 * v + j = 6 * u + i
    · have hvu : v = u := by omega
      have hji : j = i := by omega
      subst hvu
      subst hji
      exact ⟨hu, hi, by rw [a1, a2]; exact y1, f_cp (lenN d j) f3 g, by rw [a2]; exact y2, V1⟩
    · have hk : ¬ upd (d 7) (6 * u + i) 1 (6 * v + j) = 0 := hk
      rw [upd_n h] at hk
      obtain ⟨c1, c2, a, f, e, g9⟩ := zV v j hv hj hk
      have := (mOk_len hOk c2).2.2.1
      exact ⟨c1, c2, by rw [hw _ (by omega) (by omega) (by omega)]; exact a, f, by rw [hw _ (by omega) (by omega) (by omega)]; exact e, fun q hq => (g9 q hq).trans (V2 _ q h (by have : q < lenN d j := hq; omega)).symm⟩
  · intro j h1 h9
    have h1 : nP d ≤ j := h1
    rw [hw _ (by omega) (by omega) (by omega), hw _ (by omega) (by omega) (by omega), hw _ (by omega) (by omega) (by omega)]
    exact zN1 j h1 h9
  · intro v h1 h9
    have h1 : nU d ≤ v := h1
    rw [hw _ (by omega) (by omega) (by omega), hw _ (by omega) (by omega) (by omega)]
    exact zN2 v h1 h9
  · intro v j hv hj h9
    have h9 : upd (d 7) (6 * u + i) 1 (6 * v + j) = 0 := h9
    by_cases h : 6 * v + j = 6 * u + i
    · rw [h, upd_e] at h9
      exact absurd h9 (by decide)
    · rw [upd_n h] at h9
      rw [hw _ (by omega) (by omega) (by omega), hw _ (by omega) (by omega) (by omega)]
      exact zN3 v j hv hj h9
theorem lr_ga {d : gDt} {x y o : Int32} (h : m_isPlayer d x = 0 ∨ (m_isPiece d y = 0 ∨ (¬ o = -1 ∧ m_isPlayer d o = 0))) : ga_learn d x y o = 0 := by
  unfold ga_learn
  by_cases hx : m_isPlayer d x = 0
  · rw [if_pos hx]
  · rw [if_neg hx]
    by_cases hy : m_isPiece d y = 0
    · rw [if_pos hy]
    · rw [if_neg hy]
      obtain ⟨h1, h2⟩ := (h.resolve_left hx).resolve_left hy
      rw [if_neg h1, if_pos h2]
theorem lr_gb {d : gDt} {x y o : Int32} (hx : ¬ m_isPlayer d x = 0) (hy : ¬ m_isPiece d y = 0) (ho : o = -1 ∨ ¬ m_isPlayer d o = 0) : ga_learn d x y o = 1 := by
  unfold ga_learn
  rw [if_neg hx, if_neg hy]
  by_cases h : o = -1
  · rw [if_pos h]
  · rw [if_neg h, if_neg (ho.resolve_left h)]
theorem lr_gc {d : gDt} {x y o : Int32} (h : ga_learn d x y o = 1) : gc_learn d x y o = (if m_kn d o y = 0 then 0 else 1) := by
  unfold gc_learn
  unfold ga_learn at h
  rw [h, if_neg one_nz]
abbrev rm_X5_learn : Room := { frames := 9, cells := 10, slots := 100, locals := 338 }
theorem nm_X5_learn : gNm yX5_learn 3 := ⟨by decide +kernel, by decide +kernel, by decide +kernel⟩
set_option maxHeartbeats 4000000 in
set_option maxRecDepth 100000 in
theorem c_X5_learn (l : Launch) (hfl : l.stackTraces = false) (D : va_G) (tc : Nat → ClassId) (A : Nat → Prop) (w : gW) (ca : Nat → Nat) (d : gDt) (tk : Int64) (st : Nat → Int64) (x : Int32) (y : Int32) (o : Int32) (hC : cW tc w ca d tk st) (hOk : mOk d) : gM l yX5_learn cX5_learn 6 (some .int) rm_X5_learn D tc A [.ref (ca 0), .int x, .int y, .int o] w (fun v w' => ¬ m_go (ga_learn d x y o) (gb_learn d x y o) (gc_learn d x y o) = 0 ∧ v = some (.int (nI (m_knc (upd (d 7) (6 * x + y).toNatClampNeg 1) y.toNatClampNeg (nU d)))) ∧ (∃ ca' : Nat → Nat, ca' 0 = ca 0 ∧ cW tc w' ca' (sL (m_lrn d x y o) 0) tk st) ∧ gK w w') (c_thr gIO gIA gIS (ga_learn d x y o) (gb_learn d x y o) (gc_learn d x y o)) := by
  refine gM_of (by decide +kernel) (Nat.le_of_ble_eq_true rfl) ?_
  intro p e s m args below meth c ls Q hQ hE hG hr hnt hnm hl
  have hx := hE.1
  have hb := hE.2.1
  have hl : lv_has ls 6 [(0, .ref (ca 0)), (1, .int x), (2, .int y), (3, .int o)] := hl
  obtain ⟨⟨z0, z1, z2, z5, z6⟩, ⟨cy, ge, sf, z3, z4, hsf, hce, hcy⟩, zP, zS, zU, zV, zN⟩ := id hC
  refine lv_aload_n hx hb dX5_learn_0 rfl (lv_at hl 0 rfl) ?_
  refine lv_iload_n hx hb dX5_learn_1 rfl (lv_at hl 1 rfl) ?_
  refine g_callV (rest := []) (As := [.int x]) hE hG hl.1 (c_X5_playerAt l hfl D tc A w ca d tk st x hC hOk) z0 rfl mw3_17 mw3_19 mws_8 mw1_1 mw3_20 rfl nm_X5_playerAt ⟨⟨Nat.le_of_ble_eq_true rfl, Nat.le_of_ble_eq_true rfl⟩, Nat.le_of_ble_eq_true rfl, Nat.le_of_ble_eq_true rfl⟩ rfl rfl (Nat.le_of_ble_eq_true rfl) dX5_learn_2 (by subst hQ; exact g_out hE hnt rfl (fun E h => Or.inl ⟨lr_ga (Or.inl h.1), h.2⟩) (Nat.le_of_ble_eq_true rfl) (Nat.le_of_ble_eq_true rfl)) ?_
  intro v9 w9 H locs h9 hG
  obtain ⟨e8, i_1, hi_1, hxi_1, e9⟩ := h9
  rw [e9]; clear e9
  rw [e8] at hG; clear e8
  show W p l e _ s m args below meth c H locs _ _ _ (F0 m 5 ls [.ref (ca (40 + i_1))])
  subst hxi_1
  have hu8x : i_1 < 8 := by have := hOk.1.2.2; omega
  obtain ⟨q1x, qgx, q3x, q4x⟩ := zU i_1 hi_1
  refine lv_astore (lv' := [(4, .ref (ca (40 + i_1))), (0, .ref (ca 0)), (1, .int (nI i_1)), (2, .int y), (3, .int o)]) hx hb dX5_learn_5 hl (by decide) rfl (fun ls hl => ?_)
  refine lv_aload_n hx hb dX5_learn_7 rfl (lv_at hl 1 rfl) ?_
  refine lv_iload_n hx hb dX5_learn_8 rfl (lv_at hl 4 rfl) ?_
  refine lv_iload_n hx hb dX5_learn_9 rfl (lv_at hl 3 rfl) ?_
  refine g_callV (rest := []) (As := [.int o, .int y]) hE hG hl.1 (c_X5_melodyOf l hfl D tc A w ca d tk st o y hC hOk) z0 rfl mw3_31 mw3_33 mws_9 mw1_1 mw3_34 rfl nm_X5_melodyOf ⟨⟨Nat.le_of_ble_eq_true rfl, Nat.le_of_ble_eq_true rfl⟩, Nat.le_of_ble_eq_true rfl, Nat.le_of_ble_eq_true rfl⟩ rfl rfl (Nat.le_of_ble_eq_true rfl) dX5_learn_10 (by subst hQ; exact g_out hE hnt rfl (fun E h => Or.inl ⟨lr_ga (Or.inr h.1), h.2⟩) (Nat.le_of_ble_eq_true rfl) (Nat.le_of_ble_eq_true rfl)) ?_
  intro v9 w9 H locs h9 hG
  obtain ⟨e8, i_2, hi_2, hxi_2, h9⟩ := h9
  rw [e8] at hG; clear e8
  subst hxi_2
  have b6p : i_2 < 6 := by have := hOk.1.2.1; omega
  have b8p := (mOk_len hOk hi_2).2.2.1
  obtain ⟨p1p, p2p, pfp, p3p, p4p⟩ := zP i_2 hi_2
  rcases h9 with ⟨ho9, e9⟩ | ⟨ho9, u9, hu9, hou9, e9⟩
  · skip
    rw [e9]; clear e9
    show W p l e _ s m args below meth c H locs _ _ _ (F0 m 13 ls [.ref (ca (20 + i_2))])
    have hsr : ∀ j, j < lenN d i_2 → pfp j = m_tof d o i_2 (j + 1) := fun j hj => (p4p j hj).trans (tof_h ho9).symm
    have hkn9 : ¬ m_kn d o (nI i_2) = 0 := by rw [kn_h ho9]; decide
    refine lv_astore (lv' := [(5, .ref (ca (20 + i_2))), (4, .ref (ca (40 + i_1))), (0, .ref (ca 0)), (1, .int (nI i_1)), (2, .int (nI i_2)), (3, .int o)]) hx hb dX5_learn_13 hl (by decide) rfl (fun ls hl => ?_)
    refine lv_iload_n hx hb dX5_learn_15 rfl (lv_at hl 5 rfl) ?_
    refine lv_iload_n hx hb dX5_learn_16 rfl (lv_at hl 3 rfl) ?_
    refine lv_icmp_ne (tgt := 30) hx hb dX5_learn_17 (by decide) (fun c_3 => ?_) (fun c_3 => ?_)
    · skip
      refine lv_aload hx hb dX5_learn_30 (lv_at hl 0 rfl) ?_
      refine lv_ifnonnull (tgt := 45) hx hb dX5_learn_32 (by decide) ?_
      refine lv_aload hx hb dX5_learn_45 (lv_at hl 1 rfl) ?_
      refine lv_iload_n hx hb dX5_learn_47 rfl (lv_at hl 4 rfl) ?_
      refine lv_aload hx hb dX5_learn_48 (lv_at hl 0 rfl) ?_
      by_cases hk7 : d 7 (6 * i_1 + i_2) = 0
      · skip
        obtain ⟨fr1, fr2⟩ := zN.2.2 i_1 i_2 hu8x b6p hk7
        refine g_callV (rest := []) (As := [.int (nI i_2), .ref (ca (20 + i_2))]) hE hG hl.1 (c_X3_takeVersion_n l hfl D tc A w (40 + i_1) (50 + i_1) (ca (40 + i_1)) (ca (50 + i_1)) (d 6 i_1) qgx i_2 (20 + i_2) (30 + i_2) (ca (20 + i_2)) (ca (30 + i_2)) (lenN d i_2) pfp (100 + 10 * i_1 + i_2) (200 + 10 * i_1 + i_2) q1x q3x p2p p3p b6p ((q4x _ b6p).trans (if_pos hk7)) (by omega) fr1 fr2 (by omega)) q1x rfl mw3_37 mw3_38 mw3_39 mw1_13 mw3_40 rfl nm_X3_takeVersion ⟨⟨Nat.le_of_ble_eq_true rfl, Nat.le_of_ble_eq_true rfl⟩, Nat.le_of_ble_eq_true rfl, Nat.le_of_ble_eq_true rfl⟩ rfl rfl (Nat.le_of_ble_eq_true rfl) dX5_learn_50 (g_no) ?_
        intro v9 w7 H locs h9 hG
        obtain ⟨e9, q7, q8, ew7⟩ := h9
        have hK7 : gK w w7 := fun k hk => by rw [ew7, gU_ne _ _ (by omega), gU_ne _ _ (by omega), gU_ne _ _ (by omega)]
        obtain ⟨ca2, hca0, hC2⟩ := cW_lrn_n hC hOk hi_1 hi_2 hk7 hsr q4x ew7
        rw [e9]; clear e9
        have g0 : w7 0 = _ := hC2.1.1
        rw [hca0] at g0
        show W p l e _ s m args below meth c H locs _ _ _ (F0 m 53 ls [])
        refine lv_aload_n hx hb dX5_learn_53 rfl (lv_at hl 2 rfl) ?_
        refine lv_iload_n hx hb dX5_learn_54 rfl (lv_at hl 4 rfl) ?_
        refine g_callV (rest := []) (As := [.int (nI i_2)]) hE hG hl.1 (by have h9 := c_X5_knowersOf l hfl D tc A w7 ca2 (m_lrn d (nI i_1) (nI i_2) o) tk st i_2 hC2 (mOk_lrn hOk) hi_2; rw [hca0] at h9; exact h9) g0 rfl mw3_49 mw3_51 mws_10 mw1_1 mw3_52 rfl nm_X5_knowersOf ⟨⟨Nat.le_of_ble_eq_true rfl, Nat.le_of_ble_eq_true rfl⟩, Nat.le_of_ble_eq_true rfl, Nat.le_of_ble_eq_true rfl⟩ rfl rfl (Nat.le_of_ble_eq_true rfl) dX5_learn_55 (g_no) ?_
        intro v9 w9 H locs h9 hG
        obtain ⟨e8, e9⟩ := h9
        rw [e9]; clear e9
        rw [e8] at hG; clear e8
        show W p l e _ s m args below meth c H locs _ _ _ (F0 m 58 ls [.int (nI (m_knc ((m_lrn d (nI i_1) (nI i_2) o) 7) i_2 (nU (m_lrn d (nI i_1) (nI i_2) o))))])
        subst hQ
        exact g_iret hE hG hr (Nat.le_of_ble_eq_true rfl) (Nat.le_of_ble_eq_true rfl) dX5_learn_58 ⟨m_go_i (by rw [lr_gb (isPlayer_s hOk hi_1) (isPiece_s hOk hi_2) (Or.inl ho9)]; decide) (by unfold gb_learn; rw [if_neg c_3]; decide) (by rw [lr_gc (lr_gb (isPlayer_s hOk hi_1) (isPiece_s hOk hi_2) (Or.inl ho9)), if_neg hkn9]; decide), congrArg (fun a => some (Value.int a)) (by rw [nI_clamp (by omega)]; rfl), ⟨ca2, hca0, cW_l hC2 0⟩, hK7⟩
      · skip
        obtain ⟨-, -, t1, tg, t3, t4⟩ := zV i_1 i_2 hu8x b6p hk7
        refine g_callV (rest := []) (As := [.int (nI i_2), .ref (ca (20 + i_2))]) hE hG hl.1 (c_X3_takeVersion_o l hfl D tc A w (40 + i_1) (50 + i_1) (ca (40 + i_1)) (ca (50 + i_1)) (d 6 i_1) qgx i_2 (20 + i_2) (30 + i_2) (ca (20 + i_2)) (ca (30 + i_2)) (lenN d i_2) pfp (100 + 10 * i_1 + i_2) (200 + 10 * i_1 + i_2) (ca (100 + 10 * i_1 + i_2)) (ca (200 + 10 * i_1 + i_2)) tg q1x q3x p2p p3p t1 t3 b6p ((q4x _ b6p).trans (if_neg hk7)) (by omega) (by omega)) q1x rfl mw3_37 mw3_38 mw3_39 mw1_13 mw3_40 rfl nm_X3_takeVersion ⟨⟨Nat.le_of_ble_eq_true rfl, Nat.le_of_ble_eq_true rfl⟩, Nat.le_of_ble_eq_true rfl, Nat.le_of_ble_eq_true rfl⟩ rfl rfl (Nat.le_of_ble_eq_true rfl) dX5_learn_50 (g_no) ?_
        intro v9 w7 H locs h9 hG
        obtain ⟨e9, ew7⟩ := h9
        have hK7 : gK w w7 := fun k hk => by rw [ew7, gU_ne _ _ (by omega)]
        obtain ⟨ca2, hca0, hC2⟩ : ∃ ca' : Nat → Nat, ca' 0 = ca 0 ∧ cW tc w7 ca' (m_lrn d (nI i_1) (nI i_2) o) tk st := ⟨ca, rfl, cW_lrn_o hC hOk hu8x hi_2 hk7 hsr ew7⟩
        rw [e9]; clear e9
        have g0 : w7 0 = _ := hC2.1.1
        rw [hca0] at g0
        show W p l e _ s m args below meth c H locs _ _ _ (F0 m 53 ls [])
        refine lv_aload_n hx hb dX5_learn_53 rfl (lv_at hl 2 rfl) ?_
        refine lv_iload_n hx hb dX5_learn_54 rfl (lv_at hl 4 rfl) ?_
        refine g_callV (rest := []) (As := [.int (nI i_2)]) hE hG hl.1 (by have h9 := c_X5_knowersOf l hfl D tc A w7 ca2 (m_lrn d (nI i_1) (nI i_2) o) tk st i_2 hC2 (mOk_lrn hOk) hi_2; rw [hca0] at h9; exact h9) g0 rfl mw3_49 mw3_51 mws_10 mw1_1 mw3_52 rfl nm_X5_knowersOf ⟨⟨Nat.le_of_ble_eq_true rfl, Nat.le_of_ble_eq_true rfl⟩, Nat.le_of_ble_eq_true rfl, Nat.le_of_ble_eq_true rfl⟩ rfl rfl (Nat.le_of_ble_eq_true rfl) dX5_learn_55 (g_no) ?_
        intro v9 w9 H locs h9 hG
        obtain ⟨e8, e9⟩ := h9
        rw [e9]; clear e9
        rw [e8] at hG; clear e8
        show W p l e _ s m args below meth c H locs _ _ _ (F0 m 58 ls [.int (nI (m_knc ((m_lrn d (nI i_1) (nI i_2) o) 7) i_2 (nU (m_lrn d (nI i_1) (nI i_2) o))))])
        subst hQ
        exact g_iret hE hG hr (Nat.le_of_ble_eq_true rfl) (Nat.le_of_ble_eq_true rfl) dX5_learn_58 ⟨m_go_i (by rw [lr_gb (isPlayer_s hOk hi_1) (isPiece_s hOk hi_2) (Or.inl ho9)]; decide) (by unfold gb_learn; rw [if_neg c_3]; decide) (by rw [lr_gc (lr_gb (isPlayer_s hOk hi_1) (isPiece_s hOk hi_2) (Or.inl ho9)), if_neg hkn9]; decide), congrArg (fun a => some (Value.int a)) (by rw [nI_clamp (by omega)]; rfl), ⟨ca2, hca0, cW_l hC2 0⟩, hK7⟩
    · skip
      subst hQ
      exact g_thr (E := gIA) hfl hE hG hl.1 hnt gTgIA (List.mem_of_getElem? (i := 18) rfl) dX5_learn_20 dX5_learn_23 dX5_learn_24 dX5_learn_26 dX5_learn_29 (by refine ⟨?_, ?_, ?_, ?_, ?_, ?_⟩ <;> exact Nat.le_of_ble_eq_true rfl) rfl (Or.inr (Or.inl ⟨(by rw [lr_gb (isPlayer_s hOk hi_1) (isPiece_s hOk hi_2) (Or.inl ho9)]; decide), by unfold gb_learn; rw [if_pos c_3], rfl⟩))
  · skip
    have hu89 : u9 < 8 := by have := hOk.1.2.2; omega
    by_cases hk9 : d 7 (6 * u9 + i_2) = 0
    · skip
      rw [e9, if_pos hk9]; clear e9
      show W p l e _ s m args below meth c H locs _ _ _ (F0 m 13 ls [.null])
      have hkn9 : m_kn d o (nI i_2) = 0 := by rw [hou9, kn_u hu89 b6p, if_pos hk9]
      refine lv_astoreN (lv' := [(5, .null), (4, .ref (ca (40 + i_1))), (0, .ref (ca 0)), (1, .int (nI i_1)), (2, .int (nI i_2)), (3, .int o)]) hx hb dX5_learn_13 hl (by decide) rfl (fun ls hl => ?_)
      refine lv_iload_n hx hb dX5_learn_15 rfl (lv_at hl 5 rfl) ?_
      refine lv_iload_n hx hb dX5_learn_16 rfl (lv_at hl 3 rfl) ?_
      refine lv_icmp_ne (tgt := 30) hx hb dX5_learn_17 (by decide) (fun c_4 => ?_) (fun c_4 => ?_)
      · skip
        refine lv_aloadN hx hb dX5_learn_30 (lv_at hl 0 rfl) ?_
        refine lv_ifnonnullN hx hb dX5_learn_32 ?_
        subst hQ
        exact g_thr (E := gIS) hfl hE hG hl.1 hnt gTgIS (List.mem_of_getElem? (i := 19) rfl) dX5_learn_35 dX5_learn_38 dX5_learn_39 dX5_learn_41 dX5_learn_44 (by refine ⟨?_, ?_, ?_, ?_, ?_, ?_⟩ <;> exact Nat.le_of_ble_eq_true rfl) rfl (Or.inr (Or.inr ⟨(by rw [lr_gb (isPlayer_s hOk hi_1) (isPiece_s hOk hi_2) (Or.inr (by rw [hou9]; exact isPlayer_s hOk hu9))]; decide), by unfold gb_learn; rw [if_neg c_4]; decide, (lr_gc (lr_gb (isPlayer_s hOk hi_1) (isPiece_s hOk hi_2) (Or.inr (by rw [hou9]; exact isPlayer_s hOk hu9)))).trans (if_pos hkn9), rfl⟩))
      · skip
        subst hQ
        exact g_thr (E := gIA) hfl hE hG hl.1 hnt gTgIA (List.mem_of_getElem? (i := 18) rfl) dX5_learn_20 dX5_learn_23 dX5_learn_24 dX5_learn_26 dX5_learn_29 (by refine ⟨?_, ?_, ?_, ?_, ?_, ?_⟩ <;> exact Nat.le_of_ble_eq_true rfl) rfl (Or.inr (Or.inl ⟨(by rw [lr_gb (isPlayer_s hOk hi_1) (isPiece_s hOk hi_2) (Or.inr (by rw [hou9]; exact isPlayer_s hOk hu9))]; decide), by unfold gb_learn; rw [if_pos c_4], rfl⟩))
    · skip
      rw [e9, if_neg hk9]; clear e9
      show W p l e _ s m args below meth c H locs _ _ _ (F0 m 13 ls [.ref (ca (100 + 10 * u9 + i_2))])
      have hkn9 : ¬ m_kn d o (nI i_2) = 0 := by rw [hou9, kn_u hu89 b6p, if_neg hk9]; decide
      obtain ⟨-, -, s1, sg, s3, s4⟩ := zV u9 i_2 hu89 b6p hk9
      have hsr : ∀ j, j < lenN d i_2 → sg j = m_tof d o i_2 (j + 1) := fun j hj => (s4 j hj).trans (by rw [hou9]; exact (tof_u hu89).symm)
      refine lv_astore (lv' := [(5, .ref (ca (100 + 10 * u9 + i_2))), (4, .ref (ca (40 + i_1))), (0, .ref (ca 0)), (1, .int (nI i_1)), (2, .int (nI i_2)), (3, .int o)]) hx hb dX5_learn_13 hl (by decide) rfl (fun ls hl => ?_)
      refine lv_iload_n hx hb dX5_learn_15 rfl (lv_at hl 5 rfl) ?_
      refine lv_iload_n hx hb dX5_learn_16 rfl (lv_at hl 3 rfl) ?_
      refine lv_icmp_ne (tgt := 30) hx hb dX5_learn_17 (by decide) (fun c_5 => ?_) (fun c_5 => ?_)
      · skip
        refine lv_aload hx hb dX5_learn_30 (lv_at hl 0 rfl) ?_
        refine lv_ifnonnull (tgt := 45) hx hb dX5_learn_32 (by decide) ?_
        refine lv_aload hx hb dX5_learn_45 (lv_at hl 1 rfl) ?_
        refine lv_iload_n hx hb dX5_learn_47 rfl (lv_at hl 4 rfl) ?_
        refine lv_aload hx hb dX5_learn_48 (lv_at hl 0 rfl) ?_
        have huu : u9 ≠ i_1 := fun h => c_5 (by rw [hou9, h])
        by_cases hk7 : d 7 (6 * i_1 + i_2) = 0
        · skip
          obtain ⟨fr1, fr2⟩ := zN.2.2 i_1 i_2 hu8x b6p hk7
          refine g_callV (rest := []) (As := [.int (nI i_2), .ref (ca (100 + 10 * u9 + i_2))]) hE hG hl.1 (c_X3_takeVersion_n l hfl D tc A w (40 + i_1) (50 + i_1) (ca (40 + i_1)) (ca (50 + i_1)) (d 6 i_1) qgx i_2 (100 + 10 * u9 + i_2) (200 + 10 * u9 + i_2) (ca (100 + 10 * u9 + i_2)) (ca (200 + 10 * u9 + i_2)) (lenN d i_2) sg (100 + 10 * i_1 + i_2) (200 + 10 * i_1 + i_2) q1x q3x s1 s3 b6p ((q4x _ b6p).trans (if_pos hk7)) (by omega) fr1 fr2 (by omega)) q1x rfl mw3_37 mw3_38 mw3_39 mw1_13 mw3_40 rfl nm_X3_takeVersion ⟨⟨Nat.le_of_ble_eq_true rfl, Nat.le_of_ble_eq_true rfl⟩, Nat.le_of_ble_eq_true rfl, Nat.le_of_ble_eq_true rfl⟩ rfl rfl (Nat.le_of_ble_eq_true rfl) dX5_learn_50 (g_no) ?_
          intro v9 w7 H locs h9 hG
          obtain ⟨e9, q7, q8, ew7⟩ := h9
          have hK7 : gK w w7 := fun k hk => by rw [ew7, gU_ne _ _ (by omega), gU_ne _ _ (by omega), gU_ne _ _ (by omega)]
          obtain ⟨ca2, hca0, hC2⟩ := cW_lrn_n hC hOk hi_1 hi_2 hk7 hsr q4x ew7
          rw [e9]; clear e9
          have g0 : w7 0 = _ := hC2.1.1
          rw [hca0] at g0
          show W p l e _ s m args below meth c H locs _ _ _ (F0 m 53 ls [])
          refine lv_aload_n hx hb dX5_learn_53 rfl (lv_at hl 2 rfl) ?_
          refine lv_iload_n hx hb dX5_learn_54 rfl (lv_at hl 4 rfl) ?_
          refine g_callV (rest := []) (As := [.int (nI i_2)]) hE hG hl.1 (by have h9 := c_X5_knowersOf l hfl D tc A w7 ca2 (m_lrn d (nI i_1) (nI i_2) o) tk st i_2 hC2 (mOk_lrn hOk) hi_2; rw [hca0] at h9; exact h9) g0 rfl mw3_49 mw3_51 mws_10 mw1_1 mw3_52 rfl nm_X5_knowersOf ⟨⟨Nat.le_of_ble_eq_true rfl, Nat.le_of_ble_eq_true rfl⟩, Nat.le_of_ble_eq_true rfl, Nat.le_of_ble_eq_true rfl⟩ rfl rfl (Nat.le_of_ble_eq_true rfl) dX5_learn_55 (g_no) ?_
          intro v9 w9 H locs h9 hG
          obtain ⟨e8, e9⟩ := h9
          rw [e9]; clear e9
          rw [e8] at hG; clear e8
          show W p l e _ s m args below meth c H locs _ _ _ (F0 m 58 ls [.int (nI (m_knc ((m_lrn d (nI i_1) (nI i_2) o) 7) i_2 (nU (m_lrn d (nI i_1) (nI i_2) o))))])
          subst hQ
          exact g_iret hE hG hr (Nat.le_of_ble_eq_true rfl) (Nat.le_of_ble_eq_true rfl) dX5_learn_58 ⟨m_go_i (by rw [lr_gb (isPlayer_s hOk hi_1) (isPiece_s hOk hi_2) (Or.inr (by rw [hou9]; exact isPlayer_s hOk hu9))]; decide) (by unfold gb_learn; rw [if_neg c_5]; decide) (by rw [lr_gc (lr_gb (isPlayer_s hOk hi_1) (isPiece_s hOk hi_2) (Or.inr (by rw [hou9]; exact isPlayer_s hOk hu9))), if_neg hkn9]; decide), congrArg (fun a => some (Value.int a)) (by rw [nI_clamp (by omega)]; rfl), ⟨ca2, hca0, cW_l hC2 0⟩, hK7⟩
        · skip
          obtain ⟨-, -, t1, tg, t3, t4⟩ := zV i_1 i_2 hu8x b6p hk7
          refine g_callV (rest := []) (As := [.int (nI i_2), .ref (ca (100 + 10 * u9 + i_2))]) hE hG hl.1 (c_X3_takeVersion_o l hfl D tc A w (40 + i_1) (50 + i_1) (ca (40 + i_1)) (ca (50 + i_1)) (d 6 i_1) qgx i_2 (100 + 10 * u9 + i_2) (200 + 10 * u9 + i_2) (ca (100 + 10 * u9 + i_2)) (ca (200 + 10 * u9 + i_2)) (lenN d i_2) sg (100 + 10 * i_1 + i_2) (200 + 10 * i_1 + i_2) (ca (100 + 10 * i_1 + i_2)) (ca (200 + 10 * i_1 + i_2)) tg q1x q3x s1 s3 t1 t3 b6p ((q4x _ b6p).trans (if_neg hk7)) (by omega) (by omega)) q1x rfl mw3_37 mw3_38 mw3_39 mw1_13 mw3_40 rfl nm_X3_takeVersion ⟨⟨Nat.le_of_ble_eq_true rfl, Nat.le_of_ble_eq_true rfl⟩, Nat.le_of_ble_eq_true rfl, Nat.le_of_ble_eq_true rfl⟩ rfl rfl (Nat.le_of_ble_eq_true rfl) dX5_learn_50 (g_no) ?_
          intro v9 w7 H locs h9 hG
          obtain ⟨e9, ew7⟩ := h9
          have hK7 : gK w w7 := fun k hk => by rw [ew7, gU_ne _ _ (by omega)]
          obtain ⟨ca2, hca0, hC2⟩ : ∃ ca' : Nat → Nat, ca' 0 = ca 0 ∧ cW tc w7 ca' (m_lrn d (nI i_1) (nI i_2) o) tk st := ⟨ca, rfl, cW_lrn_o hC hOk hu8x hi_2 hk7 hsr ew7⟩
          rw [e9]; clear e9
          have g0 : w7 0 = _ := hC2.1.1
          rw [hca0] at g0
          show W p l e _ s m args below meth c H locs _ _ _ (F0 m 53 ls [])
          refine lv_aload_n hx hb dX5_learn_53 rfl (lv_at hl 2 rfl) ?_
          refine lv_iload_n hx hb dX5_learn_54 rfl (lv_at hl 4 rfl) ?_
          refine g_callV (rest := []) (As := [.int (nI i_2)]) hE hG hl.1 (by have h9 := c_X5_knowersOf l hfl D tc A w7 ca2 (m_lrn d (nI i_1) (nI i_2) o) tk st i_2 hC2 (mOk_lrn hOk) hi_2; rw [hca0] at h9; exact h9) g0 rfl mw3_49 mw3_51 mws_10 mw1_1 mw3_52 rfl nm_X5_knowersOf ⟨⟨Nat.le_of_ble_eq_true rfl, Nat.le_of_ble_eq_true rfl⟩, Nat.le_of_ble_eq_true rfl, Nat.le_of_ble_eq_true rfl⟩ rfl rfl (Nat.le_of_ble_eq_true rfl) dX5_learn_55 (g_no) ?_
          intro v9 w9 H locs h9 hG
          obtain ⟨e8, e9⟩ := h9
          rw [e9]; clear e9
          rw [e8] at hG; clear e8
          show W p l e _ s m args below meth c H locs _ _ _ (F0 m 58 ls [.int (nI (m_knc ((m_lrn d (nI i_1) (nI i_2) o) 7) i_2 (nU (m_lrn d (nI i_1) (nI i_2) o))))])
          subst hQ
          exact g_iret hE hG hr (Nat.le_of_ble_eq_true rfl) (Nat.le_of_ble_eq_true rfl) dX5_learn_58 ⟨m_go_i (by rw [lr_gb (isPlayer_s hOk hi_1) (isPiece_s hOk hi_2) (Or.inr (by rw [hou9]; exact isPlayer_s hOk hu9))]; decide) (by unfold gb_learn; rw [if_neg c_5]; decide) (by rw [lr_gc (lr_gb (isPlayer_s hOk hi_1) (isPiece_s hOk hi_2) (Or.inr (by rw [hou9]; exact isPlayer_s hOk hu9))), if_neg hkn9]; decide), congrArg (fun a => some (Value.int a)) (by rw [nI_clamp (by omega)]; rfl), ⟨ca2, hca0, cW_l hC2 0⟩, hK7⟩
      · skip
        subst hQ
        exact g_thr (E := gIA) hfl hE hG hl.1 hnt gTgIA (List.mem_of_getElem? (i := 18) rfl) dX5_learn_20 dX5_learn_23 dX5_learn_24 dX5_learn_26 dX5_learn_29 (by refine ⟨?_, ?_, ?_, ?_, ?_, ?_⟩ <;> exact Nat.le_of_ble_eq_true rfl) rfl (Or.inr (Or.inl ⟨(by rw [lr_gb (isPlayer_s hOk hi_1) (isPiece_s hOk hi_2) (Or.inr (by rw [hou9]; exact isPlayer_s hOk hu9))]; decide), by unfold gb_learn; rw [if_pos c_5], rfl⟩))
