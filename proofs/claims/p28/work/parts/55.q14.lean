/-! holds, isHeld -/
abbrev rm_L_holds : Room := { frames := 12, cells := 30000, slots := 200000, locals := 460 }
theorem nm_L_holds : gNm yL_holds 1 := ⟨by decide +kernel, by decide +kernel, by decide +kernel⟩
theorem nm_L_isHeld : gNm yL_isHeld 1 := ⟨by decide +kernel, by decide +kernel, by decide +kernel⟩
set_option maxHeartbeats 4000000 in
set_option maxRecDepth 100000 in
theorem c_L_holds (l : Launch) (hfl : l.stackTraces = false) (D : va_G) (tc : Nat → ClassId) (A : Nat → Prop) (b L : Nat) (xs : Nat → Int32) (hL : L ≤ 260) : gMs l yL_holds cL_holds 9 (some .boolean) rm_L_holds D tc A b L xs [.ref b] (fun _ => none) (fun v w' => v = some (.int 1)) := by
  refine gMs_of (by decide +kernel) (Nat.le_of_ble_eq_true rfl) ?_
  intro p e s m args below meth c ls Q hQ hE hX hbl hbA hG hr hnt hl
  have hx := hE.1
  have hb := hE.2.1
  have hl : lv_has ls 9 [(0, .ref b)] := hl
  refine g_new (ci := 5) (fs := [.null, .int 0, .null, .int 0, .null, .int 0, .int 0, .null, .int 0, .null, .int 0]) hE hG rfl inG5 tyX5 tyX5_ok mw1_24 mw1_25 mw1_1 (by intro j hj; match j, hj with | 0, _ => rfl | 1, _ => rfl | 2, _ => rfl | 3, _ => rfl | 4, _ => rfl | 5, _ => rfl | 6, _ => rfl | 7, _ => rfl | 8, _ => rfl | 9, _ => rfl | 10, _ => rfl) (Nat.le_of_ble_eq_true rfl) (Nat.le_of_ble_eq_true rfl) 0 rfl dL_holds_0 (fun oa H w1 ew1 hG => ?_)
  have z1 : w1 0 = some (oa, .inr (5, [.null, .int 0, .null, .int 0, .null, .int 0, .int 0, .null, .int 0, .null, .int 0])) := gU_s ew1
  have f1 : ∀ k, 1 ≤ k → w1 k = none := fun k hk => by rw [ew1, gU_ne _ _ (by omega)]
  refine lv_dup hx hb dL_holds_3 rfl ?_
  refine g_callI (rest := [.ref oa]) (As := []) hE hG hl.1 (c_X5_init l hfl D tc A w1 oa z1 (fun k h1 _ => f1 k h1)) mw1_26 mw1_27 mw1_1 mw1_28 rfl nm_X5_init ⟨⟨Nat.le_of_ble_eq_true rfl, Nat.le_of_ble_eq_true rfl⟩, Nat.le_of_ble_eq_true rfl, Nat.le_of_ble_eq_true rfl⟩ rfl rfl (Nat.le_of_ble_eq_true rfl) dL_holds_4 ?_
  intro v9 w2 H locs h9 hG
  obtain ⟨e9, ca, hca, hC0, hK9⟩ := h9
  rw [e9]; clear e9
  have hC : cO tc w2 oa d_0 0 (fun _ => 0) := ⟨ca, hca, hC0⟩
  show W p l e _ s m args below meth c H locs _ _ _ (F0 m 7 ls [.ref oa])
  have f2 : ∀ k, 1000 ≤ k → w2 k = none := fun k hk => (hK9 k hk).trans (f1 k (by omega))
  refine lv_astore_n (lv' := [(1, .ref oa), (0, .ref b)]) hx hb dL_holds_7 rfl hl (by decide) rfl (fun ls hl => ?_)
  refine lv_bipush (v := 15) hx hb dL_holds_8 (by decide) ?_
  refine g_newi (atype := .long) (t0 := 1) (ty := .long) (a0 := (15, .inr (.inl (fun _ => 0)))) (N' := 15) hE hG mw1_82 rfl rfl (fun _ _ h => h) (fun _ => by first | rfl | simp [vp_cell_i, vp_cell_l, defaultValue]) (by decide) (by decide) (by decide) (Nat.le_of_ble_eq_true rfl) (Nat.le_of_ble_eq_true rfl) 1000 (f2 1000 (by decide)) dL_holds_10 (fun ac H w3 ew3 hG => ?_)
  refine lv_astore_n (lv' := [(2, .ref ac), (1, .ref oa), (0, .ref b)]) hx hb dL_holds_12 rfl hl (by decide) rfl (fun ls hl => ?_)
  refine lv_bipush (v := 19) hx hb dL_holds_13 (by decide) ?_
  refine g_newi (atype := .int) (t0 := 0) (ty := .int) (a0 := (19, .inl (fun _ => 0))) (N' := 19) hE hG mw1_81 rfl rfl (fun _ _ h => h) (fun _ => by first | rfl | simp [vp_cell_i, vp_cell_l, defaultValue]) (by decide) (by decide) (by decide) (Nat.le_of_ble_eq_true rfl) (Nat.le_of_ble_eq_true rfl) 1001 (by rw [ew3, gU_ne _ _ (by decide)]; exact f2 1001 (by decide)) dL_holds_15 (fun am H w4 ew4 hG => ?_)
  refine lv_astore_n (lv' := [(3, .ref am), (2, .ref ac), (1, .ref oa), (0, .ref b)]) hx hb dL_holds_17 rfl hl (by decide) rfl (fun ls hl => ?_)
  refine lv_bipush (v := 32) hx hb dL_holds_18 (by decide) ?_
  refine g_newi (atype := .int) (t0 := 0) (ty := .int) (a0 := (32, .inl (fun _ => 0))) (N' := 32) hE hG mw1_81 rfl rfl (fun _ _ h => h) (fun _ => by first | rfl | simp [vp_cell_i, vp_cell_l, defaultValue]) (by decide) (by decide) (by decide) (Nat.le_of_ble_eq_true rfl) (Nat.le_of_ble_eq_true rfl) 1002 (by rw [ew4, gU_ne _ _ (by decide), ew3, gU_ne _ _ (by decide)]; exact f2 1002 (by decide)) dL_holds_20 (fun ap H w5 ew5 hG => ?_)
  refine lv_astore (lv' := [(4, .ref ap), (3, .ref am), (2, .ref ac), (1, .ref oa), (0, .ref b)]) hx hb dL_holds_22 hl (by decide) rfl (fun ls hl => ?_)
  have h1 : w5 1000 = some (ac, .inl (tc 1, 15, .inr (.inl (fun _ => 0)))) := by rw [ew5, gU_ne _ _ (by decide), ew4, gU_ne _ _ (by decide), ew3]; exact gU_same _ _ _
  have h2 : w5 1001 = some (am, .inl (tc 0, 19, .inl (fun _ => 0))) := by rw [ew5, gU_ne _ _ (by decide), ew4]; exact gU_same _ _ _
  have h3 : w5 1002 = some (ap, .inl (tc 0, 32, .inl (fun _ => 0))) := gU_s ew5
  have hC := cO_g hC I_0.1 (w' := w5) (fun k hk => by rw [ew5, gU_ne _ _ (by omega), ew4, gU_ne _ _ (by omega), ew3, gU_ne _ _ (by omega)])
  refine lv_aload_n hx hb dL_holds_24 rfl (lv_at hl 3 rfl) ?_
  refine lv_aload_n hx hb dL_holds_25 rfl (lv_at hl 4 rfl) ?_
  refine lv_aload_n hx hb dL_holds_26 rfl (lv_at hl 2 rfl) ?_
  refine lv_aload_n hx hb dL_holds_27 rfl (lv_at hl 1 rfl) ?_
  refine lv_aload hx hb dL_holds_28 (lv_at hl 0 rfl) ?_
  refine g_callSs hX hbl hbA (rest := []) (As := [.ref oa, .ref b, .ref ac, .ref am, .ref ap]) hE hG hl.1 (c_L_isBegun l hfl D tc A w5 b L xs oa ac am ap hL hC h1 h2 h3) mw1_135 mw1_136 mw1_0 mw1_137 nm_L_isBegun ⟨⟨Nat.le_of_ble_eq_true rfl, Nat.le_of_ble_eq_true rfl⟩, (by show (((((0 + 1) + 20) + 1) + 1) + 1) + 3000 ≤ 30000; omega), (by show (((((0 + 11) + 200) + 15) + 19) + 32) + 30000 ≤ 200000; omega)⟩ rfl rfl (Nat.le_of_ble_eq_true rfl) dL_holds_30 ?_
  intro v9 w6 H locs h9 hG
  obtain ⟨e9, hH⟩ := h9
  rw [e9]; clear e9
  show W p l e _ s m args below meth c H locs _ _ _ (F0 m 33 ls [.int 1])
  refine lv_istore (lv' := [(5, .int 1), (4, .ref ap), (3, .ref am), (2, .ref ac), (1, .ref oa), (0, .ref b)]) hx hb dL_holds_33 hl (by decide) rfl (fun ls hl => ?_)
  refine lv_iconst (v := 0) hx hb dL_holds_35 (by decide) ?_
  refine lv_istore (lv' := [(6, .int 0), (5, .int 1), (4, .ref ap), (3, .ref am), (2, .ref ac), (1, .ref oa), (0, .ref b)]) hx hb dL_holds_36 hl (by decide) rfl (fun ls hl => ?_)
  refine W.widen (k := 4000 + 300 * 0) (n := 40000 + 2000 * 0) (by show ((((((0 + 1) + 20) + 1) + 1) + 1) + 3000) ≤ _; omega) (by show ((((((0 + 11) + 200) + 15) + 19) + 32) + 30000) ≤ _; omega) ?_
  have hrd : ∀ (kv n : Nat) (w2 : gW) (H : Heap) (locs : List Loc) (ls : Array Slot), n + kv = 60 → hO tc oa ac am ap (6000 + 600 * n) w2 → gS D A s.heap w2 H locs → lv_has ls 9 [(6, .int (nI n)), (5, .int 1), (4, .ref ap), (3, .ref am), (2, .ref ac), (1, .ref oa), (0, .ref b)] → W p l e rm_L_holds s m args below meth c H locs (4000 + 300 * n) (40000 + 2000 * n) Q (F0 m 38 ls []) := by
    intro kv
    induction kv with
    | zero =>
      intro n w2 H locs ls hn hH hG hl
      refine lv_iload hx hb dL_holds_38 (lv_at hl 0 rfl) ?_
      refine lv_bipush (v := 60) hx hb dL_holds_40 (by decide) ?_
      refine lv_icmp_ge (tgt := 240) hx hb dL_holds_42 (by decide) (fun c9 => ?_) (fun c9 => (c9 ((nI_leI (a := 60) (b := n) (by omega) (by omega)).mpr (by omega))).elim)
      refine lv_iload hx hb dL_holds_240 (lv_at hl 1 rfl) ?_
      subst hQ
      exact g_zret hE hG hr (by decide) (by show (4000 + 300 * n) ≤ 30000; omega) (by show (40000 + 2000 * n) ≤ 200000; omega) dL_holds_242 rfl
    | succ kv ih =>
      intro n w2 H locs ls hn hH hG hl
      refine lv_iload hx hb dL_holds_38 (lv_at hl 0 rfl) ?_
      refine lv_bipush (v := 60) hx hb dL_holds_40 (by decide) ?_
      refine lv_icmp_ge (tgt := 240) hx hb dL_holds_42 (by decide) (fun c9 => absurd c9 (fun h9 => absurd ((nI_leI (a := 60) (b := n) (by omega) (by omega)).mp h9) (by omega))) (fun c9 => ?_)
      refine lv_iload hx hb dL_holds_45 (lv_at hl 1 rfl) ?_
      refine lv_if_eq (tgt := 240) hx hb dL_holds_47 (by decide) (fun c9 => absurd c9 (by decide)) (fun _ => ?_)
      refine lv_aload_n hx hb dL_holds_50 rfl (lv_at hl 6 rfl) ?_
      refine lv_iconst (v := 2) hx hb dL_holds_51 (by decide) ?_
      refine lv_iload hx hb dL_holds_52 (lv_at hl 0 rfl) ?_
      refine lv_imul hx hb dL_holds_54 ?_
      refine lv_topi (fun k_1 ek_1 => ?_)
      obtain rfl : k_1 = nI (2 * n) := ek_1.trans (pk_mul 2 n)
      refine lv_bipush (v := 32) hx hb dL_holds_55 (by decide) ?_
      refine g_callSs hX hbl hbA (rest := []) (As := [.ref b, .int (nI (2 * n)), .int 32]) hE hG hl.1 (c_L_from l D tc A w2 b L xs (2 * n) 32 hL (by omega) (by decide) (by decide)) mw1_210 mw1_211 mw1_0 mw1_212 nm_L_from ⟨⟨Nat.le_of_ble_eq_true rfl, Nat.le_of_ble_eq_true rfl⟩, (by show (4000 + 300 * n) + 0 ≤ 30000; omega), (by show (40000 + 2000 * n) + 0 ≤ 200000; omega)⟩ rfl rfl (Nat.le_of_ble_eq_true rfl) dL_holds_57 ?_
      intro v9 w9 H locs h9 hG
      obtain ⟨f9, wq, hwq, e9⟩ := h9
      rw [f9] at hG; rw [e9]; clear e9 f9
      show W p l e _ s m args below meth c H locs _ _ _ (F0 m 60 ls [.int (nI wq)])
      refine lv_istore (lv' := [(7, .int (nI wq)), (6, .int (nI n)), (5, .int 1), (4, .ref ap), (3, .ref am), (2, .ref ac), (1, .ref oa), (0, .ref b)]) hx hb dL_holds_60 hl (by decide) rfl (fun ls hl => ?_)
      refine lv_aload_n hx hb dL_holds_62 rfl (lv_at hl 7 rfl) ?_
      refine lv_iconst (v := 2) hx hb dL_holds_63 (by decide) ?_
      refine lv_iload hx hb dL_holds_64 (lv_at hl 1 rfl) ?_
      refine lv_imul hx hb dL_holds_66 ?_
      refine lv_topi (fun k_2 ek_2 => ?_)
      obtain rfl : k_2 = nI (2 * n) := ek_2.trans (pk_mul 2 n)
      refine lv_iconst (v := 1) hx hb dL_holds_67 (by decide) ?_
      refine lv_iadd hx hb dL_holds_68 ?_
      refine lv_topi (fun k_3 ek_3 => ?_)
      obtain rfl : k_3 = nI ((2 * n) + 1) := ek_3.trans (nI_add (2 * n) 1)
      refine lv_ldc (v := 1000000000) hx hb hE.2.2.2.1 (hE.2.2.2.2.1 _ mw2_105) dL_holds_69 ?_
      refine g_callSs hX hbl hbA (rest := []) (As := [.ref b, .int (nI ((2 * n) + 1)), .int 1000000000]) hE hG hl.1 (c_L_from l D tc A w2 b L xs ((2 * n) + 1) 1000000000 hL (by omega) (by decide) (by decide)) mw1_210 mw1_211 mw1_0 mw1_212 nm_L_from ⟨⟨Nat.le_of_ble_eq_true rfl, Nat.le_of_ble_eq_true rfl⟩, (by show ((4000 + 300 * n) + 0) + 0 ≤ 30000; omega), (by show ((40000 + 2000 * n) + 0) + 0 ≤ 200000; omega)⟩ rfl rfl (Nat.le_of_ble_eq_true rfl) dL_holds_71 ?_
      intro v9 w9 H locs h9 hG
      obtain ⟨f9, zq, hzq, e9⟩ := h9
      rw [f9] at hG; rw [e9]; clear e9 f9
      show W p l e _ s m args below meth c H locs _ _ _ (F0 m 74 ls [.int (nI zq)])
      refine lv_istore (lv' := [(8, .int (nI zq)), (7, .int (nI wq)), (6, .int (nI n)), (5, .int 1), (4, .ref ap), (3, .ref am), (2, .ref ac), (1, .ref oa), (0, .ref b)]) hx hb dL_holds_74 hl (by decide) rfl (fun ls hl => ?_)
      refine lv_iload hx hb dL_holds_76 (lv_at hl 1 rfl) ?_
      refine lv_bipush (v := 14) hx hb dL_holds_78 (by decide) ?_
      refine lv_icmp_ge (tgt := 118) hx hb dL_holds_80 (by decide) (fun c_4 => ?_) (fun c_4 => ?_)
      · skip
        have nc_4 : 14 ≤ wq := (nI_leI (a := 14) (b := wq) (by omega) (by omega)).mp c_4
        refine lv_iload hx hb dL_holds_118 (lv_at hl 1 rfl) ?_
        refine lv_bipush (v := 20) hx hb dL_holds_120 (by decide) ?_
        refine lv_icmp_ge (tgt := 155) hx hb dL_holds_122 (by decide) (fun c_5 => ?_) (fun c_5 => ?_)
        · skip
          have nc_5 : 20 ≤ wq := (nI_leI (a := 20) (b := wq) (by omega) (by omega)).mp c_5
          refine lv_aload_n hx hb dL_holds_155 rfl (lv_at hl 7 rfl) ?_
          refine lv_aload_n hx hb dL_holds_156 rfl (lv_at hl 6 rfl) ?_
          refine lv_aload_n hx hb dL_holds_157 rfl (lv_at hl 5 rfl) ?_
          refine lv_iload hx hb dL_holds_158 (lv_at hl 1 rfl) ?_
          refine lv_bipush (v := 23) hx hb dL_holds_160 (by decide) ?_
          have j_7 : ∀ (v_6 : Int32) (H : Heap) (locs : List Loc), v_6 = (if 23 ≤ (nI wq) then (if (nI wq) = 23 then 1 else (if 27 ≤ (nI wq) then 3 else 2 : Int32) : Int32) else 0 : Int32) → gS D A s.heap w2 H locs → W p l e rm_L_holds s m args below meth c H locs (((4000 + 300 * n) + rm_L_from.cells) + rm_L_from.cells) (((40000 + 2000 * n) + rm_L_from.slots) + rm_L_from.slots) Q (F0 m 192 ls (.int v_6 :: [.ref am, .ref ac, .ref oa])) := by
            intro v_6 H locs ev_6 hG
            obtain ⟨wc, hwc, ewc⟩ : ∃ wc, wc < 4 ∧ v_6 = nI wc := by
              rw [ev_6]
              repeat' split
              all_goals first | exact ⟨0, by omega, rfl⟩ | exact ⟨1, by omega, rfl⟩ | exact ⟨2, by omega, rfl⟩ | exact ⟨3, by omega, rfl⟩ | exact ⟨wq - 16, by omega, rfl⟩
            rw [ewc]
            refine lv_iload hx hb dL_holds_192 (lv_at hl 0 rfl) ?_
            refine g_callS (rest := []) (As := [.ref oa, .ref ac, .ref am, .int (nI wc), .int (nI zq)]) hE hG hl.1 (c_L_isLearned l hfl D tc A w2 oa ac am ap (6000 + 600 * n) wc zq hH (by omega) (by omega) hzq) mw3_2 mw3_3 mw1_0 mw3_4 nm_L_isLearned ⟨⟨Nat.le_of_ble_eq_true rfl, Nat.le_of_ble_eq_true rfl⟩, (by show (((4000 + 300 * n) + 0) + 0) + 30 ≤ 30000; omega), (by show (((40000 + 2000 * n) + 0) + 0) + 200 ≤ 200000; omega)⟩ rfl rfl (Nat.le_of_ble_eq_true rfl) dL_holds_194 (g_no) ?_
            intro v9 w7 H locs h9 hG
            obtain ⟨e9, d, tk, st, gc, gm, gp, hC, h1, h2, h3, hI, hR⟩ := h9
            rw [e9]; clear e9
            show W p l e _ s m args below meth c H locs _ _ _ (F0 m 197 ls [.int 1])
            refine lv_istore (lv' := [(5, .int 1), (8, .int (nI zq)), (7, .int (nI wq)), (6, .int (nI n)), (4, .ref ap), (3, .ref am), (2, .ref ac), (1, .ref oa), (0, .ref b)]) hx hb dL_holds_197 hl (by decide) rfl (fun ls hl => ?_)
            refine lv_iload hx hb dL_holds_199 (lv_at hl 0 rfl) ?_
            refine lv_if_eq (tgt := 231) hx hb dL_holds_201 (by decide) (fun c9 => absurd c9 (by decide)) (fun _ => ?_)
            refine lv_aload_n hx hb dL_holds_204 rfl (lv_at hl 5 rfl) ?_
            refine lv_bipush (v := 12) hx hb dL_holds_205 (by decide) ?_
            refine g_ialdN hE hG h2 12 rfl (by decide) (by decide) dL_holds_207 ?_
            refine lv_if_eq (tgt := 227) hx hb dL_holds_208 (by decide) (fun c_8 => ?_) (fun c_8 => ?_)
            · skip
              refine lv_iconst (v := 1) hx hb dL_holds_227 (by decide) ?_
              refine lv_goto (tgt := 232) hx hb dL_holds_228 (by decide) ?_
              refine lv_istore (lv' := [(5, .int 1), (8, .int (nI zq)), (7, .int (nI wq)), (6, .int (nI n)), (4, .ref ap), (3, .ref am), (2, .ref ac), (1, .ref oa), (0, .ref b)]) hx hb dL_holds_232 hl (by decide) rfl (fun ls hl => ?_)
              refine lv_iinc (v := (nI (n + 1))) (lv' := [(6, .int (nI (n + 1))), (5, .int 1), (8, .int (nI zq)), (7, .int (nI wq)), (4, .ref ap), (3, .ref am), (2, .ref ac), (1, .ref oa), (0, .ref b)]) hx hb dL_holds_234 hl (k := 3) rfl (nI_add n 1) (by decide) rfl (fun ls hl => ?_)
              refine lv_goto (tgt := 38) hx hb dL_holds_237 (by decide) ?_
              refine W.widen (k := 4000 + 300 * (n + 1)) (n := 40000 + 2000 * (n + 1)) (by show ((((4000 + 300 * n) + 0) + 0) + 30) ≤ _; omega) (by show ((((40000 + 2000 * n) + 0) + 0) + 200) ≤ _; omega) ?_
              exact ih (n + 1) w7 _ _ _ (by omega) ⟨d, tk, st, gc, gm, gp, hC, h1, h2, h3, iOk_u2 hI (by omega), hR⟩ hG (lv_sub hl [0, 1, 4, 5, 6, 7, 8] rfl)
            · skip
              refine lv_aload_n hx hb dL_holds_211 rfl (lv_at hl 7 rfl) ?_
              refine lv_aload_n hx hb dL_holds_212 rfl (lv_at hl 6 rfl) ?_
              refine lv_aload_n hx hb dL_holds_213 rfl (lv_at hl 5 rfl) ?_
              refine lv_aload hx hb dL_holds_214 (lv_at hl 4 rfl) ?_
              refine lv_iload hx hb dL_holds_216 (lv_at hl 1 rfl) ?_
              refine lv_bipush (v := 7) hx hb dL_holds_218 (by decide) ?_
              refine lv_idiv hx hb dL_holds_220 (by decide) ?_
              refine lv_topi (fun k_9 ek_9 => ?_)
              obtain rfl : k_9 = nI (zq / 7) := ek_9.trans (pk_div (a := zq) (d := 7) (by omega) (by omega) (by omega))
              refine g_callS (rest := []) (As := [.ref oa, .ref ac, .ref am, .ref ap, .int (nI (zq / 7))]) hE hG hl.1 (c_L_isSame l hfl D tc A w7 oa ac am ap d tk st gc gm gp (6000 + 600 * n + 300) (zq / 7) h1 h2 h3 hC hI hR (by omega)) mw3_53 mw3_54 mw1_0 mw3_55 nm_L_isSame ⟨⟨Nat.le_of_ble_eq_true rfl, Nat.le_of_ble_eq_true rfl⟩, (by show ((((4000 + 300 * n) + 0) + 0) + 30) + 200 ≤ 30000; omega), (by show ((((40000 + 2000 * n) + 0) + 0) + 200) + 1200 ≤ 200000; omega)⟩ rfl rfl (Nat.le_of_ble_eq_true rfl) dL_holds_221 (g_no) ?_
              intro v9 w8 H locs h9 hG
              obtain ⟨e9, hC, hK⟩ := h9
              rw [e9]; clear e9
              have h1 := (hK 1000 (by decide)).trans h1
              have h2 := (hK 1001 (by decide)).trans h2
              have h3 := (hK 1002 (by decide)).trans h3
              show W p l e _ s m args below meth c H locs _ _ _ (F0 m 224 ls [.int 1])
              refine lv_if_eq (tgt := 231) hx hb dL_holds_224 (by decide) (fun c9 => absurd c9 (by decide)) (fun _ => ?_)
              refine lv_iconst (v := 1) hx hb dL_holds_227 (by decide) ?_
              refine lv_goto (tgt := 232) hx hb dL_holds_228 (by decide) ?_
              refine lv_istore (lv' := [(5, .int 1), (8, .int (nI zq)), (7, .int (nI wq)), (6, .int (nI n)), (4, .ref ap), (3, .ref am), (2, .ref ac), (1, .ref oa), (0, .ref b)]) hx hb dL_holds_232 hl (by decide) rfl (fun ls hl => ?_)
              refine lv_iinc (v := (nI (n + 1))) (lv' := [(6, .int (nI (n + 1))), (5, .int 1), (8, .int (nI zq)), (7, .int (nI wq)), (4, .ref ap), (3, .ref am), (2, .ref ac), (1, .ref oa), (0, .ref b)]) hx hb dL_holds_234 hl (k := 3) rfl (nI_add n 1) (by decide) rfl (fun ls hl => ?_)
              refine lv_goto (tgt := 38) hx hb dL_holds_237 (by decide) ?_
              refine W.widen (k := 4000 + 300 * (n + 1)) (n := 40000 + 2000 * (n + 1)) (by show (((((4000 + 300 * n) + 0) + 0) + 30) + 200) ≤ _; omega) (by show (((((40000 + 2000 * n) + 0) + 0) + 200) + 1200) ≤ _; omega) ?_
              exact ih (n + 1) w8 _ _ _ (by omega) ⟨d, tk, st, gc, gm, gp, hC, h1, h2, h3, iOk_u2 hI (by omega), hR⟩ hG (lv_sub hl [0, 1, 4, 5, 6, 7, 8] rfl)
          refine lv_icmp_ge (tgt := 169) hx hb dL_holds_162 (by decide) (fun c_10 => ?_) (fun c_10 => ?_)
          · skip
            refine lv_iload hx hb dL_holds_169 (lv_at hl 1 rfl) ?_
            refine lv_bipush (v := 23) hx hb dL_holds_171 (by decide) ?_
            refine lv_icmp_ne (tgt := 180) hx hb dL_holds_173 (by decide) (fun c_11 => ?_) (fun c_11 => ?_)
            · skip
              have nc_11 : ¬ (wq = 23) := fun h9 => c_11 ((nI_eq (a := wq) (b := 23) (by omega) (by omega)).mpr h9)
              refine lv_iload hx hb dL_holds_180 (lv_at hl 1 rfl) ?_
              refine lv_bipush (v := 27) hx hb dL_holds_182 (by decide) ?_
              refine lv_icmp_ge (tgt := 191) hx hb dL_holds_184 (by decide) (fun c_12 => ?_) (fun c_12 => ?_)
              · skip
                have nc_12 : 27 ≤ wq := (nI_leI (a := 27) (b := wq) (by omega) (by omega)).mp c_12
                refine lv_iconst (v := 3) hx hb dL_holds_191 (by decide) ?_
                exact j_7 _ _ _ (by rw [if_pos c_10, if_neg c_11, if_pos c_12]) hG
              · skip
                have nc_12 : ¬ (27 ≤ wq) := fun h9 => c_12 ((nI_leI (a := 27) (b := wq) (by omega) (by omega)).mpr h9)
                refine lv_iconst (v := 2) hx hb dL_holds_187 (by decide) ?_
                refine lv_goto (tgt := 192) hx hb dL_holds_188 (by decide) ?_
                exact j_7 _ _ _ (by rw [if_pos c_10, if_neg c_11, if_neg c_12]) hG
            · skip
              have nc_11 : wq = 23 := (nI_eq (a := wq) (b := 23) (by omega) (by omega)).mp c_11
              refine lv_iconst (v := 1) hx hb dL_holds_176 (by decide) ?_
              refine lv_goto (tgt := 192) hx hb dL_holds_177 (by decide) ?_
              exact j_7 _ _ _ (by rw [if_pos c_10, if_pos c_11]) hG
          · skip
            refine lv_iconst (v := 0) hx hb dL_holds_165 (by decide) ?_
            refine lv_goto (tgt := 192) hx hb dL_holds_166 (by decide) ?_
            exact j_7 _ _ _ (by rw [if_neg c_10]) hG
        · skip
          have nc_5 : ¬ (20 ≤ wq) := fun h9 => c_5 ((nI_leI (a := 20) (b := wq) (by omega) (by omega)).mpr h9)
          refine lv_aload_n hx hb dL_holds_125 rfl (lv_at hl 7 rfl) ?_
          refine lv_aload_n hx hb dL_holds_126 rfl (lv_at hl 5 rfl) ?_
          refine lv_aload hx hb dL_holds_127 (lv_at hl 4 rfl) ?_
          refine lv_iload hx hb dL_holds_129 (lv_at hl 1 rfl) ?_
          refine lv_bipush (v := 16) hx hb dL_holds_131 (by decide) ?_
          have j_14 : ∀ (v_13 : Int32) (H : Heap) (locs : List Loc), v_13 = (if 16 ≤ (nI wq) then (nI (wq - 16)) else 0 : Int32) → gS D A s.heap w2 H locs → W p l e rm_L_holds s m args below meth c H locs (((4000 + 300 * n) + rm_L_from.cells) + rm_L_from.cells) (((40000 + 2000 * n) + rm_L_from.slots) + rm_L_from.slots) Q (F0 m 145 ls (.int v_13 :: [.ref ap, .ref am, .ref oa])) := by
            intro v_13 H locs ev_13 hG
            obtain ⟨wb, hwb, ewb⟩ : ∃ wb, wb < 4 ∧ v_13 = nI wb := by
              rw [ev_13]
              repeat' split
              all_goals first | exact ⟨0, by omega, rfl⟩ | exact ⟨1, by omega, rfl⟩ | exact ⟨2, by omega, rfl⟩ | exact ⟨3, by omega, rfl⟩ | exact ⟨wq - 16, by omega, rfl⟩
            rw [ewb]
            refine lv_iload hx hb dL_holds_145 (lv_at hl 0 rfl) ?_
            refine g_callS (rest := []) (As := [.ref oa, .ref am, .ref ap, .int (nI wb), .int (nI zq)]) hE hG hl.1 (c_L_isTuned l hfl D tc A w2 oa ac am ap (6000 + 600 * n) wb zq hH (by omega) (by omega) hzq) mw2_179 mw2_180 mw1_0 mw2_181 nm_L_isTuned ⟨⟨Nat.le_of_ble_eq_true rfl, Nat.le_of_ble_eq_true rfl⟩, (by show (((4000 + 300 * n) + 0) + 0) + 20 ≤ 30000; omega), (by show (((40000 + 2000 * n) + 0) + 0) + 200 ≤ 200000; omega)⟩ rfl rfl (Nat.le_of_ble_eq_true rfl) dL_holds_147 (g_no) ?_
            intro v9 w7 H locs h9 hG
            obtain ⟨e9, d, tk, st, gc, gm, gp, hC, h1, h2, h3, hI, hR⟩ := h9
            rw [e9]; clear e9
            show W p l e _ s m args below meth c H locs _ _ _ (F0 m 150 ls [.int 1])
            refine lv_istore (lv' := [(5, .int 1), (8, .int (nI zq)), (7, .int (nI wq)), (6, .int (nI n)), (4, .ref ap), (3, .ref am), (2, .ref ac), (1, .ref oa), (0, .ref b)]) hx hb dL_holds_150 hl (by decide) rfl (fun ls hl => ?_)
            refine lv_goto (tgt := 199) hx hb dL_holds_152 (by decide) ?_
            refine lv_iload hx hb dL_holds_199 (lv_at hl 0 rfl) ?_
            refine lv_if_eq (tgt := 231) hx hb dL_holds_201 (by decide) (fun c9 => absurd c9 (by decide)) (fun _ => ?_)
            refine lv_aload_n hx hb dL_holds_204 rfl (lv_at hl 5 rfl) ?_
            refine lv_bipush (v := 12) hx hb dL_holds_205 (by decide) ?_
            refine g_ialdN hE hG h2 12 rfl (by decide) (by decide) dL_holds_207 ?_
            refine lv_if_eq (tgt := 227) hx hb dL_holds_208 (by decide) (fun c_15 => ?_) (fun c_15 => ?_)
            · skip
              refine lv_iconst (v := 1) hx hb dL_holds_227 (by decide) ?_
              refine lv_goto (tgt := 232) hx hb dL_holds_228 (by decide) ?_
              refine lv_istore (lv' := [(5, .int 1), (8, .int (nI zq)), (7, .int (nI wq)), (6, .int (nI n)), (4, .ref ap), (3, .ref am), (2, .ref ac), (1, .ref oa), (0, .ref b)]) hx hb dL_holds_232 hl (by decide) rfl (fun ls hl => ?_)
              refine lv_iinc (v := (nI (n + 1))) (lv' := [(6, .int (nI (n + 1))), (5, .int 1), (8, .int (nI zq)), (7, .int (nI wq)), (4, .ref ap), (3, .ref am), (2, .ref ac), (1, .ref oa), (0, .ref b)]) hx hb dL_holds_234 hl (k := 3) rfl (nI_add n 1) (by decide) rfl (fun ls hl => ?_)
              refine lv_goto (tgt := 38) hx hb dL_holds_237 (by decide) ?_
              refine W.widen (k := 4000 + 300 * (n + 1)) (n := 40000 + 2000 * (n + 1)) (by show ((((4000 + 300 * n) + 0) + 0) + 20) ≤ _; omega) (by show ((((40000 + 2000 * n) + 0) + 0) + 200) ≤ _; omega) ?_
              exact ih (n + 1) w7 _ _ _ (by omega) ⟨d, tk, st, gc, gm, gp, hC, h1, h2, h3, iOk_u2 hI (by omega), hR⟩ hG (lv_sub hl [0, 1, 4, 5, 6, 7, 8] rfl)
            · skip
              refine lv_aload_n hx hb dL_holds_211 rfl (lv_at hl 7 rfl) ?_
              refine lv_aload_n hx hb dL_holds_212 rfl (lv_at hl 6 rfl) ?_
              refine lv_aload_n hx hb dL_holds_213 rfl (lv_at hl 5 rfl) ?_
              refine lv_aload hx hb dL_holds_214 (lv_at hl 4 rfl) ?_
              refine lv_iload hx hb dL_holds_216 (lv_at hl 1 rfl) ?_
              refine lv_bipush (v := 7) hx hb dL_holds_218 (by decide) ?_
              refine lv_idiv hx hb dL_holds_220 (by decide) ?_
              refine lv_topi (fun k_16 ek_16 => ?_)
              obtain rfl : k_16 = nI (zq / 7) := ek_16.trans (pk_div (a := zq) (d := 7) (by omega) (by omega) (by omega))
              refine g_callS (rest := []) (As := [.ref oa, .ref ac, .ref am, .ref ap, .int (nI (zq / 7))]) hE hG hl.1 (c_L_isSame l hfl D tc A w7 oa ac am ap d tk st gc gm gp (6000 + 600 * n + 300) (zq / 7) h1 h2 h3 hC hI hR (by omega)) mw3_53 mw3_54 mw1_0 mw3_55 nm_L_isSame ⟨⟨Nat.le_of_ble_eq_true rfl, Nat.le_of_ble_eq_true rfl⟩, (by show ((((4000 + 300 * n) + 0) + 0) + 20) + 200 ≤ 30000; omega), (by show ((((40000 + 2000 * n) + 0) + 0) + 200) + 1200 ≤ 200000; omega)⟩ rfl rfl (Nat.le_of_ble_eq_true rfl) dL_holds_221 (g_no) ?_
              intro v9 w8 H locs h9 hG
              obtain ⟨e9, hC, hK⟩ := h9
              rw [e9]; clear e9
              have h1 := (hK 1000 (by decide)).trans h1
              have h2 := (hK 1001 (by decide)).trans h2
              have h3 := (hK 1002 (by decide)).trans h3
              show W p l e _ s m args below meth c H locs _ _ _ (F0 m 224 ls [.int 1])
              refine lv_if_eq (tgt := 231) hx hb dL_holds_224 (by decide) (fun c9 => absurd c9 (by decide)) (fun _ => ?_)
              refine lv_iconst (v := 1) hx hb dL_holds_227 (by decide) ?_
              refine lv_goto (tgt := 232) hx hb dL_holds_228 (by decide) ?_
              refine lv_istore (lv' := [(5, .int 1), (8, .int (nI zq)), (7, .int (nI wq)), (6, .int (nI n)), (4, .ref ap), (3, .ref am), (2, .ref ac), (1, .ref oa), (0, .ref b)]) hx hb dL_holds_232 hl (by decide) rfl (fun ls hl => ?_)
              refine lv_iinc (v := (nI (n + 1))) (lv' := [(6, .int (nI (n + 1))), (5, .int 1), (8, .int (nI zq)), (7, .int (nI wq)), (4, .ref ap), (3, .ref am), (2, .ref ac), (1, .ref oa), (0, .ref b)]) hx hb dL_holds_234 hl (k := 3) rfl (nI_add n 1) (by decide) rfl (fun ls hl => ?_)
              refine lv_goto (tgt := 38) hx hb dL_holds_237 (by decide) ?_
              refine W.widen (k := 4000 + 300 * (n + 1)) (n := 40000 + 2000 * (n + 1)) (by show (((((4000 + 300 * n) + 0) + 0) + 20) + 200) ≤ _; omega) (by show (((((40000 + 2000 * n) + 0) + 0) + 200) + 1200) ≤ _; omega) ?_
              exact ih (n + 1) w8 _ _ _ (by omega) ⟨d, tk, st, gc, gm, gp, hC, h1, h2, h3, iOk_u2 hI (by omega), hR⟩ hG (lv_sub hl [0, 1, 4, 5, 6, 7, 8] rfl)
          refine lv_icmp_ge (tgt := 140) hx hb dL_holds_133 (by decide) (fun c_17 => ?_) (fun c_17 => ?_)
          · skip
            have nc_17 : 16 ≤ wq := (nI_leI (a := 16) (b := wq) (by omega) (by omega)).mp c_17
            refine lv_iload hx hb dL_holds_140 (lv_at hl 1 rfl) ?_
            refine lv_bipush (v := 16) hx hb dL_holds_142 (by decide) ?_
            refine lv_isub hx hb dL_holds_144 ?_
            refine lv_topi (fun k_18 ek_18 => ?_)
            obtain rfl : k_18 = nI (wq - 16) := ek_18.trans (pk_sub (a := wq) (b := 16) (by omega))
            exact j_14 _ _ _ (by rw [if_pos c_17]) hG
          · skip
            have nc_17 : ¬ (16 ≤ wq) := fun h9 => c_17 ((nI_leI (a := 16) (b := wq) (by omega) (by omega)).mpr h9)
            refine lv_iconst (v := 0) hx hb dL_holds_136 (by decide) ?_
            refine lv_goto (tgt := 145) hx hb dL_holds_137 (by decide) ?_
            exact j_14 _ _ _ (by rw [if_neg c_17]) hG
      · skip
        have nc_4 : ¬ (14 ≤ wq) := fun h9 => c_4 ((nI_leI (a := 14) (b := wq) (by omega) (by omega)).mpr h9)
        refine lv_aload_n hx hb dL_holds_83 rfl (lv_at hl 7 rfl) ?_
        refine lv_aload_n hx hb dL_holds_84 rfl (lv_at hl 6 rfl) ?_
        refine lv_aload_n hx hb dL_holds_85 rfl (lv_at hl 5 rfl) ?_
        refine lv_iload hx hb dL_holds_86 (lv_at hl 1 rfl) ?_
        refine lv_iconst (v := 3) hx hb dL_holds_88 (by decide) ?_
        have j_20 : ∀ (v_19 : Int32) (H : Heap) (locs : List Loc), v_19 = (if 3 ≤ (nI wq) then (if 7 ≤ (nI wq) then 2 else 1 : Int32) else 0 : Int32) → gS D A s.heap w2 H locs → W p l e rm_L_holds s m args below meth c H locs (((4000 + 300 * n) + rm_L_from.cells) + rm_L_from.cells) (((40000 + 2000 * n) + rm_L_from.slots) + rm_L_from.slots) Q (F0 m 108 ls (.int v_19 :: [.ref am, .ref ac, .ref oa])) := by
          intro v_19 H locs ev_19 hG
          obtain ⟨wa, hwa, ewa⟩ : ∃ wa, wa < 3 ∧ v_19 = nI wa := by
            rw [ev_19]
            repeat' split
            all_goals first | exact ⟨0, by omega, rfl⟩ | exact ⟨1, by omega, rfl⟩ | exact ⟨2, by omega, rfl⟩ | exact ⟨3, by omega, rfl⟩ | exact ⟨wq - 16, by omega, rfl⟩
          rw [ewa]
          refine lv_iload hx hb dL_holds_108 (lv_at hl 0 rfl) ?_
          refine g_callS (rest := []) (As := [.ref oa, .ref ac, .ref am, .int (nI wa), .int (nI zq)]) hE hG hl.1 (c_L_isPlayed l hfl D tc A w2 oa ac am ap (6000 + 600 * n) wa zq hH (by omega) (by omega) hzq) mw2_106 mw2_107 mw1_0 mw2_108 nm_L_isPlayed ⟨⟨Nat.le_of_ble_eq_true rfl, Nat.le_of_ble_eq_true rfl⟩, (by show (((4000 + 300 * n) + 0) + 0) + 20 ≤ 30000; omega), (by show (((40000 + 2000 * n) + 0) + 0) + 200 ≤ 200000; omega)⟩ rfl rfl (Nat.le_of_ble_eq_true rfl) dL_holds_110 (g_no) ?_
          intro v9 w7 H locs h9 hG
          obtain ⟨e9, d, tk, st, gc, gm, gp, hC, h1, h2, h3, hI, hR⟩ := h9
          rw [e9]; clear e9
          show W p l e _ s m args below meth c H locs _ _ _ (F0 m 113 ls [.int 1])
          refine lv_istore (lv' := [(5, .int 1), (8, .int (nI zq)), (7, .int (nI wq)), (6, .int (nI n)), (4, .ref ap), (3, .ref am), (2, .ref ac), (1, .ref oa), (0, .ref b)]) hx hb dL_holds_113 hl (by decide) rfl (fun ls hl => ?_)
          refine lv_goto (tgt := 199) hx hb dL_holds_115 (by decide) ?_
          refine lv_iload hx hb dL_holds_199 (lv_at hl 0 rfl) ?_
          refine lv_if_eq (tgt := 231) hx hb dL_holds_201 (by decide) (fun c9 => absurd c9 (by decide)) (fun _ => ?_)
          refine lv_aload_n hx hb dL_holds_204 rfl (lv_at hl 5 rfl) ?_
          refine lv_bipush (v := 12) hx hb dL_holds_205 (by decide) ?_
          refine g_ialdN hE hG h2 12 rfl (by decide) (by decide) dL_holds_207 ?_
          refine lv_if_eq (tgt := 227) hx hb dL_holds_208 (by decide) (fun c_21 => ?_) (fun c_21 => ?_)
          · skip
            refine lv_iconst (v := 1) hx hb dL_holds_227 (by decide) ?_
            refine lv_goto (tgt := 232) hx hb dL_holds_228 (by decide) ?_
            refine lv_istore (lv' := [(5, .int 1), (8, .int (nI zq)), (7, .int (nI wq)), (6, .int (nI n)), (4, .ref ap), (3, .ref am), (2, .ref ac), (1, .ref oa), (0, .ref b)]) hx hb dL_holds_232 hl (by decide) rfl (fun ls hl => ?_)
            refine lv_iinc (v := (nI (n + 1))) (lv' := [(6, .int (nI (n + 1))), (5, .int 1), (8, .int (nI zq)), (7, .int (nI wq)), (4, .ref ap), (3, .ref am), (2, .ref ac), (1, .ref oa), (0, .ref b)]) hx hb dL_holds_234 hl (k := 3) rfl (nI_add n 1) (by decide) rfl (fun ls hl => ?_)
            refine lv_goto (tgt := 38) hx hb dL_holds_237 (by decide) ?_
            refine W.widen (k := 4000 + 300 * (n + 1)) (n := 40000 + 2000 * (n + 1)) (by show ((((4000 + 300 * n) + 0) + 0) + 20) ≤ _; omega) (by show ((((40000 + 2000 * n) + 0) + 0) + 200) ≤ _; omega) ?_
            exact ih (n + 1) w7 _ _ _ (by omega) ⟨d, tk, st, gc, gm, gp, hC, h1, h2, h3, iOk_u2 hI (by omega), hR⟩ hG (lv_sub hl [0, 1, 4, 5, 6, 7, 8] rfl)
          · skip
            refine lv_aload_n hx hb dL_holds_211 rfl (lv_at hl 7 rfl) ?_
            refine lv_aload_n hx hb dL_holds_212 rfl (lv_at hl 6 rfl) ?_
            refine lv_aload_n hx hb dL_holds_213 rfl (lv_at hl 5 rfl) ?_
            refine lv_aload hx hb dL_holds_214 (lv_at hl 4 rfl) ?_
            refine lv_iload hx hb dL_holds_216 (lv_at hl 1 rfl) ?_
            refine lv_bipush (v := 7) hx hb dL_holds_218 (by decide) ?_
            refine lv_idiv hx hb dL_holds_220 (by decide) ?_
            refine lv_topi (fun k_22 ek_22 => ?_)
            obtain rfl : k_22 = nI (zq / 7) := ek_22.trans (pk_div (a := zq) (d := 7) (by omega) (by omega) (by omega))
            refine g_callS (rest := []) (As := [.ref oa, .ref ac, .ref am, .ref ap, .int (nI (zq / 7))]) hE hG hl.1 (c_L_isSame l hfl D tc A w7 oa ac am ap d tk st gc gm gp (6000 + 600 * n + 300) (zq / 7) h1 h2 h3 hC hI hR (by omega)) mw3_53 mw3_54 mw1_0 mw3_55 nm_L_isSame ⟨⟨Nat.le_of_ble_eq_true rfl, Nat.le_of_ble_eq_true rfl⟩, (by show ((((4000 + 300 * n) + 0) + 0) + 20) + 200 ≤ 30000; omega), (by show ((((40000 + 2000 * n) + 0) + 0) + 200) + 1200 ≤ 200000; omega)⟩ rfl rfl (Nat.le_of_ble_eq_true rfl) dL_holds_221 (g_no) ?_
            intro v9 w8 H locs h9 hG
            obtain ⟨e9, hC, hK⟩ := h9
            rw [e9]; clear e9
            have h1 := (hK 1000 (by decide)).trans h1
            have h2 := (hK 1001 (by decide)).trans h2
            have h3 := (hK 1002 (by decide)).trans h3
            show W p l e _ s m args below meth c H locs _ _ _ (F0 m 224 ls [.int 1])
            refine lv_if_eq (tgt := 231) hx hb dL_holds_224 (by decide) (fun c9 => absurd c9 (by decide)) (fun _ => ?_)
            refine lv_iconst (v := 1) hx hb dL_holds_227 (by decide) ?_
            refine lv_goto (tgt := 232) hx hb dL_holds_228 (by decide) ?_
            refine lv_istore (lv' := [(5, .int 1), (8, .int (nI zq)), (7, .int (nI wq)), (6, .int (nI n)), (4, .ref ap), (3, .ref am), (2, .ref ac), (1, .ref oa), (0, .ref b)]) hx hb dL_holds_232 hl (by decide) rfl (fun ls hl => ?_)
            refine lv_iinc (v := (nI (n + 1))) (lv' := [(6, .int (nI (n + 1))), (5, .int 1), (8, .int (nI zq)), (7, .int (nI wq)), (4, .ref ap), (3, .ref am), (2, .ref ac), (1, .ref oa), (0, .ref b)]) hx hb dL_holds_234 hl (k := 3) rfl (nI_add n 1) (by decide) rfl (fun ls hl => ?_)
            refine lv_goto (tgt := 38) hx hb dL_holds_237 (by decide) ?_
            refine W.widen (k := 4000 + 300 * (n + 1)) (n := 40000 + 2000 * (n + 1)) (by show (((((4000 + 300 * n) + 0) + 0) + 20) + 200) ≤ _; omega) (by show (((((40000 + 2000 * n) + 0) + 0) + 200) + 1200) ≤ _; omega) ?_
            exact ih (n + 1) w8 _ _ _ (by omega) ⟨d, tk, st, gc, gm, gp, hC, h1, h2, h3, iOk_u2 hI (by omega), hR⟩ hG (lv_sub hl [0, 1, 4, 5, 6, 7, 8] rfl)
        refine lv_icmp_ge (tgt := 96) hx hb dL_holds_89 (by decide) (fun c_23 => ?_) (fun c_23 => ?_)
        · skip
          refine lv_iload hx hb dL_holds_96 (lv_at hl 1 rfl) ?_
          refine lv_bipush (v := 7) hx hb dL_holds_98 (by decide) ?_
          refine lv_icmp_ge (tgt := 107) hx hb dL_holds_100 (by decide) (fun c_24 => ?_) (fun c_24 => ?_)
          · skip
            have nc_24 : 7 ≤ wq := (nI_leI (a := 7) (b := wq) (by omega) (by omega)).mp c_24
            refine lv_iconst (v := 2) hx hb dL_holds_107 (by decide) ?_
            exact j_20 _ _ _ (by rw [if_pos c_23, if_pos c_24]) hG
          · skip
            have nc_24 : ¬ (7 ≤ wq) := fun h9 => c_24 ((nI_leI (a := 7) (b := wq) (by omega) (by omega)).mpr h9)
            refine lv_iconst (v := 1) hx hb dL_holds_103 (by decide) ?_
            refine lv_goto (tgt := 108) hx hb dL_holds_104 (by decide) ?_
            exact j_20 _ _ _ (by rw [if_pos c_23, if_neg c_24]) hG
        · skip
          refine lv_iconst (v := 0) hx hb dL_holds_92 (by decide) ?_
          refine lv_goto (tgt := 108) hx hb dL_holds_93 (by decide) ?_
          exact j_20 _ _ _ (by rw [if_neg c_23]) hG
  exact hrd 60 0 w6 _ _ _ (by omega) hH hG (lv_sub hl [0, 1, 2, 3, 4, 5, 6] rfl)
abbrev rm_L_isHeld : Room := { frames := 13, cells := 30000, slots := 200000, locals := 500 }
theorem c_L_isHeld (l : Launch) (hfl : l.stackTraces = false) (D : va_G) (tc : Nat → ClassId) (A : Nat → Prop) (b L : Nat) (xs : Nat → Int32) (hL : L ≤ 260) : gMHs l yL_isHeld cL_isHeld 2 (some .boolean) [(0, 4, 5, 157), (0, 4, 8, 159), (0, 4, 11, 161)] rm_L_isHeld D tc A b L xs [.ref b] (fun _ => none) (fun v w' => v = some (.int 1)) := by
  refine gMHs_of (by decide +kernel) (Nat.le_of_ble_eq_true rfl) ?_
  intro p e s m args below meth c ls Q hQ hE hX hbl hbA hG hr hl
  have hx := hE.1
  have hb := hE.2.1
  have hl : lv_has ls 2 [(0, .ref b)] := hl
  refine lv_aload_n hx hb dL_isHeld_0 rfl (lv_at hl 0 rfl) ?_
  refine g_callSs hX hbl hbA (rest := []) (As := [.ref b]) hE hG hl.1 (c_L_holds l hfl D tc A b L xs hL) mw1_21 mw1_22 mw1_0 mw1_23 nm_L_holds ⟨⟨Nat.le_of_ble_eq_true rfl, Nat.le_of_ble_eq_true rfl⟩, Nat.le_of_ble_eq_true rfl, Nat.le_of_ble_eq_true rfl⟩ rfl rfl (Nat.le_of_ble_eq_true rfl) dL_isHeld_1 ?_
  intro v9 w2 H locs h9 hG
  rw [show v9 = some (.int 1) from h9]
  show W p l e _ s m args below meth c H locs _ _ _ (F0 m 4 ls [.int 1])
  subst hQ
  exact g_zret hE hG hr (by decide) (Nat.le_of_ble_eq_true rfl) (Nat.le_of_ble_eq_true rfl) dL_isHeld_4 rfl
