/-! loops over numbers -/
def f_sbs (a b x y : Int32) : Nat → Int32
  | 0 => x
  | k + 1 => f_strokeB (f_sbs a b x y k) a b (nI (k + 1)) x y
abbrev rm_X5_strokeByStroke : Room := { frames := 3, cells := 0, slots := 0, locals := 122 }
theorem nm_X5_strokeByStroke : gNm yX5_strokeByStroke 5 := ⟨by decide +kernel, by decide +kernel, by decide +kernel⟩
set_option maxHeartbeats 4000000 in
set_option maxRecDepth 100000 in
theorem c_X5_strokeByStroke (l : Launch) (hfl : l.stackTraces = false) (D : va_G) (tc : Nat → ClassId) (A : Nat → Prop) (w : gW) (a : Int32) (b : Int32) (T : Nat) (g : Int32) (h : Int32) (hT : T < 2 ^ 30) : gM l yX5_strokeByStroke cX5_strokeByStroke 7 (some .int) rm_X5_strokeByStroke D tc A [.int a, .int b, .int (nI T), .int g, .int h] w (fun v w' => v = some (.int (f_sbs a b g h T)) ∧ w' = w) (fun _ => False) := by
  refine gM_of (by decide +kernel) (Nat.le_of_ble_eq_true rfl) ?_
  intro p e s m args below meth c ls Q hQ hE hG hr hnt hnm hl
  have hx := hE.1
  have hb := hE.2.1
  have hl : lv_has ls 7 [(0, .int a), (1, .int b), (2, .int (nI T)), (3, .int g), (4, .int h)] := hl
  refine lv_iload_n hx hb dX5_strokeByStroke_0 rfl (lv_at hl 3 rfl) ?_
  refine lv_istore (lv' := [(5, .int g), (0, .int a), (1, .int b), (2, .int (nI T)), (3, .int g), (4, .int h)]) hx hb dX5_strokeByStroke_1 hl (by decide) rfl (fun ls hl => ?_)
  refine lv_iconst (v := 1) hx hb dX5_strokeByStroke_3 (by decide) ?_
  refine lv_istore (lv' := [(6, .int 1), (5, .int g), (0, .int a), (1, .int b), (2, .int (nI T)), (3, .int g), (4, .int h)]) hx hb dX5_strokeByStroke_4 hl (by decide) rfl (fun ls hl => ?_)
  have hl : lv_has ls 7 [(6, .int (nI (T - T + 1))), (5, .int (f_sbs a b g h (T - T))), (0, .int a), (1, .int b), (2, .int (nI T)), (3, .int g), (4, .int h)] := by rw [Nat.sub_self]; exact hl
  have hloop_3 : ∀ (k_1 : Nat) (H : Heap) (locs : List Loc) (ls : Array Slot), k_1 ≤ T → gS D A s.heap w H locs → lv_has ls 7 [(6, .int (nI (T - k_1 + 1))), (5, .int (f_sbs a b g h (T - k_1))), (0, .int a), (1, .int b), (2, .int (nI T)), (3, .int g), (4, .int h)] → W p l e rm_X5_strokeByStroke s m args below meth c H locs 0 0 Q (F0 m 6 ls []) := by
    intro k_1
    induction k_1 with
    | zero =>
      intro H locs ls hk_2 hG hl
      refine lv_iload hx hb dX5_strokeByStroke_6 (lv_at hl 0 rfl) ?_
      refine lv_iload_n hx hb dX5_strokeByStroke_8 rfl (lv_at hl 4 rfl) ?_
      refine lv_icmp_gt (tgt := 32) hx hb dX5_strokeByStroke_9 (by decide) (fun c9 => ?_) (fun c9 => (c9 (nI_lt (a := T) (by omega) (by omega))).elim)
      refine lv_iload hx hb dX5_strokeByStroke_32 (lv_at hl 1 rfl) ?_
      subst hQ
      exact g_iret hE hG hr (Nat.le_of_ble_eq_true rfl) (Nat.le_of_ble_eq_true rfl) dX5_strokeByStroke_34 ⟨rfl, rfl⟩
    | succ k_1 ihk_1 =>
      intro H locs ls hk_2 hG hl
      refine lv_iload hx hb dX5_strokeByStroke_6 (lv_at hl 0 rfl) ?_
      refine lv_iload_n hx hb dX5_strokeByStroke_8 rfl (lv_at hl 4 rfl) ?_
      refine lv_icmp_gt (tgt := 32) hx hb dX5_strokeByStroke_9 (by decide) (fun c9 => absurd c9 (nI_nlt (a := T) (by omega) (by omega))) (fun c9 => ?_)
      refine lv_iload hx hb dX5_strokeByStroke_12 (lv_at hl 1 rfl) ?_
      refine lv_iload_n hx hb dX5_strokeByStroke_14 rfl (lv_at hl 2 rfl) ?_
      refine lv_iload_n hx hb dX5_strokeByStroke_15 rfl (lv_at hl 3 rfl) ?_
      refine lv_iload hx hb dX5_strokeByStroke_16 (lv_at hl 0 rfl) ?_
      refine lv_iload_n hx hb dX5_strokeByStroke_18 rfl (lv_at hl 5 rfl) ?_
      refine lv_iload hx hb dX5_strokeByStroke_19 (lv_at hl 6 rfl) ?_
      refine g_callS (rest := []) (As := [.int (f_sbs a b g h (T - (k_1 + 1))), .int a, .int b, .int (nI (T - (k_1 + 1) + 1)), .int g, .int h]) hE hG hl.1 (c_X5_strokeBehind l hfl D tc A w (f_sbs a b g h (T - (k_1 + 1))) a b (nI (T - (k_1 + 1) + 1)) g h ) mw3_98 mw3_99 mw1_1 mw3_100 nm_X5_strokeBehind ⟨⟨Nat.le_of_ble_eq_true rfl, Nat.le_of_ble_eq_true rfl⟩, Nat.le_of_ble_eq_true rfl, Nat.le_of_ble_eq_true rfl⟩ rfl rfl (Nat.le_of_ble_eq_true rfl) dX5_strokeByStroke_21 (g_no) ?_
      intro v9 w9 H locs h9 hG
      obtain ⟨e9, f9⟩ := h9
      rw [f9] at hG; rw [e9]; clear e9 f9
      show W p l e _ s m args below meth c H locs _ _ _ (F0 m 24 ls [.int (f_strokeB (f_sbs a b g h (T - (k_1 + 1))) a b (nI (T - (k_1 + 1) + 1)) g h)])
      refine lv_istore (lv' := [(5, .int (f_strokeB (f_sbs a b g h (T - (k_1 + 1))) a b (nI (T - (k_1 + 1) + 1)) g h)), (6, .int (nI (T - (k_1 + 1) + 1))), (0, .int a), (1, .int b), (2, .int (nI T)), (3, .int g), (4, .int h)]) hx hb dX5_strokeByStroke_24 hl (by decide) rfl (fun ls hl => ?_)
      refine lv_iinc (v := (nI (T - k_1 + 1))) (lv' := [(6, .int (nI (T - k_1 + 1))), (5, .int (f_strokeB (f_sbs a b g h (T - (k_1 + 1))) a b (nI (T - (k_1 + 1) + 1)) g h)), (0, .int a), (1, .int b), (2, .int (nI T)), (3, .int g), (4, .int h)]) hx hb dX5_strokeByStroke_26 hl (k := 1) rfl (by rw [show T - k_1 + 1 = (T - (k_1 + 1) + 1) + 1 by omega]; exact nI_1 _) (by decide) rfl (fun ls hl => ?_)
      refine lv_goto (tgt := 6) hx hb dX5_strokeByStroke_29 (by decide) ?_
      have hl : lv_has ls 7 [(6, .int (nI (T - k_1 + 1))), (5, .int (f_sbs a b g h (T - k_1))), (0, .int a), (1, .int b), (2, .int (nI T)), (3, .int g), (4, .int h)] := by rw [show T - k_1 = (T - (k_1 + 1)) + 1 by omega] at hl ⊢; exact hl
      exact ihk_1 _ _ _ (by omega) hG (lv_sub hl [0, 1, 2, 3, 4, 5, 6] rfl)
  exact hloop_3 T _ _ _ (Nat.le_refl _) hG (lv_sub hl [0, 1, 2, 3, 4, 5, 6] rfl)
def f_bc (a : Int32) : Int32 := ((((((((a - (((a.toUInt32 >>> ((1 : Int32).toUInt32 &&& Int32.toUInt32 31)).toInt32) &&& 1431655765)) &&& 858993459) + ((((a - (((a.toUInt32 >>> ((1 : Int32).toUInt32 &&& Int32.toUInt32 31)).toInt32) &&& 1431655765)).toUInt32 >>> ((2 : Int32).toUInt32 &&& Int32.toUInt32 31)).toInt32) &&& 858993459)) + (((((a - (((a.toUInt32 >>> ((1 : Int32).toUInt32 &&& Int32.toUInt32 31)).toInt32) &&& 1431655765)) &&& 858993459) + ((((a - (((a.toUInt32 >>> ((1 : Int32).toUInt32 &&& Int32.toUInt32 31)).toInt32) &&& 1431655765)).toUInt32 >>> ((2 : Int32).toUInt32 &&& Int32.toUInt32 31)).toInt32) &&& 858993459)).toUInt32 >>> ((4 : Int32).toUInt32 &&& Int32.toUInt32 31)).toInt32)) &&& 252645135) + (((((((a - (((a.toUInt32 >>> ((1 : Int32).toUInt32 &&& Int32.toUInt32 31)).toInt32) &&& 1431655765)) &&& 858993459) + ((((a - (((a.toUInt32 >>> ((1 : Int32).toUInt32 &&& Int32.toUInt32 31)).toInt32) &&& 1431655765)).toUInt32 >>> ((2 : Int32).toUInt32 &&& Int32.toUInt32 31)).toInt32) &&& 858993459)) + (((((a - (((a.toUInt32 >>> ((1 : Int32).toUInt32 &&& Int32.toUInt32 31)).toInt32) &&& 1431655765)) &&& 858993459) + ((((a - (((a.toUInt32 >>> ((1 : Int32).toUInt32 &&& Int32.toUInt32 31)).toInt32) &&& 1431655765)).toUInt32 >>> ((2 : Int32).toUInt32 &&& Int32.toUInt32 31)).toInt32) &&& 858993459)).toUInt32 >>> ((4 : Int32).toUInt32 &&& Int32.toUInt32 31)).toInt32)) &&& 252645135).toUInt32 >>> ((8 : Int32).toUInt32 &&& Int32.toUInt32 31)).toInt32)) + ((((((((a - (((a.toUInt32 >>> ((1 : Int32).toUInt32 &&& Int32.toUInt32 31)).toInt32) &&& 1431655765)) &&& 858993459) + ((((a - (((a.toUInt32 >>> ((1 : Int32).toUInt32 &&& Int32.toUInt32 31)).toInt32) &&& 1431655765)).toUInt32 >>> ((2 : Int32).toUInt32 &&& Int32.toUInt32 31)).toInt32) &&& 858993459)) + (((((a - (((a.toUInt32 >>> ((1 : Int32).toUInt32 &&& Int32.toUInt32 31)).toInt32) &&& 1431655765)) &&& 858993459) + ((((a - (((a.toUInt32 >>> ((1 : Int32).toUInt32 &&& Int32.toUInt32 31)).toInt32) &&& 1431655765)).toUInt32 >>> ((2 : Int32).toUInt32 &&& Int32.toUInt32 31)).toInt32) &&& 858993459)).toUInt32 >>> ((4 : Int32).toUInt32 &&& Int32.toUInt32 31)).toInt32)) &&& 252645135) + (((((((a - (((a.toUInt32 >>> ((1 : Int32).toUInt32 &&& Int32.toUInt32 31)).toInt32) &&& 1431655765)) &&& 858993459) + ((((a - (((a.toUInt32 >>> ((1 : Int32).toUInt32 &&& Int32.toUInt32 31)).toInt32) &&& 1431655765)).toUInt32 >>> ((2 : Int32).toUInt32 &&& Int32.toUInt32 31)).toInt32) &&& 858993459)) + (((((a - (((a.toUInt32 >>> ((1 : Int32).toUInt32 &&& Int32.toUInt32 31)).toInt32) &&& 1431655765)) &&& 858993459) + ((((a - (((a.toUInt32 >>> ((1 : Int32).toUInt32 &&& Int32.toUInt32 31)).toInt32) &&& 1431655765)).toUInt32 >>> ((2 : Int32).toUInt32 &&& Int32.toUInt32 31)).toInt32) &&& 858993459)).toUInt32 >>> ((4 : Int32).toUInt32 &&& Int32.toUInt32 31)).toInt32)) &&& 252645135).toUInt32 >>> ((8 : Int32).toUInt32 &&& Int32.toUInt32 31)).toInt32)).toUInt32 >>> ((16 : Int32).toUInt32 &&& Int32.toUInt32 31)).toInt32)) &&& 63)
abbrev rm_J6_bitCount_0f7a4 : Room := { frames := 1, cells := 0, slots := 0, locals := 50 }
theorem nm_J6_bitCount_0f7a4 : gNm yJ6_bitCount_0f7a4 1 := ⟨by decide +kernel, by decide +kernel, by decide +kernel⟩
set_option maxHeartbeats 4000000 in
set_option maxRecDepth 100000 in
theorem c_J6_bitCount_0f7a4 (l : Launch) (hfl : l.stackTraces = false) (D : va_G) (tc : Nat → ClassId) (A : Nat → Prop) (w : gW) (a : Int32) : gM l yJ6_bitCount_0f7a4 cJ6_bitCount_0f7a4 1 (some .int) rm_J6_bitCount_0f7a4 D tc A [.int a] w (fun v w' => v = some (.int (f_bc a)) ∧ w' = w) (fun _ => False) := by
  refine gM_of (by decide +kernel) (Nat.le_of_ble_eq_true rfl) ?_
  intro p e s m args below meth c ls Q hQ hE hG hr hnt hnm hl
  have hx := hE.1
  have hb := hE.2.1
  have hl : lv_has ls 1 [(0, .int a)] := hl
  refine lv_iload_n hx hb dJ6_bitCount_0f7a4_0 rfl (lv_at hl 0 rfl) ?_
  refine lv_iload_n hx hb dJ6_bitCount_0f7a4_1 rfl (lv_at hl 0 rfl) ?_
  refine lv_iconst (v := 1) hx hb dJ6_bitCount_0f7a4_2 (by decide) ?_
  refine lv_iushr (v := (a.toUInt32 >>> ((1 : Int32).toUInt32 &&& Int32.toUInt32 31)).toInt32) hx hb dJ6_bitCount_0f7a4_3 rfl ?_
  refine lv_ldcw (v := 1431655765) hx hb hE.2.2.2.1 (hE.2.2.2.2.1 _ mw3_149) dJ6_bitCount_0f7a4_4 ?_
  refine lv_iand hx hb dJ6_bitCount_0f7a4_7 ?_
  refine lv_isub hx hb dJ6_bitCount_0f7a4_8 ?_
  refine lv_istore_n (lv' := [(0, .int (a - (((a.toUInt32 >>> ((1 : Int32).toUInt32 &&& Int32.toUInt32 31)).toInt32) &&& 1431655765)))]) hx hb dJ6_bitCount_0f7a4_9 rfl hl (by decide) rfl (fun ls hl => ?_)
  refine lv_iload_n hx hb dJ6_bitCount_0f7a4_10 rfl (lv_at hl 0 rfl) ?_
  refine lv_ldcw (v := 858993459) hx hb hE.2.2.2.1 (hE.2.2.2.2.1 _ mw3_150) dJ6_bitCount_0f7a4_11 ?_
  refine lv_iand hx hb dJ6_bitCount_0f7a4_14 ?_
  refine lv_iload_n hx hb dJ6_bitCount_0f7a4_15 rfl (lv_at hl 0 rfl) ?_
  refine lv_iconst (v := 2) hx hb dJ6_bitCount_0f7a4_16 (by decide) ?_
  refine lv_iushr (v := ((a - (((a.toUInt32 >>> ((1 : Int32).toUInt32 &&& Int32.toUInt32 31)).toInt32) &&& 1431655765)).toUInt32 >>> ((2 : Int32).toUInt32 &&& Int32.toUInt32 31)).toInt32) hx hb dJ6_bitCount_0f7a4_17 rfl ?_
  refine lv_ldcw (v := 858993459) hx hb hE.2.2.2.1 (hE.2.2.2.2.1 _ mw3_150) dJ6_bitCount_0f7a4_18 ?_
  refine lv_iand hx hb dJ6_bitCount_0f7a4_21 ?_
  refine lv_iadd hx hb dJ6_bitCount_0f7a4_22 ?_
  refine lv_istore_n (lv' := [(0, .int (((a - (((a.toUInt32 >>> ((1 : Int32).toUInt32 &&& Int32.toUInt32 31)).toInt32) &&& 1431655765)) &&& 858993459) + ((((a - (((a.toUInt32 >>> ((1 : Int32).toUInt32 &&& Int32.toUInt32 31)).toInt32) &&& 1431655765)).toUInt32 >>> ((2 : Int32).toUInt32 &&& Int32.toUInt32 31)).toInt32) &&& 858993459)))]) hx hb dJ6_bitCount_0f7a4_23 rfl hl (by decide) rfl (fun ls hl => ?_)
  refine lv_iload_n hx hb dJ6_bitCount_0f7a4_24 rfl (lv_at hl 0 rfl) ?_
  refine lv_iload_n hx hb dJ6_bitCount_0f7a4_25 rfl (lv_at hl 0 rfl) ?_
  refine lv_iconst (v := 4) hx hb dJ6_bitCount_0f7a4_26 (by decide) ?_
  refine lv_iushr (v := ((((a - (((a.toUInt32 >>> ((1 : Int32).toUInt32 &&& Int32.toUInt32 31)).toInt32) &&& 1431655765)) &&& 858993459) + ((((a - (((a.toUInt32 >>> ((1 : Int32).toUInt32 &&& Int32.toUInt32 31)).toInt32) &&& 1431655765)).toUInt32 >>> ((2 : Int32).toUInt32 &&& Int32.toUInt32 31)).toInt32) &&& 858993459)).toUInt32 >>> ((4 : Int32).toUInt32 &&& Int32.toUInt32 31)).toInt32) hx hb dJ6_bitCount_0f7a4_27 rfl ?_
  refine lv_iadd hx hb dJ6_bitCount_0f7a4_28 ?_
  refine lv_ldcw (v := 252645135) hx hb hE.2.2.2.1 (hE.2.2.2.2.1 _ mw3_151) dJ6_bitCount_0f7a4_29 ?_
  refine lv_iand hx hb dJ6_bitCount_0f7a4_32 ?_
  refine lv_istore_n (lv' := [(0, .int (((((a - (((a.toUInt32 >>> ((1 : Int32).toUInt32 &&& Int32.toUInt32 31)).toInt32) &&& 1431655765)) &&& 858993459) + ((((a - (((a.toUInt32 >>> ((1 : Int32).toUInt32 &&& Int32.toUInt32 31)).toInt32) &&& 1431655765)).toUInt32 >>> ((2 : Int32).toUInt32 &&& Int32.toUInt32 31)).toInt32) &&& 858993459)) + (((((a - (((a.toUInt32 >>> ((1 : Int32).toUInt32 &&& Int32.toUInt32 31)).toInt32) &&& 1431655765)) &&& 858993459) + ((((a - (((a.toUInt32 >>> ((1 : Int32).toUInt32 &&& Int32.toUInt32 31)).toInt32) &&& 1431655765)).toUInt32 >>> ((2 : Int32).toUInt32 &&& Int32.toUInt32 31)).toInt32) &&& 858993459)).toUInt32 >>> ((4 : Int32).toUInt32 &&& Int32.toUInt32 31)).toInt32)) &&& 252645135))]) hx hb dJ6_bitCount_0f7a4_33 rfl hl (by decide) rfl (fun ls hl => ?_)
  refine lv_iload_n hx hb dJ6_bitCount_0f7a4_34 rfl (lv_at hl 0 rfl) ?_
  refine lv_iload_n hx hb dJ6_bitCount_0f7a4_35 rfl (lv_at hl 0 rfl) ?_
  refine lv_bipush (v := 8) hx hb dJ6_bitCount_0f7a4_36 (by decide) ?_
  refine lv_iushr (v := ((((((a - (((a.toUInt32 >>> ((1 : Int32).toUInt32 &&& Int32.toUInt32 31)).toInt32) &&& 1431655765)) &&& 858993459) + ((((a - (((a.toUInt32 >>> ((1 : Int32).toUInt32 &&& Int32.toUInt32 31)).toInt32) &&& 1431655765)).toUInt32 >>> ((2 : Int32).toUInt32 &&& Int32.toUInt32 31)).toInt32) &&& 858993459)) + (((((a - (((a.toUInt32 >>> ((1 : Int32).toUInt32 &&& Int32.toUInt32 31)).toInt32) &&& 1431655765)) &&& 858993459) + ((((a - (((a.toUInt32 >>> ((1 : Int32).toUInt32 &&& Int32.toUInt32 31)).toInt32) &&& 1431655765)).toUInt32 >>> ((2 : Int32).toUInt32 &&& Int32.toUInt32 31)).toInt32) &&& 858993459)).toUInt32 >>> ((4 : Int32).toUInt32 &&& Int32.toUInt32 31)).toInt32)) &&& 252645135).toUInt32 >>> ((8 : Int32).toUInt32 &&& Int32.toUInt32 31)).toInt32) hx hb dJ6_bitCount_0f7a4_38 rfl ?_
  refine lv_iadd hx hb dJ6_bitCount_0f7a4_39 ?_
  refine lv_istore_n (lv' := [(0, .int ((((((a - (((a.toUInt32 >>> ((1 : Int32).toUInt32 &&& Int32.toUInt32 31)).toInt32) &&& 1431655765)) &&& 858993459) + ((((a - (((a.toUInt32 >>> ((1 : Int32).toUInt32 &&& Int32.toUInt32 31)).toInt32) &&& 1431655765)).toUInt32 >>> ((2 : Int32).toUInt32 &&& Int32.toUInt32 31)).toInt32) &&& 858993459)) + (((((a - (((a.toUInt32 >>> ((1 : Int32).toUInt32 &&& Int32.toUInt32 31)).toInt32) &&& 1431655765)) &&& 858993459) + ((((a - (((a.toUInt32 >>> ((1 : Int32).toUInt32 &&& Int32.toUInt32 31)).toInt32) &&& 1431655765)).toUInt32 >>> ((2 : Int32).toUInt32 &&& Int32.toUInt32 31)).toInt32) &&& 858993459)).toUInt32 >>> ((4 : Int32).toUInt32 &&& Int32.toUInt32 31)).toInt32)) &&& 252645135) + (((((((a - (((a.toUInt32 >>> ((1 : Int32).toUInt32 &&& Int32.toUInt32 31)).toInt32) &&& 1431655765)) &&& 858993459) + ((((a - (((a.toUInt32 >>> ((1 : Int32).toUInt32 &&& Int32.toUInt32 31)).toInt32) &&& 1431655765)).toUInt32 >>> ((2 : Int32).toUInt32 &&& Int32.toUInt32 31)).toInt32) &&& 858993459)) + (((((a - (((a.toUInt32 >>> ((1 : Int32).toUInt32 &&& Int32.toUInt32 31)).toInt32) &&& 1431655765)) &&& 858993459) + ((((a - (((a.toUInt32 >>> ((1 : Int32).toUInt32 &&& Int32.toUInt32 31)).toInt32) &&& 1431655765)).toUInt32 >>> ((2 : Int32).toUInt32 &&& Int32.toUInt32 31)).toInt32) &&& 858993459)).toUInt32 >>> ((4 : Int32).toUInt32 &&& Int32.toUInt32 31)).toInt32)) &&& 252645135).toUInt32 >>> ((8 : Int32).toUInt32 &&& Int32.toUInt32 31)).toInt32)))]) hx hb dJ6_bitCount_0f7a4_40 rfl hl (by decide) rfl (fun ls hl => ?_)
  refine lv_iload_n hx hb dJ6_bitCount_0f7a4_41 rfl (lv_at hl 0 rfl) ?_
  refine lv_iload_n hx hb dJ6_bitCount_0f7a4_42 rfl (lv_at hl 0 rfl) ?_
  refine lv_bipush (v := 16) hx hb dJ6_bitCount_0f7a4_43 (by decide) ?_
  refine lv_iushr (v := (((((((a - (((a.toUInt32 >>> ((1 : Int32).toUInt32 &&& Int32.toUInt32 31)).toInt32) &&& 1431655765)) &&& 858993459) + ((((a - (((a.toUInt32 >>> ((1 : Int32).toUInt32 &&& Int32.toUInt32 31)).toInt32) &&& 1431655765)).toUInt32 >>> ((2 : Int32).toUInt32 &&& Int32.toUInt32 31)).toInt32) &&& 858993459)) + (((((a - (((a.toUInt32 >>> ((1 : Int32).toUInt32 &&& Int32.toUInt32 31)).toInt32) &&& 1431655765)) &&& 858993459) + ((((a - (((a.toUInt32 >>> ((1 : Int32).toUInt32 &&& Int32.toUInt32 31)).toInt32) &&& 1431655765)).toUInt32 >>> ((2 : Int32).toUInt32 &&& Int32.toUInt32 31)).toInt32) &&& 858993459)).toUInt32 >>> ((4 : Int32).toUInt32 &&& Int32.toUInt32 31)).toInt32)) &&& 252645135) + (((((((a - (((a.toUInt32 >>> ((1 : Int32).toUInt32 &&& Int32.toUInt32 31)).toInt32) &&& 1431655765)) &&& 858993459) + ((((a - (((a.toUInt32 >>> ((1 : Int32).toUInt32 &&& Int32.toUInt32 31)).toInt32) &&& 1431655765)).toUInt32 >>> ((2 : Int32).toUInt32 &&& Int32.toUInt32 31)).toInt32) &&& 858993459)) + (((((a - (((a.toUInt32 >>> ((1 : Int32).toUInt32 &&& Int32.toUInt32 31)).toInt32) &&& 1431655765)) &&& 858993459) + ((((a - (((a.toUInt32 >>> ((1 : Int32).toUInt32 &&& Int32.toUInt32 31)).toInt32) &&& 1431655765)).toUInt32 >>> ((2 : Int32).toUInt32 &&& Int32.toUInt32 31)).toInt32) &&& 858993459)).toUInt32 >>> ((4 : Int32).toUInt32 &&& Int32.toUInt32 31)).toInt32)) &&& 252645135).toUInt32 >>> ((8 : Int32).toUInt32 &&& Int32.toUInt32 31)).toInt32)).toUInt32 >>> ((16 : Int32).toUInt32 &&& Int32.toUInt32 31)).toInt32) hx hb dJ6_bitCount_0f7a4_45 rfl ?_
  refine lv_iadd hx hb dJ6_bitCount_0f7a4_46 ?_
  refine lv_istore_n (lv' := [(0, .int (((((((a - (((a.toUInt32 >>> ((1 : Int32).toUInt32 &&& Int32.toUInt32 31)).toInt32) &&& 1431655765)) &&& 858993459) + ((((a - (((a.toUInt32 >>> ((1 : Int32).toUInt32 &&& Int32.toUInt32 31)).toInt32) &&& 1431655765)).toUInt32 >>> ((2 : Int32).toUInt32 &&& Int32.toUInt32 31)).toInt32) &&& 858993459)) + (((((a - (((a.toUInt32 >>> ((1 : Int32).toUInt32 &&& Int32.toUInt32 31)).toInt32) &&& 1431655765)) &&& 858993459) + ((((a - (((a.toUInt32 >>> ((1 : Int32).toUInt32 &&& Int32.toUInt32 31)).toInt32) &&& 1431655765)).toUInt32 >>> ((2 : Int32).toUInt32 &&& Int32.toUInt32 31)).toInt32) &&& 858993459)).toUInt32 >>> ((4 : Int32).toUInt32 &&& Int32.toUInt32 31)).toInt32)) &&& 252645135) + (((((((a - (((a.toUInt32 >>> ((1 : Int32).toUInt32 &&& Int32.toUInt32 31)).toInt32) &&& 1431655765)) &&& 858993459) + ((((a - (((a.toUInt32 >>> ((1 : Int32).toUInt32 &&& Int32.toUInt32 31)).toInt32) &&& 1431655765)).toUInt32 >>> ((2 : Int32).toUInt32 &&& Int32.toUInt32 31)).toInt32) &&& 858993459)) + (((((a - (((a.toUInt32 >>> ((1 : Int32).toUInt32 &&& Int32.toUInt32 31)).toInt32) &&& 1431655765)) &&& 858993459) + ((((a - (((a.toUInt32 >>> ((1 : Int32).toUInt32 &&& Int32.toUInt32 31)).toInt32) &&& 1431655765)).toUInt32 >>> ((2 : Int32).toUInt32 &&& Int32.toUInt32 31)).toInt32) &&& 858993459)).toUInt32 >>> ((4 : Int32).toUInt32 &&& Int32.toUInt32 31)).toInt32)) &&& 252645135).toUInt32 >>> ((8 : Int32).toUInt32 &&& Int32.toUInt32 31)).toInt32)) + ((((((((a - (((a.toUInt32 >>> ((1 : Int32).toUInt32 &&& Int32.toUInt32 31)).toInt32) &&& 1431655765)) &&& 858993459) + ((((a - (((a.toUInt32 >>> ((1 : Int32).toUInt32 &&& Int32.toUInt32 31)).toInt32) &&& 1431655765)).toUInt32 >>> ((2 : Int32).toUInt32 &&& Int32.toUInt32 31)).toInt32) &&& 858993459)) + (((((a - (((a.toUInt32 >>> ((1 : Int32).toUInt32 &&& Int32.toUInt32 31)).toInt32) &&& 1431655765)) &&& 858993459) + ((((a - (((a.toUInt32 >>> ((1 : Int32).toUInt32 &&& Int32.toUInt32 31)).toInt32) &&& 1431655765)).toUInt32 >>> ((2 : Int32).toUInt32 &&& Int32.toUInt32 31)).toInt32) &&& 858993459)).toUInt32 >>> ((4 : Int32).toUInt32 &&& Int32.toUInt32 31)).toInt32)) &&& 252645135) + (((((((a - (((a.toUInt32 >>> ((1 : Int32).toUInt32 &&& Int32.toUInt32 31)).toInt32) &&& 1431655765)) &&& 858993459) + ((((a - (((a.toUInt32 >>> ((1 : Int32).toUInt32 &&& Int32.toUInt32 31)).toInt32) &&& 1431655765)).toUInt32 >>> ((2 : Int32).toUInt32 &&& Int32.toUInt32 31)).toInt32) &&& 858993459)) + (((((a - (((a.toUInt32 >>> ((1 : Int32).toUInt32 &&& Int32.toUInt32 31)).toInt32) &&& 1431655765)) &&& 858993459) + ((((a - (((a.toUInt32 >>> ((1 : Int32).toUInt32 &&& Int32.toUInt32 31)).toInt32) &&& 1431655765)).toUInt32 >>> ((2 : Int32).toUInt32 &&& Int32.toUInt32 31)).toInt32) &&& 858993459)).toUInt32 >>> ((4 : Int32).toUInt32 &&& Int32.toUInt32 31)).toInt32)) &&& 252645135).toUInt32 >>> ((8 : Int32).toUInt32 &&& Int32.toUInt32 31)).toInt32)).toUInt32 >>> ((16 : Int32).toUInt32 &&& Int32.toUInt32 31)).toInt32)))]) hx hb dJ6_bitCount_0f7a4_47 rfl hl (by decide) rfl (fun ls hl => ?_)
  refine lv_iload_n hx hb dJ6_bitCount_0f7a4_48 rfl (lv_at hl 0 rfl) ?_
  refine lv_bipush (v := 63) hx hb dJ6_bitCount_0f7a4_49 (by decide) ?_
  refine lv_iand hx hb dJ6_bitCount_0f7a4_51 ?_
  subst hQ
  exact g_iret hE hG hr (Nat.le_of_ble_eq_true rfl) (Nat.le_of_ble_eq_true rfl) dJ6_bitCount_0f7a4_52 ⟨by unfold f_bc; rfl, rfl⟩
def f_mp (g : Int32) : Nat → Int32
  | 0 => 0
  | k + 1 => if (g >>> (nI k &&& 31)) &&& 1 = 0 then f_mp g k else (if f_mp g k < f_bc (nI k) then f_bc (nI k) else f_mp g k)
abbrev rm_X5_mostParts : Room := { frames := 2, cells := 0, slots := 0, locals := 86 }
theorem nm_X5_mostParts : gNm yX5_mostParts 1 := ⟨by decide +kernel, by decide +kernel, by decide +kernel⟩
set_option maxHeartbeats 4000000 in
set_option maxRecDepth 100000 in
theorem c_X5_mostParts (l : Launch) (hfl : l.stackTraces = false) (D : va_G) (tc : Nat → ClassId) (A : Nat → Prop) (w : gW) (g : Int32) : gM l yX5_mostParts cX5_mostParts 3 (some .int) rm_X5_mostParts D tc A [.int g] w (fun v w' => v = some (.int (f_mp g 16)) ∧ w' = w) (fun _ => False) := by
  refine gM_of (by decide +kernel) (Nat.le_of_ble_eq_true rfl) ?_
  intro p e s m args below meth c ls Q hQ hE hG hr hnt hnm hl
  have hx := hE.1
  have hb := hE.2.1
  have hl : lv_has ls 3 [(0, .int g)] := hl
  refine lv_iconst (v := 0) hx hb dX5_mostParts_0 (by decide) ?_
  refine lv_istore_n (lv' := [(1, .int 0), (0, .int g)]) hx hb dX5_mostParts_1 rfl hl (by decide) rfl (fun ls hl => ?_)
  refine lv_iconst (v := 0) hx hb dX5_mostParts_2 (by decide) ?_
  refine lv_istore_n (lv' := [(2, .int 0), (1, .int 0), (0, .int g)]) hx hb dX5_mostParts_3 rfl hl (by decide) rfl (fun ls hl => ?_)
  have hl : lv_has ls 3 [(2, .int (nI (16 - 16))), (1, .int (f_mp g (16 - 16))), (0, .int g)] := by rw [Nat.sub_self]; exact hl
  have hloop_3 : ∀ (k_1 : Nat) (H : Heap) (locs : List Loc) (ls : Array Slot), k_1 ≤ 16 → gS D A s.heap w H locs → lv_has ls 3 [(2, .int (nI (16 - k_1))), (1, .int (f_mp g (16 - k_1))), (0, .int g)] → W p l e rm_X5_mostParts s m args below meth c H locs 0 0 Q (F0 m 4 ls []) := by
    intro k_1
    induction k_1 with
    | zero =>
      intro H locs ls hk_2 hG hl
      refine lv_iload_n hx hb dX5_mostParts_4 rfl (lv_at hl 0 rfl) ?_
      refine lv_bipush (v := 15) hx hb dX5_mostParts_5 (by decide) ?_
      refine lv_icmp_gt (tgt := 33) hx hb dX5_mostParts_7 (by decide) (fun c9 => ?_) (fun c9 => (c9 (nI_lt (a := 15) (by omega) (by omega))).elim)
      refine lv_iload_n hx hb dX5_mostParts_33 rfl (lv_at hl 1 rfl) ?_
      subst hQ
      exact g_iret hE hG hr (Nat.le_of_ble_eq_true rfl) (Nat.le_of_ble_eq_true rfl) dX5_mostParts_34 ⟨rfl, rfl⟩
    | succ k_1 ihk_1 =>
      intro H locs ls hk_2 hG hl
      refine lv_iload_n hx hb dX5_mostParts_4 rfl (lv_at hl 0 rfl) ?_
      refine lv_bipush (v := 15) hx hb dX5_mostParts_5 (by decide) ?_
      refine lv_icmp_gt (tgt := 33) hx hb dX5_mostParts_7 (by decide) (fun c9 => absurd c9 (nI_nlt (a := 15) (by omega) (by omega))) (fun c9 => ?_)
      refine lv_iload_n hx hb dX5_mostParts_10 rfl (lv_at hl 2 rfl) ?_
      refine lv_iload_n hx hb dX5_mostParts_11 rfl (lv_at hl 0 rfl) ?_
      refine lv_ishr hx hb dX5_mostParts_12 ?_
      refine lv_iconst (v := 1) hx hb dX5_mostParts_13 (by decide) ?_
      refine lv_iand hx hb dX5_mostParts_14 ?_
      refine lv_if_eq (tgt := 27) hx hb dX5_mostParts_15 (by decide) (fun c_4 => ?_) (fun c_4 => ?_)
      · skip
        refine lv_iinc (v := (nI (16 - k_1))) (lv' := [(2, .int (nI (16 - k_1))), (1, .int (f_mp g (16 - (k_1 + 1)))), (0, .int g)]) hx hb dX5_mostParts_27 hl (k := 0) rfl (by rw [show 16 - k_1 = (16 - (k_1 + 1)) + 1 by omega]; exact nI_1 _) (by decide) rfl (fun ls hl => ?_)
        refine lv_goto (tgt := 4) hx hb dX5_mostParts_30 (by decide) ?_
        have hl : lv_has ls 3 [(2, .int (nI (16 - k_1))), (1, .int (f_mp g (16 - k_1))), (0, .int g)] := by rw [show 16 - k_1 = (16 - (k_1 + 1)) + 1 by omega] at hl ⊢; show lv_has _ _ [(2, _), (1, Value.int (if _ then _ else _)), (0, _)]; rw [if_pos c_4]; exact hl
        exact ihk_1 _ _ _ (by omega) hG (lv_sub hl [0, 1, 2] rfl)
      · skip
        refine lv_iload_n hx hb dX5_mostParts_18 rfl (lv_at hl 1 rfl) ?_
        refine lv_iload_n hx hb dX5_mostParts_19 rfl (lv_at hl 0 rfl) ?_
        refine g_callS (rest := [.int (f_mp g (16 - (k_1 + 1)))]) (As := [.int (nI (16 - (k_1 + 1)))]) hE hG hl.1 (c_J6_bitCount_0f7a4 l hfl D tc A w (nI (16 - (k_1 + 1))) ) mw3_146 mw3_147 mw1_14 mw3_148 nm_J6_bitCount_0f7a4 ⟨⟨Nat.le_of_ble_eq_true rfl, Nat.le_of_ble_eq_true rfl⟩, Nat.le_of_ble_eq_true rfl, Nat.le_of_ble_eq_true rfl⟩ rfl rfl (Nat.le_of_ble_eq_true rfl) dX5_mostParts_20 (g_no) ?_
        intro v9 w9 H locs h9 hG
        obtain ⟨e9, f9⟩ := h9
        rw [f9] at hG; rw [e9]; clear e9 f9
        show W p l e _ s m args below meth c H locs _ _ _ (F0 m 23 ls [.int (f_bc (nI (16 - (k_1 + 1)))), .int (f_mp g (16 - (k_1 + 1)))])
        refine va_mmax hx hb (hE.2.2.1.trans hl.1.symm) hE.2.2.2.1 (hE.2.2.2.2.1 _ mw3_152) (hE.2.2.2.2.1 _ mw2_33) (hE.2.2.2.2.1 _ mw1_12) (hE.2.2.2.2.1 _ mw2_34) (Nat.le_of_ble_eq_true rfl) (Nat.le_of_ble_eq_true rfl) (Nat.le_of_ble_eq_true rfl) (Nat.le_of_ble_eq_true rfl) dX5_mostParts_23 ?_
        refine lv_istore_n (lv' := [(1, .int (if (f_mp g (16 - (k_1 + 1))) < (f_bc (nI (16 - (k_1 + 1)))) then (f_bc (nI (16 - (k_1 + 1)))) else (f_mp g (16 - (k_1 + 1))))), (2, .int (nI (16 - (k_1 + 1)))), (0, .int g)]) hx hb dX5_mostParts_26 rfl hl (by decide) rfl (fun ls hl => ?_)
        refine lv_iinc (v := (nI (16 - k_1))) (lv' := [(2, .int (nI (16 - k_1))), (1, .int (if (f_mp g (16 - (k_1 + 1))) < (f_bc (nI (16 - (k_1 + 1)))) then (f_bc (nI (16 - (k_1 + 1)))) else (f_mp g (16 - (k_1 + 1))))), (0, .int g)]) hx hb dX5_mostParts_27 hl (k := 1) rfl (by rw [show 16 - k_1 = (16 - (k_1 + 1)) + 1 by omega]; exact nI_1 _) (by decide) rfl (fun ls hl => ?_)
        refine lv_goto (tgt := 4) hx hb dX5_mostParts_30 (by decide) ?_
        have hl : lv_has ls 3 [(2, .int (nI (16 - k_1))), (1, .int (f_mp g (16 - k_1))), (0, .int g)] := by rw [show 16 - k_1 = (16 - (k_1 + 1)) + 1 by omega] at hl ⊢; show lv_has _ _ [(2, _), (1, Value.int (if _ then _ else _)), (0, _)]; rw [if_neg c_4]; exact hl
        exact ihk_1 _ _ _ (by omega) hG (lv_sub hl [0, 1, 2] rfl)
  exact hloop_3 16 _ _ _ (Nat.le_refl _) hG (lv_sub hl [0, 1, 2] rfl)
def f_wI (a s : Int32) (c : Int32) : Nat → Int32
  | 0 => c
  | k + 1 => if (a >>> (nI k &&& 31)) &&& 1 = 0 then f_wI a s c k else f_wI a s c k ||| ((1 : Int32) <<< ((s ||| ((1 : Int32) <<< (nI k &&& 31))) &&& 31))
def f_wO (g a : Int32) : Nat → Int32
  | 0 => g
  | k + 1 => if (g >>> (nI k &&& 31)) &&& 1 = 0 then f_wO g a k else f_wI a (nI k) (f_wO g a k) 4
abbrev rm_X5_withOnePlayerMore : Room := { frames := 1, cells := 0, slots := 0, locals := 50 }
theorem nm_X5_withOnePlayerMore : gNm yX5_withOnePlayerMore 2 := ⟨by decide +kernel, by decide +kernel, by decide +kernel⟩
set_option maxHeartbeats 4000000 in
set_option maxRecDepth 100000 in
theorem c_X5_withOnePlayerMore (l : Launch) (hfl : l.stackTraces = false) (D : va_G) (tc : Nat → ClassId) (A : Nat → Prop) (w : gW) (g : Int32) (a : Int32) : gM l yX5_withOnePlayerMore cX5_withOnePlayerMore 5 (some .int) rm_X5_withOnePlayerMore D tc A [.int g, .int a] w (fun v w' => v = some (.int (f_wO g a 16)) ∧ w' = w) (fun _ => False) := by
  refine gM_of (by decide +kernel) (Nat.le_of_ble_eq_true rfl) ?_
  intro p e s m args below meth c ls Q hQ hE hG hr hnt hnm hl
  have hx := hE.1
  have hb := hE.2.1
  have hl : lv_has ls 5 [(0, .int g), (1, .int a)] := hl
  refine lv_iload_n hx hb dX5_withOnePlayerMore_0 rfl (lv_at hl 0 rfl) ?_
  refine lv_istore_n (lv' := [(2, .int g), (0, .int g), (1, .int a)]) hx hb dX5_withOnePlayerMore_1 rfl hl (by decide) rfl (fun ls hl => ?_)
  refine lv_iconst (v := 0) hx hb dX5_withOnePlayerMore_2 (by decide) ?_
  refine lv_istore_n (lv' := [(3, .int 0), (2, .int g), (0, .int g), (1, .int a)]) hx hb dX5_withOnePlayerMore_3 rfl hl (by decide) rfl (fun ls hl => ?_)
  have hl : lv_has ls 5 [(3, .int (nI (16 - 16))), (2, .int (f_wO g a (16 - 16))), (0, .int g), (1, .int a)] := by rw [Nat.sub_self]; exact hl
  have hloop_3 : ∀ (k_1 : Nat) (H : Heap) (locs : List Loc) (ls : Array Slot), k_1 ≤ 16 → gS D A s.heap w H locs → lv_has ls 5 [(3, .int (nI (16 - k_1))), (2, .int (f_wO g a (16 - k_1))), (0, .int g), (1, .int a)] → W p l e rm_X5_withOnePlayerMore s m args below meth c H locs 0 0 Q (F0 m 4 ls []) := by
    intro k_1
    induction k_1 with
    | zero =>
      intro H locs ls hk_2 hG hl
      refine lv_iload_n hx hb dX5_withOnePlayerMore_4 rfl (lv_at hl 0 rfl) ?_
      refine lv_bipush (v := 15) hx hb dX5_withOnePlayerMore_5 (by decide) ?_
      refine lv_icmp_gt (tgt := 59) hx hb dX5_withOnePlayerMore_7 (by decide) (fun c9 => ?_) (fun c9 => (c9 (nI_lt (a := 15) (by omega) (by omega))).elim)
      refine lv_iload_n hx hb dX5_withOnePlayerMore_59 rfl (lv_at hl 1 rfl) ?_
      subst hQ
      exact g_iret hE hG hr (Nat.le_of_ble_eq_true rfl) (Nat.le_of_ble_eq_true rfl) dX5_withOnePlayerMore_60 ⟨rfl, rfl⟩
    | succ k_1 ihk_1 =>
      intro H locs ls hk_2 hG hl
      refine lv_iload_n hx hb dX5_withOnePlayerMore_4 rfl (lv_at hl 0 rfl) ?_
      refine lv_bipush (v := 15) hx hb dX5_withOnePlayerMore_5 (by decide) ?_
      refine lv_icmp_gt (tgt := 59) hx hb dX5_withOnePlayerMore_7 (by decide) (fun c9 => absurd c9 (nI_nlt (a := 15) (by omega) (by omega))) (fun c9 => ?_)
      refine lv_iload_n hx hb dX5_withOnePlayerMore_10 rfl (lv_at hl 2 rfl) ?_
      refine lv_iload_n hx hb dX5_withOnePlayerMore_11 rfl (lv_at hl 0 rfl) ?_
      refine lv_ishr hx hb dX5_withOnePlayerMore_12 ?_
      refine lv_iconst (v := 1) hx hb dX5_withOnePlayerMore_13 (by decide) ?_
      refine lv_iand hx hb dX5_withOnePlayerMore_14 ?_
      refine lv_if_eq (tgt := 53) hx hb dX5_withOnePlayerMore_15 (by decide) (fun c_4 => ?_) (fun c_4 => ?_)
      · skip
        refine lv_iinc (v := (nI (16 - k_1))) (lv' := [(3, .int (nI (16 - k_1))), (2, .int (f_wO g a (16 - (k_1 + 1)))), (0, .int g), (1, .int a)]) hx hb dX5_withOnePlayerMore_53 hl (k := 0) rfl (by rw [show 16 - k_1 = (16 - (k_1 + 1)) + 1 by omega]; exact nI_1 _) (by decide) rfl (fun ls hl => ?_)
        refine lv_goto (tgt := 4) hx hb dX5_withOnePlayerMore_56 (by decide) ?_
        have hl : lv_has ls 5 [(3, .int (nI (16 - k_1))), (2, .int (f_wO g a (16 - k_1))), (0, .int g), (1, .int a)] := by rw [show 16 - k_1 = (16 - (k_1 + 1)) + 1 by omega] at hl ⊢; show lv_has _ _ [(3, _), (2, Value.int (if _ then _ else _)), (0, _), (1, _)]; rw [if_pos c_4]; exact hl
        exact ihk_1 _ _ _ (by omega) hG (lv_sub hl [0, 1, 2, 3] rfl)
      · skip
        refine lv_iconst (v := 0) hx hb dX5_withOnePlayerMore_18 (by decide) ?_
        refine lv_istore (lv' := [(4, .int 0), (3, .int (nI (16 - (k_1 + 1)))), (2, .int (f_wO g a (16 - (k_1 + 1)))), (0, .int g), (1, .int a)]) hx hb dX5_withOnePlayerMore_19 hl (by decide) rfl (fun ls hl => ?_)
        have hl : lv_has ls 5 [(4, .int (nI (4 - 4))), (3, .int (nI (16 - (k_1 + 1)))), (2, .int (f_wI a (nI (16 - (k_1 + 1))) (f_wO g a (16 - (k_1 + 1))) (4 - 4))), (0, .int g), (1, .int a)] := by rw [Nat.sub_self]; exact hl
        have hloop_7 : ∀ (k_5 : Nat) (H : Heap) (locs : List Loc) (ls : Array Slot), k_5 ≤ 4 → gS D A s.heap w H locs → lv_has ls 5 [(4, .int (nI (4 - k_5))), (2, .int (f_wI a (nI (16 - (k_1 + 1))) (f_wO g a (16 - (k_1 + 1))) (4 - k_5))), (3, .int (nI (16 - (k_1 + 1)))), (0, .int g), (1, .int a)] → W p l e rm_X5_withOnePlayerMore s m args below meth c H locs 0 0 Q (F0 m 21 ls []) := by
          intro k_5
          induction k_5 with
          | zero =>
            intro H locs ls hk_6 hG hl
            refine lv_iload hx hb dX5_withOnePlayerMore_21 (lv_at hl 0 rfl) ?_
            refine lv_iconst (v := 4) hx hb dX5_withOnePlayerMore_23 (by decide) ?_
            refine lv_icmp_ge (tgt := 53) hx hb dX5_withOnePlayerMore_24 (by decide) (fun c9 => ?_) (fun c9 => (c9 (nI_le (a := 4) (by omega) (by omega))).elim)
            refine lv_iinc (v := (nI (16 - k_1))) (lv' := [(3, .int (nI (16 - k_1))), (4, .int (nI (4 - 0))), (2, .int (f_wI a (nI (16 - (k_1 + 1))) (f_wO g a (16 - (k_1 + 1))) (4 - 0))), (0, .int g), (1, .int a)]) hx hb dX5_withOnePlayerMore_53 hl (k := 2) rfl (by rw [show 16 - k_1 = (16 - (k_1 + 1)) + 1 by omega]; exact nI_1 _) (by decide) rfl (fun ls hl => ?_)
            refine lv_goto (tgt := 4) hx hb dX5_withOnePlayerMore_56 (by decide) ?_
            have hl : lv_has ls 5 [(3, .int (nI (16 - k_1))), (4, .int (nI (4 - 0))), (2, .int (f_wO g a (16 - k_1))), (0, .int g), (1, .int a)] := by rw [show 16 - k_1 = (16 - (k_1 + 1)) + 1 by omega] at hl ⊢; show lv_has _ _ [(3, _), (4, _), (2, Value.int (if _ then _ else _)), (0, _), (1, _)]; rw [if_neg c_4]; exact hl
            exact ihk_1 _ _ _ (by omega) hG (lv_sub hl [0, 2, 3, 4] rfl)
          | succ k_5 ihk_5 =>
            intro H locs ls hk_6 hG hl
            refine lv_iload hx hb dX5_withOnePlayerMore_21 (lv_at hl 0 rfl) ?_
            refine lv_iconst (v := 4) hx hb dX5_withOnePlayerMore_23 (by decide) ?_
            refine lv_icmp_ge (tgt := 53) hx hb dX5_withOnePlayerMore_24 (by decide) (fun c9 => absurd c9 (nI_ge (b := 4) (by omega) (by omega))) (fun c9 => ?_)
            refine lv_iload_n hx hb dX5_withOnePlayerMore_27 rfl (lv_at hl 4 rfl) ?_
            refine lv_iload hx hb dX5_withOnePlayerMore_28 (lv_at hl 0 rfl) ?_
            refine lv_ishr hx hb dX5_withOnePlayerMore_30 ?_
            refine lv_iconst (v := 1) hx hb dX5_withOnePlayerMore_31 (by decide) ?_
            refine lv_iand hx hb dX5_withOnePlayerMore_32 ?_
            refine lv_if_eq (tgt := 47) hx hb dX5_withOnePlayerMore_33 (by decide) (fun c_8 => ?_) (fun c_8 => ?_)
            · skip
              refine lv_iinc (v := (nI (4 - k_5))) (lv' := [(4, .int (nI (4 - k_5))), (2, .int (f_wI a (nI (16 - (k_1 + 1))) (f_wO g a (16 - (k_1 + 1))) (4 - (k_5 + 1)))), (3, .int (nI (16 - (k_1 + 1)))), (0, .int g), (1, .int a)]) hx hb dX5_withOnePlayerMore_47 hl (k := 0) rfl (by rw [show 4 - k_5 = (4 - (k_5 + 1)) + 1 by omega]; exact nI_1 _) (by decide) rfl (fun ls hl => ?_)
              refine lv_goto (tgt := 21) hx hb dX5_withOnePlayerMore_50 (by decide) ?_
              have hl : lv_has ls 5 [(4, .int (nI (4 - k_5))), (2, .int (f_wI a (nI (16 - (k_1 + 1))) (f_wO g a (16 - (k_1 + 1))) (4 - k_5))), (3, .int (nI (16 - (k_1 + 1)))), (0, .int g), (1, .int a)] := by rw [show 4 - k_5 = (4 - (k_5 + 1)) + 1 by omega] at hl ⊢; show lv_has _ _ [(4, _), (2, Value.int (if _ then _ else _)), (3, _), (0, _), (1, _)]; rw [if_pos c_8]; exact hl
              exact ihk_5 _ _ _ (by omega) hG (lv_sub hl [0, 1, 2, 3, 4] rfl)
            · skip
              refine lv_iload_n hx hb dX5_withOnePlayerMore_36 rfl (lv_at hl 1 rfl) ?_
              refine lv_iconst (v := 1) hx hb dX5_withOnePlayerMore_37 (by decide) ?_
              refine lv_iload_n hx hb dX5_withOnePlayerMore_38 rfl (lv_at hl 2 rfl) ?_
              refine lv_iconst (v := 1) hx hb dX5_withOnePlayerMore_39 (by decide) ?_
              refine lv_iload hx hb dX5_withOnePlayerMore_40 (lv_at hl 0 rfl) ?_
              refine lv_ishl hx hb dX5_withOnePlayerMore_42 ?_
              refine lv_ior hx hb dX5_withOnePlayerMore_43 ?_
              refine lv_ishl hx hb dX5_withOnePlayerMore_44 ?_
              refine lv_ior hx hb dX5_withOnePlayerMore_45 ?_
              refine lv_istore_n (lv' := [(2, .int ((f_wI a (nI (16 - (k_1 + 1))) (f_wO g a (16 - (k_1 + 1))) (4 - (k_5 + 1))) ||| ((1 : Int32) <<< (((nI (16 - (k_1 + 1))) ||| ((1 : Int32) <<< ((nI (4 - (k_5 + 1))) &&& 31))) &&& 31)))), (4, .int (nI (4 - (k_5 + 1)))), (3, .int (nI (16 - (k_1 + 1)))), (0, .int g), (1, .int a)]) hx hb dX5_withOnePlayerMore_46 rfl hl (by decide) rfl (fun ls hl => ?_)
              refine lv_iinc (v := (nI (4 - k_5))) (lv' := [(4, .int (nI (4 - k_5))), (2, .int ((f_wI a (nI (16 - (k_1 + 1))) (f_wO g a (16 - (k_1 + 1))) (4 - (k_5 + 1))) ||| ((1 : Int32) <<< (((nI (16 - (k_1 + 1))) ||| ((1 : Int32) <<< ((nI (4 - (k_5 + 1))) &&& 31))) &&& 31)))), (3, .int (nI (16 - (k_1 + 1)))), (0, .int g), (1, .int a)]) hx hb dX5_withOnePlayerMore_47 hl (k := 1) rfl (by rw [show 4 - k_5 = (4 - (k_5 + 1)) + 1 by omega]; exact nI_1 _) (by decide) rfl (fun ls hl => ?_)
              refine lv_goto (tgt := 21) hx hb dX5_withOnePlayerMore_50 (by decide) ?_
              have hl : lv_has ls 5 [(4, .int (nI (4 - k_5))), (2, .int (f_wI a (nI (16 - (k_1 + 1))) (f_wO g a (16 - (k_1 + 1))) (4 - k_5))), (3, .int (nI (16 - (k_1 + 1)))), (0, .int g), (1, .int a)] := by rw [show 4 - k_5 = (4 - (k_5 + 1)) + 1 by omega] at hl ⊢; show lv_has _ _ [(4, _), (2, Value.int (if _ then _ else _)), (3, _), (0, _), (1, _)]; rw [if_neg c_8]; exact hl
              exact ihk_5 _ _ _ (by omega) hG (lv_sub hl [0, 1, 2, 3, 4] rfl)
        exact hloop_7 4 _ _ _ (Nat.le_refl _) hG (lv_sub hl [0, 2, 1, 3, 4] rfl)
  exact hloop_3 16 _ _ _ (Nat.le_refl _) hG (lv_sub hl [0, 1, 2, 3] rfl)
