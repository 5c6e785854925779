/-! Melody(), Piece, Player -/
abbrev rm_X1_init : Room := { frames := 2, cells := 1, slots := 64, locals := 86 }
theorem nm_X1_init : gNm yX1_init 1 := ⟨by decide +kernel, by decide +kernel, by decide +kernel⟩
set_option maxHeartbeats 4000000 in
set_option maxRecDepth 100000 in
theorem c_X1_init (l : Launch) (hfl : l.stackTraces = false) (D : va_G) (tc : Nat → ClassId) (A : Nat → Prop) (w : gW) (k0 : Nat) (k1 : Nat) (h0 : Nat) (n : Nat) (h1 : w k0 = some (h0, .inr (1, [.null]))) (hf : w k1 = none) (hn : n ≤ 64) : gM l yX1_init cX1_init 2 none rm_X1_init D tc A [.ref h0, .int (nI n)] w (fun v w' => v = none ∧ ∃ t : Nat, w' = gU (gU w k1 (t, .inl (tc 0, n, .inl (fun _ => 0)))) k0 (h0, .inr (1, [.ref t]))) (fun _ => False) := by
  refine gM_of (by decide +kernel) (Nat.le_of_ble_eq_true rfl) ?_
  intro p e s m args below meth c ls Q hQ hE hG hr hnt hnm hl
  have hx := hE.1
  have hb := hE.2.1
  have hl : lv_has ls 2 [(0, .ref h0), (1, .int (nI n))] := hl
  refine lv_aload_n hx hb dX1_init_0 rfl (lv_at hl 0 rfl) ?_
  refine W.objInit hx hb hE.2.2.2.1 (hE.2.2.2.2.1 _ mw2_31) (hE.2.2.2.2.1 _ mw1_30) (hE.2.2.2.2.1 _ mw1_31) rfl (by rw [hE.2.2.1]; exact hl.1) rfl dX1_init_1 (Nat.le_of_ble_eq_true rfl) (Nat.le_of_ble_eq_true rfl) ?_
  refine W.eq (g2 := F0 m 4 ls []) rfl ?_
  refine lv_aload_n hx hb dX1_init_4 rfl (lv_at hl 0 rfl) ?_
  refine lv_iload_n hx hb dX1_init_5 rfl (lv_at hl 1 rfl) ?_
  refine lv_iconst (v := 0) hx hb dX1_init_6 (by decide) ?_
  refine va_mmax hx hb (hE.2.2.1.trans hl.1.symm) hE.2.2.2.1 (hE.2.2.2.2.1 _ mw2_32) (hE.2.2.2.2.1 _ mw2_33) (hE.2.2.2.2.1 _ mw1_12) (hE.2.2.2.2.1 _ mw2_34) (Nat.le_of_ble_eq_true rfl) (Nat.le_of_ble_eq_true rfl) (Nat.le_of_ble_eq_true rfl) (Nat.le_of_ble_eq_true rfl) dX1_init_7 ?_
  rw [if_neg (nI_pos (by omega))]
  refine g_newi (atype := .int) (t0 := 0) (ty := .int) (a0 := (n, .inl (fun _ => 0))) (N' := n) hE hG mw1_81 rfl rfl (fun _ _ h => h) (fun _ => by first | rfl | simp [vp_cell_i, vp_cell_l, defaultValue]) (nI_pos (by omega)) (nI_clamp (by omega)) (by show n * 4 ≤ _; omega) (Nat.le_of_ble_eq_true rfl) (by show 0 + n ≤ 64; omega) k1 hf dX1_init_10 (fun q_1 H w_2 ew_2 hG => ?_)
  have h_3 : w_2 k0 = some (h0, .inr (1, [.null])) := gU_n ew_2 (gU_f hf h1) h1
  have h_4 : w_2 k1 = some (q_1, .inl (tc 0, n, .inl (fun _ => 0))) := gU_s ew_2
  refine W.widen (k := 1) (n := 64) (by decide) (by omega) ?_
  refine g_putF hE hG h_3 rfl inG1 tyX1 tyX1_ok nmX1 0 (by decide) mw2_35 rfl ((hnm _).mpr rfl) rfl rfl rfl (Nat.le_of_ble_eq_true rfl) dX1_init_12 (fun H locs w_5 ew_5 hG => ?_)
  have h_6 : w_5 k1 = some (q_1, .inl (tc 0, n, .inl (fun _ => 0))) := gU_n ew_5 (gU_k h_3 h_4 (by first | (intro h9; cases h9; done) | simp)) h_4
  have h_7 : w_5 k0 = some (h0, .inr (1, [.ref q_1])) := gU_s ew_5
  subst hQ
  exact g_vret hE hG hr (Nat.le_of_ble_eq_true rfl) (Nat.le_of_ble_eq_true rfl) dX1_init_15 ⟨rfl, q_1, by rw [ew_5, ew_2] <;> rfl⟩
theorem pc_w {w : gW} {k0 k1 k2 : Nat} {x0 x1 x2 y0 y1 : Nat × va_E} (h12 : k1 ≠ k2) (h01 : k0 ≠ k1) (h02 : k0 ≠ k2) : gU (gU (gU (gU (gU w k0 x0) k1 x1) k2 x2) k1 y1) k0 y0 = gU (gU (gU w k2 x2) k1 y1) k0 y0 := by
  funext j
  by_cases a0 : j = k0
  · subst a0; rw [gU_same, gU_same]
  · by_cases a1 : j = k1
    · subst a1; rw [gU_ne _ _ a0, gU_same, gU_ne _ _ a0, gU_same]
    · by_cases a2 : j = k2
      · subst a2; rw [gU_ne _ _ a0, gU_ne _ _ a1, gU_same, gU_ne _ _ a0, gU_ne _ _ a1, gU_same]
      · rw [gU_ne _ _ a0, gU_ne _ _ a1, gU_ne _ _ a2, gU_ne _ _ a1, gU_ne _ _ a0, gU_ne _ _ a0, gU_ne _ _ a1, gU_ne _ _ a2]
abbrev rm_X2_init : Room := { frames := 3, cells := 2, slots := 65, locals := 122 }
theorem nm_X2_init : gNm yX2_init 1 := ⟨by decide +kernel, by decide +kernel, by decide +kernel⟩
set_option maxHeartbeats 4000000 in
set_option maxRecDepth 100000 in
theorem c_X2_init (l : Launch) (hfl : l.stackTraces = false) (D : va_G) (tc : Nat → ClassId) (A : Nat → Prop) (w : gW) (k0 : Nat) (k1 : Nat) (k2 : Nat) (h0 : Nat) (n : Nat) (h1 : w k0 = some (h0, .inr (2, [.null, .int 0]))) (hf : w k1 = none) (hf2 : w k2 = none) (hkk : k1 ≠ k2) (hn : n ≤ 64) : gM l yX2_init cX2_init 2 none rm_X2_init D tc A [.ref h0, .int (nI n)] w (fun v w' => v = none ∧ ∃ a t : Nat, w' = gU (gU (gU w k2 (t, .inl (tc 0, n, .inl (fun _ => 0)))) k1 (a, .inr (1, [.ref t]))) k0 (h0, .inr (2, [.ref a, .int 0]))) (fun _ => False) := by
  refine gM_of (by decide +kernel) (Nat.le_of_ble_eq_true rfl) ?_
  intro p e s m args below meth c ls Q hQ hE hG hr hnt hnm hl
  have hx := hE.1
  have hb := hE.2.1
  have hl : lv_has ls 2 [(0, .ref h0), (1, .int (nI n))] := hl
  refine lv_aload_n hx hb dX2_init_0 rfl (lv_at hl 0 rfl) ?_
  refine W.objInit hx hb hE.2.2.2.1 (hE.2.2.2.2.1 _ mw2_25) (hE.2.2.2.2.1 _ mw1_30) (hE.2.2.2.2.1 _ mw1_31) rfl (by rw [hE.2.2.1]; exact hl.1) rfl dX2_init_1 (Nat.le_of_ble_eq_true rfl) (Nat.le_of_ble_eq_true rfl) ?_
  refine W.eq (g2 := F0 m 4 ls []) rfl ?_
  refine lv_aload_n hx hb dX2_init_4 rfl (lv_at hl 0 rfl) ?_
  refine lv_iconst (v := 0) hx hb dX2_init_5 (by decide) ?_
  refine g_put hE hG h1 rfl inG2 tyX2 tyX2_ok nmX2 1 (by decide) mw2_41 rfl rfl rfl (Nat.le_of_ble_eq_true rfl) dX2_init_6 (fun H locs w_1 ew_1 hG => ?_)
  have g_2 : w_1 k1 = none := gU_n ew_1 (Ne.symm (gU_f hf h1)) hf
  have g_3 : w_1 k2 = none := gU_n ew_1 (Ne.symm (gU_f hf2 h1)) hf2
  have h_4 : w_1 k0 = some (h0, .inr (2, [.null, .int 0])) := gU_s ew_1
  refine lv_aload_n hx hb dX2_init_9 rfl (lv_at hl 0 rfl) ?_
  refine g_new (ci := 1) (fs := [.null]) hE hG rfl inG1 tyX1 tyX1_ok mw2_26 mw2_27 mw1_11 (by intro j hj; match j, hj with | 0, _ => rfl) (Nat.le_of_ble_eq_true rfl) (Nat.le_of_ble_eq_true rfl) k1 g_2 dX2_init_10 (fun q_5 H w_6 ew_6 hG => ?_)
  have g_7 : w_6 k2 = none := gU_n ew_6 (Ne.symm hkk) g_3
  have h_8 : w_6 k0 = some (h0, .inr (2, [.null, .int 0])) := gU_n ew_6 (gU_f g_2 h_4) h_4
  have h_9 : w_6 k1 = some (q_5, .inr (1, [.null])) := gU_s ew_6
  refine lv_dup hx hb dX2_init_13 rfl ?_
  refine lv_iload_n hx hb dX2_init_14 rfl (lv_at hl 1 rfl) ?_
  refine g_callI (rest := [.ref q_5, .ref h0]) (As := [.int (nI n)]) hE hG hl.1 (c_X1_init l hfl D tc A w_6 k1 k2 q_5 n h_9 g_7 hn) mw2_28 mw2_29 mw1_11 mw2_30 rfl nm_X1_init ⟨⟨Nat.le_of_ble_eq_true rfl, Nat.le_of_ble_eq_true rfl⟩, Nat.le_of_ble_eq_true rfl, Nat.le_of_ble_eq_true rfl⟩ rfl rfl (Nat.le_of_ble_eq_true rfl) dX2_init_15 ?_
  intro v9 w_10 H locs h9 hG
  obtain ⟨e9, q_11, ew_10⟩ := h9
  rw [e9]; clear e9
  show W p l e _ s m args below meth c H locs _ _ _ (F0 m 18 ls [.ref q_5, .ref h0])
  have h_12 : w_10 k0 = some (h0, .inr (2, [.null, .int 0])) := by rw [ew_10, gU_ne _ _ (gU_k h_9 h_8 (by first | (intro h9; cases h9; done) | simp)), gU_ne _ _ (gU_f g_7 h_8)]; exact h_8
  have h_13 : w_10 k2 = some (q_11, .inl (tc 0, n, .inl (fun _ => 0))) := by rw [ew_10, gU_ne _ _ (Ne.symm hkk), gU_same]
  have h_14 : w_10 k1 = some (q_5, .inr (1, [.ref q_11])) := by rw [ew_10, gU_same]
  refine g_putF hE hG h_12 rfl inG2 tyX2 tyX2_ok nmX2 0 (by decide) mw2_39 rfl ((hnm _).mpr rfl) rfl rfl rfl (Nat.le_of_ble_eq_true rfl) dX2_init_18 (fun H locs w_15 ew_15 hG => ?_)
  have h_16 : w_15 k2 = some (q_11, .inl (tc 0, n, .inl (fun _ => 0))) := gU_n ew_15 (gU_k h_12 h_13 (by first | (intro h9; cases h9; done) | simp)) h_13
  have h_17 : w_15 k1 = some (q_5, .inr (1, [.ref q_11])) := gU_n ew_15 (gU_k h_12 h_14 (by first | (intro h9; cases h9; done) | simp)) h_14
  have h_18 : w_15 k0 = some (h0, .inr (2, [.ref q_5, .int 0])) := gU_s ew_15
  subst hQ
  exact g_vret hE hG hr (Nat.le_of_ble_eq_true rfl) (Nat.le_of_ble_eq_true rfl) dX2_init_21 ⟨rfl, q_5, q_11, by rw [ew_15, ew_10, ew_6, ew_1]; exact pc_w hkk (gU_f hf h1) (gU_f hf2 h1)⟩
abbrev rm_X3_init : Room := { frames := 2, cells := 1, slots := 6, locals := 86 }
theorem nm_X3_init : gNm yX3_init 1 := ⟨by decide +kernel, by decide +kernel, by decide +kernel⟩
set_option maxHeartbeats 4000000 in
set_option maxRecDepth 100000 in
theorem c_X3_init (l : Launch) (hfl : l.stackTraces = false) (D : va_G) (tc : Nat → ClassId) (A : Nat → Prop) (w : gW) (k0 : Nat) (k1 : Nat) (h0 : Nat) (y : Int32) (h1 : w k0 = some (h0, .inr (3, [.int 0, .null]))) (hf : w k1 = none) : gM l yX3_init cX3_init 2 none rm_X3_init D tc A [.ref h0, .int y] w (fun v w' => v = none ∧ ∃ t : Nat, w' = gU (gU w k1 (t, .inl (tc 6, 6, .inr (.inr (.inr (.inr (fun _ => none))))))) k0 (h0, .inr (3, [.int y, .ref t]))) (fun _ => False) := by
  refine gM_of (by decide +kernel) (Nat.le_of_ble_eq_true rfl) ?_
  intro p e s m args below meth c ls Q hQ hE hG hr hnt hnm hl
  have hx := hE.1
  have hb := hE.2.1
  have hl : lv_has ls 2 [(0, .ref h0), (1, .int y)] := hl
  refine lv_aload_n hx hb dX3_init_0 rfl (lv_at hl 0 rfl) ?_
  refine W.objInit hx hb hE.2.2.2.1 (hE.2.2.2.2.1 _ mw2_93) (hE.2.2.2.2.1 _ mw1_30) (hE.2.2.2.2.1 _ mw1_31) rfl (by rw [hE.2.2.1]; exact hl.1) rfl dX3_init_1 (Nat.le_of_ble_eq_true rfl) (Nat.le_of_ble_eq_true rfl) ?_
  refine W.eq (g2 := F0 m 4 ls []) rfl ?_
  refine lv_aload_n hx hb dX3_init_4 rfl (lv_at hl 0 rfl) ?_
  refine lv_bipush (v := 6) hx hb dX3_init_5 (by decide) ?_
  refine g_newq (t0 := 6) (N' := 6) hE hG mw2_94 (List.mem_of_getElem? (i := 3) rfl) rfl (by decide) (by decide) (by decide) (Nat.le_of_ble_eq_true rfl) (Nat.le_of_ble_eq_true rfl) k1 hf dX3_init_7 (fun q_1 H w_2 ew_2 hG => ?_)
  have h_3 : w_2 k0 = some (h0, .inr (3, [.int 0, .null])) := gU_n ew_2 (gU_f hf h1) h1
  have h_4 : w_2 k1 = some (q_1, .inl (tc 6, 6, .inr (.inr (.inr (.inr (fun _ => none)))))) := gU_s ew_2
  refine g_putF hE hG h_3 rfl inG3 tyX3 tyX3_ok nmX3 1 (by decide) mw2_98 rfl ((hnm _).mpr rfl) rfl rfl rfl (Nat.le_of_ble_eq_true rfl) dX3_init_10 (fun H locs w_5 ew_5 hG => ?_)
  have h_6 : w_5 k1 = some (q_1, .inl (tc 6, 6, .inr (.inr (.inr (.inr (fun _ => none)))))) := gU_n ew_5 (gU_k h_3 h_4 (by first | (intro h9; cases h9; done) | simp)) h_4
  have h_7 : w_5 k0 = some (h0, .inr (3, [.int 0, .ref q_1])) := gU_s ew_5
  refine lv_aload_n hx hb dX3_init_13 rfl (lv_at hl 0 rfl) ?_
  refine lv_iload_n hx hb dX3_init_14 rfl (lv_at hl 1 rfl) ?_
  refine g_putF hE hG h_7 rfl inG3 tyX3 tyX3_ok nmX3 0 (by decide) mw2_96 rfl ((hnm _).mpr rfl) rfl rfl rfl (Nat.le_of_ble_eq_true rfl) dX3_init_15 (fun H locs w_8 ew_8 hG => ?_)
  have h_9 : w_8 k1 = some (q_1, .inl (tc 6, 6, .inr (.inr (.inr (.inr (fun _ => none)))))) := gU_n ew_8 (gU_k h_7 h_6 (by first | (intro h9; cases h9; done) | simp)) h_6
  have h_10 : w_8 k0 = some (h0, .inr (3, [.int y, .ref q_1])) := gU_s ew_8
  subst hQ
  exact g_vret hE hG hr (Nat.le_of_ble_eq_true rfl) (Nat.le_of_ble_eq_true rfl) dX3_init_18 ⟨rfl, q_1, by rw [ew_8, ew_5, ew_2]; first | rfl | (rw [gU_gU]; rfl) | (rw [gU_cm (gU_f hf h1), gU_gU] <;> rfl)⟩
theorem ver_in {x : Int32} (h1 : ¬ x < 0) (h2 : ¬ 6 ≤ x) : vp_in x 6 := by
  rw [Int32.lt_iff_toInt_lt] at h1
  rw [Int32.le_iff_toInt_le] at h2
  have e0 : (0 : Int32).toInt = 0 := by decide
  have e6 : (6 : Int32).toInt = 6 := by decide
  rw [e0] at h1
  rw [e6] at h2
  rw [vp_in_iff]
  omega
def f_ver (f : Nat → Option Nat) (x : Int32) : Option Nat := (if x < 0 then none else (if 6 ≤ x then none else (f x.toNatClampNeg)))
abbrev rm_X3_versionOf : Room := { frames := 1, cells := 0, slots := 0, locals := 50 }
theorem nm_X3_versionOf : gNm yX3_versionOf 1 := ⟨by decide +kernel, by decide +kernel, by decide +kernel⟩
set_option maxHeartbeats 4000000 in
set_option maxRecDepth 100000 in
theorem c_X3_versionOf (l : Launch) (hfl : l.stackTraces = false) (D : va_G) (tc : Nat → ClassId) (A : Nat → Prop) (w : gW) (k0 : Nat) (k1 : Nat) (h0 : Nat) (t : Nat) (y : Int32) (f : Nat → Option Nat) (x : Int32) (h1 : w k0 = some (h0, .inr (3, [.int y, .ref t]))) (h2 : w k1 = some (t, .inl (tc 6, 6, .inr (.inr (.inr (.inr f)))))) : gM l yX3_versionOf cX3_versionOf 2 (some (.object "GongCycles$Melody")) rm_X3_versionOf D tc A [.ref h0, .int x] w (fun v w' => v = some (va_rf (f_ver f x)) ∧ w' = w) (fun _ => False) := by
  refine gM_of (by decide +kernel) (Nat.le_of_ble_eq_true rfl) ?_
  intro p e s m args below meth c ls Q hQ hE hG hr hnt hnm hl
  have hx := hE.1
  have hb := hE.2.1
  have hl : lv_has ls 2 [(0, .ref h0), (1, .int x)] := hl
  refine lv_iload_n hx hb dX3_versionOf_0 rfl (lv_at hl 1 rfl) ?_
  refine lv_if_lt (tgt := 22) hx hb dX3_versionOf_1 (by decide) (fun c_1 => ?_) (fun c_1 => ?_)
  · skip
    refine lv_null hx hb dX3_versionOf_22 ?_
    subst hQ
    exact g_aret hE hG hr (Or.inl rfl) (Nat.le_of_ble_eq_true rfl) (Nat.le_of_ble_eq_true rfl) dX3_versionOf_23 ⟨by unfold f_ver; rw [if_pos c_1] <;> rfl, rfl⟩
  · skip
    refine lv_iload_n hx hb dX3_versionOf_4 rfl (lv_at hl 1 rfl) ?_
    refine lv_aload_n hx hb dX3_versionOf_5 rfl (lv_at hl 0 rfl) ?_
    refine g_get hE hG h1 rfl inG3 1 (by decide) mw2_98 rfl dX3_versionOf_6 ?_
    refine g_alen (t0 := 6) (v := 6) hE hG h2 rfl rfl dX3_versionOf_9 ?_
    refine lv_icmp_ge (tgt := 22) hx hb dX3_versionOf_10 (by decide) (fun c_2 => ?_) (fun c_2 => ?_)
    · skip
      refine lv_null hx hb dX3_versionOf_22 ?_
      subst hQ
      exact g_aret hE hG hr (Or.inl rfl) (Nat.le_of_ble_eq_true rfl) (Nat.le_of_ble_eq_true rfl) dX3_versionOf_23 ⟨by unfold f_ver; rw [if_neg c_1, if_pos c_2] <;> rfl, rfl⟩
    · skip
      refine lv_aload_n hx hb dX3_versionOf_13 rfl (lv_at hl 0 rfl) ?_
      refine g_get hE hG h1 rfl inG3 1 (by decide) mw2_98 rfl dX3_versionOf_14 ?_
      refine lv_iload_n hx hb dX3_versionOf_17 rfl (lv_at hl 1 rfl) ?_
      refine g_aald (t0 := 6) hE hG h2 rfl (ver_in c_1 c_2) dX3_versionOf_18 ?_
      refine lv_goto (tgt := 23) hx hb dX3_versionOf_19 (by decide) ?_
      subst hQ
      exact g_aret hE hG hr (va_rf_or _) (Nat.le_of_ble_eq_true rfl) (Nat.le_of_ble_eq_true rfl) dX3_versionOf_23 ⟨by unfold f_ver; rw [if_neg c_1, if_neg c_2] <;> rfl, rfl⟩
theorem f_ver_in {f : Nat → Option Nat} {i : Nat} (h : i < 6) : f_ver f (nI i) = f i := by
  unfold f_ver
  rw [if_neg (nI_pos (by omega)), if_neg (by rw [show (6 : Int32) = nI 6 from rfl, nI_leI (by omega) (by omega)]; omega), nI_clamp (by omega)]
abbrev rm_X3_takeVersion_o : Room := { frames := 5, cells := 0, slots := 0, locals := 194 }
theorem nm_X3_takeVersion : gNm yX3_takeVersion 2 := ⟨by decide +kernel, by decide +kernel, by decide +kernel⟩
set_option maxHeartbeats 4000000 in
set_option maxRecDepth 100000 in
theorem c_X3_takeVersion_o (l : Launch) (hfl : l.stackTraces = false) (D : va_G) (tc : Nat → ClassId) (A : Nat → Prop) (w : gW) (k0 : Nat) (k1 : Nat) (h0 : Nat) (t : Nat) (y : Int32) (f : Nat → Option Nat) (i : Nat) (k2 : Nat) (k3 : Nat) (g0 : Nat) (t2 : Nat) (n : Nat) (g : Nat → Int32) (k4 : Nat) (k5 : Nat) (o0 : Nat) (t3 : Nat) (f3 : Nat → Int32) (h1 : w k0 = some (h0, .inr (3, [.int y, .ref t]))) (h2 : w k1 = some (t, .inl (tc 6, 6, .inr (.inr (.inr (.inr f)))))) (h3 : w k2 = some (g0, .inr (1, [.ref t2]))) (h4 : w k3 = some (t2, .inl (tc 0, n, .inl g))) (h5 : w k4 = some (o0, .inr (1, [.ref t3]))) (h6 : w k5 = some (t3, .inl (tc 0, n, .inl f3))) (hi : i < 6) (hq : f i = some o0) (hn : n < 2 ^ 30) (hk : k3 ≠ k5) : gM l yX3_takeVersion cX3_takeVersion 4 none rm_X3_takeVersion_o D tc A [.ref h0, .int (nI i), .ref g0] w (fun v w' => v = none ∧ w' = gU w k5 (t3, .inl (tc 0, n, .inl (f_cp n f3 g)))) (fun _ => False) := by
  refine gM_of (by decide +kernel) (Nat.le_of_ble_eq_true rfl) ?_
  intro p e s m args below meth c ls Q hQ hE hG hr hnt hnm hl
  have hx := hE.1
  have hb := hE.2.1
  have hl : lv_has ls 4 [(0, .ref h0), (1, .int (nI i)), (2, .ref g0)] := hl
  refine lv_aload_n hx hb dX3_takeVersion_0 rfl (lv_at hl 0 rfl) ?_
  refine lv_iload_n hx hb dX3_takeVersion_1 rfl (lv_at hl 1 rfl) ?_
  refine g_callV (rest := []) (As := [.int (nI i)]) hE hG hl.1 (c_X3_versionOf l hfl D tc A w k0 k1 h0 t y f (nI i) h1 h2 ) h1 rfl mw3_41 mw3_23 mw3_24 mw1_13 mw3_25 rfl nm_X3_versionOf ⟨⟨Nat.le_of_ble_eq_true rfl, Nat.le_of_ble_eq_true rfl⟩, Nat.le_of_ble_eq_true rfl, Nat.le_of_ble_eq_true rfl⟩ rfl rfl (Nat.le_of_ble_eq_true rfl) dX3_takeVersion_2 (g_no) ?_
  intro v9 w9 H locs h9 hG
  obtain ⟨e9, f9⟩ := h9
  rw [f9] at hG; rw [e9]; clear e9 f9
  show W p l e _ s m args below meth c H locs _ _ _ (F0 m 5 ls [va_rf (f_ver f (nI i))])
  rw [f_ver_in hi, hq]
  show W p l e _ s m args below meth c H locs _ _ _ (F0 m 5 ls [.ref o0])
  refine lv_astore_n (lv' := [(3, .ref o0), (0, .ref h0), (1, .int (nI i)), (2, .ref g0)]) hx hb dX3_takeVersion_5 rfl hl (by decide) rfl (fun ls hl => ?_)
  refine lv_aload_n hx hb dX3_takeVersion_6 rfl (lv_at hl 0 rfl) ?_
  refine lv_ifnonnull (tgt := 42) hx hb dX3_takeVersion_7 (by decide) ?_
  refine lv_aload_n hx hb dX3_takeVersion_42 rfl (lv_at hl 0 rfl) ?_
  refine lv_ifnull hx hb dX3_takeVersion_43 ?_
  refine lv_aload_n hx hb dX3_takeVersion_46 rfl (lv_at hl 0 rfl) ?_
  refine lv_aload_n hx hb dX3_takeVersion_47 rfl (lv_at hl 3 rfl) ?_
  refine g_callV (rest := []) (As := [.ref g0]) hE hG hl.1 (c_X1_takeFrom l hfl D tc A w k4 k5 o0 t3 n f3 k2 k3 g0 t2 g h5 h6 h3 h4 hn hk) h5 rfl mw3_44 mw3_45 mw3_46 mw1_11 mw3_47 rfl nm_X1_takeFrom ⟨⟨Nat.le_of_ble_eq_true rfl, Nat.le_of_ble_eq_true rfl⟩, Nat.le_of_ble_eq_true rfl, Nat.le_of_ble_eq_true rfl⟩ rfl rfl (Nat.le_of_ble_eq_true rfl) dX3_takeVersion_48 (g_no) ?_
  intro v9 w9 H locs h9 hG
  obtain ⟨e9, ew_1⟩ := h9
  rw [e9]; clear e9; revert w9; intro w_1 hG ew_1
  show W p l e _ s m args below meth c H locs _ _ _ (F0 m 51 ls [])
  have h_2 : w_1 k0 = some (h0, .inr (3, [.int y, .ref t])) := gU_n ew_1 (gU_k h6 h1 (by first | (intro h9; cases h9; done) | simp)) h1
  have h_3 : w_1 k1 = some (t, .inl (tc 6, 6, .inr (.inr (.inr (.inr f))))) := gU_n ew_1 (gU_k h6 h2 (by first | (intro h9; cases h9; done) | simp)) h2
  have h_4 : w_1 k2 = some (g0, .inr (1, [.ref t2])) := gU_n ew_1 (gU_k h6 h3 (by first | (intro h9; cases h9; done) | simp)) h3
  have h_5 : w_1 k3 = some (t2, .inl (tc 0, n, .inl g)) := gU_n ew_1 hk h4
  have h_6 : w_1 k4 = some (o0, .inr (1, [.ref t3])) := gU_n ew_1 (gU_k h6 h5 (by first | (intro h9; cases h9; done) | simp)) h5
  have h_7 : w_1 k5 = some (t3, .inl (tc 0, n, .inl (f_cp n f3 g))) := gU_s ew_1
  subst hQ
  exact g_vret hE hG hr (Nat.le_of_ble_eq_true rfl) (Nat.le_of_ble_eq_true rfl) dX3_takeVersion_51 ⟨rfl, ew_1⟩
theorem tv_w {w : gW} {k0 k1 k2 : Nat} {x1 x2 y0 y1 y2 : Nat × va_E} (h12 : k1 ≠ k2) (h01 : k0 ≠ k1) (h02 : k0 ≠ k2) : gU (gU (gU (gU (gU w k1 x1) k2 x2) k1 y1) k0 y0) k2 y2 = gU (gU (gU w k2 y2) k1 y1) k0 y0 := by
  funext j
  by_cases a0 : j = k0
  · subst a0; rw [gU_ne _ _ h02, gU_same, gU_same]
  · by_cases a1 : j = k1
    · subst a1; rw [gU_ne _ _ h12, gU_ne _ _ a0, gU_same, gU_ne _ _ a0, gU_same]
    · by_cases a2 : j = k2
      · subst a2; rw [gU_same, gU_ne _ _ a0, gU_ne _ _ a1, gU_same]
      · rw [gU_ne _ _ a2, gU_ne _ _ a0, gU_ne _ _ a1, gU_ne _ _ a2, gU_ne _ _ a1, gU_ne _ _ a0, gU_ne _ _ a1, gU_ne _ _ a2]
abbrev rm_X3_takeVersion_n : Room := { frames := 5, cells := 2, slots := 65, locals := 194 }
set_option maxHeartbeats 4000000 in
set_option maxRecDepth 100000 in
theorem c_X3_takeVersion_n (l : Launch) (hfl : l.stackTraces = false) (D : va_G) (tc : Nat → ClassId) (A : Nat → Prop) (w : gW) (k0 : Nat) (k1 : Nat) (h0 : Nat) (t : Nat) (y : Int32) (f : Nat → Option Nat) (i : Nat) (k2 : Nat) (k3 : Nat) (g0 : Nat) (t2 : Nat) (n : Nat) (g : Nat → Int32) (k4 : Nat) (k5 : Nat) (h1 : w k0 = some (h0, .inr (3, [.int y, .ref t]))) (h2 : w k1 = some (t, .inl (tc 6, 6, .inr (.inr (.inr (.inr f)))))) (h3 : w k2 = some (g0, .inr (1, [.ref t2]))) (h4 : w k3 = some (t2, .inl (tc 0, n, .inl g))) (hi : i < 6) (hq : f i = none) (hn : n ≤ 64) (hf : w k4 = none) (hf2 : w k5 = none) (hkk : k4 ≠ k5) : gM l yX3_takeVersion cX3_takeVersion 4 none rm_X3_takeVersion_n D tc A [.ref h0, .int (nI i), .ref g0] w (fun v w' => v = none ∧ ∃ a q : Nat, w' = gU (gU (gU w k5 (q, .inl (tc 0, n, .inl (f_cp n (fun _ => 0) g)))) k4 (a, .inr (1, [.ref q]))) k1 (t, .inl (tc 6, 6, .inr (.inr (.inr (.inr (va_up f i (some a)))))))) (fun _ => False) := by
  refine gM_of (by decide +kernel) (Nat.le_of_ble_eq_true rfl) ?_
  intro p e s m args below meth c ls Q hQ hE hG hr hnt hnm hl
  have hx := hE.1
  have hb := hE.2.1
  have hl : lv_has ls 4 [(0, .ref h0), (1, .int (nI i)), (2, .ref g0)] := hl
  refine lv_aload_n hx hb dX3_takeVersion_0 rfl (lv_at hl 0 rfl) ?_
  refine lv_iload_n hx hb dX3_takeVersion_1 rfl (lv_at hl 1 rfl) ?_
  refine g_callV (rest := []) (As := [.int (nI i)]) hE hG hl.1 (c_X3_versionOf l hfl D tc A w k0 k1 h0 t y f (nI i) h1 h2 ) h1 rfl mw3_41 mw3_23 mw3_24 mw1_13 mw3_25 rfl nm_X3_versionOf ⟨⟨Nat.le_of_ble_eq_true rfl, Nat.le_of_ble_eq_true rfl⟩, Nat.le_of_ble_eq_true rfl, Nat.le_of_ble_eq_true rfl⟩ rfl rfl (Nat.le_of_ble_eq_true rfl) dX3_takeVersion_2 (g_no) ?_
  intro v9 w9 H locs h9 hG
  obtain ⟨e9, f9⟩ := h9
  rw [f9] at hG; rw [e9]; clear e9 f9
  show W p l e _ s m args below meth c H locs _ _ _ (F0 m 5 ls [va_rf (f_ver f (nI i))])
  rw [f_ver_in hi, hq]
  show W p l e _ s m args below meth c H locs _ _ _ (F0 m 5 ls [.null])
  refine lv_astore_nN (lv' := [(3, .null), (0, .ref h0), (1, .int (nI i)), (2, .ref g0)]) hx hb dX3_takeVersion_5 rfl hl (by decide) rfl (fun ls hl => ?_)
  refine lv_aload_nN hx hb dX3_takeVersion_6 rfl (lv_at hl 0 rfl) ?_
  refine lv_ifnonnullN hx hb dX3_takeVersion_7 ?_
  refine lv_iload_n hx hb dX3_takeVersion_10 rfl (lv_at hl 2 rfl) ?_
  refine lv_if_lt (tgt := 42) hx hb dX3_takeVersion_11 (by decide) (fun c9 => absurd c9 (nI_pos (by omega))) (fun c9 => ?_)
  refine lv_iload_n hx hb dX3_takeVersion_14 rfl (lv_at hl 2 rfl) ?_
  refine lv_aload_n hx hb dX3_takeVersion_15 rfl (lv_at hl 1 rfl) ?_
  refine g_get hE hG h1 rfl inG3 1 (by decide) mw2_98 rfl dX3_takeVersion_16 ?_
  refine g_alen (t0 := 6) (v := 6) hE hG h2 rfl rfl dX3_takeVersion_19 ?_
  refine lv_icmp_ge (tgt := 42) hx hb dX3_takeVersion_20 (by decide) (fun c9 => absurd c9 (by rw [show (6 : Int32) = nI 6 from rfl, nI_leI (by omega) (by omega)]; omega)) (fun c9 => ?_)
  refine g_new (ci := 1) (fs := [.null]) hE hG rfl inG1 tyX1 tyX1_ok mw2_94 mw2_27 mw1_11 (by intro j hj; match j, hj with | 0, _ => rfl) (Nat.le_of_ble_eq_true rfl) (Nat.le_of_ble_eq_true rfl) k4 hf dX3_takeVersion_23 (fun q_1 H w_2 ew_2 hG => ?_)
  have g_3 : w_2 k5 = none := gU_n ew_2 (Ne.symm hkk) hf2
  have h_4 : w_2 k0 = some (h0, .inr (3, [.int y, .ref t])) := gU_n ew_2 (gU_f hf h1) h1
  have h_5 : w_2 k1 = some (t, .inl (tc 6, 6, .inr (.inr (.inr (.inr f))))) := gU_n ew_2 (gU_f hf h2) h2
  have h_6 : w_2 k2 = some (g0, .inr (1, [.ref t2])) := gU_n ew_2 (gU_f hf h3) h3
  have h_7 : w_2 k3 = some (t2, .inl (tc 0, n, .inl g)) := gU_n ew_2 (gU_f hf h4) h4
  have h_8 : w_2 k4 = some (q_1, .inr (1, [.null])) := gU_s ew_2
  refine lv_dup hx hb dX3_takeVersion_26 rfl ?_
  refine lv_aload_n hx hb dX3_takeVersion_27 rfl (lv_at hl 3 rfl) ?_
  refine g_callV (rest := [.ref q_1, .ref q_1]) (As := []) hE hG hl.1 (c_X1_length l hfl D tc A w_2 k2 k3 g0 t2 n g h_6 h_7 ) h_6 rfl mw3_42 mw2_116 mw2_117 mw1_11 mw2_118 rfl nm_X1_length ⟨⟨Nat.le_of_ble_eq_true rfl, Nat.le_of_ble_eq_true rfl⟩, Nat.le_of_ble_eq_true rfl, Nat.le_of_ble_eq_true rfl⟩ rfl rfl (Nat.le_of_ble_eq_true rfl) dX3_takeVersion_28 (g_no) ?_
  intro v9 w9 H locs h9 hG
  obtain ⟨e9, f9⟩ := h9
  rw [f9] at hG; rw [e9]; clear e9 f9
  show W p l e _ s m args below meth c H locs _ _ _ (F0 m 31 ls [.int (nI n), .ref q_1, .ref q_1])
  refine g_callI (rest := [.ref q_1]) (As := [.int (nI n)]) hE hG hl.1 (c_X1_init l hfl D tc A w_2 k4 k5 q_1 n h_8 g_3 hn) mw3_43 mw2_29 mw1_11 mw2_30 rfl nm_X1_init ⟨⟨Nat.le_of_ble_eq_true rfl, Nat.le_of_ble_eq_true rfl⟩, Nat.le_of_ble_eq_true rfl, Nat.le_of_ble_eq_true rfl⟩ rfl rfl (Nat.le_of_ble_eq_true rfl) dX3_takeVersion_31 ?_
  intro v9 w_9 H locs h9 hG
  obtain ⟨e9, q_10, ew_9⟩ := h9
  rw [e9]; clear e9
  show W p l e _ s m args below meth c H locs _ _ _ (F0 m 34 ls [.ref q_1])
  have h_11 : w_9 k0 = some (h0, .inr (3, [.int y, .ref t])) := by rw [ew_9, gU_ne _ _ (gU_k h_8 h_4 (by first | (intro h9; cases h9; done) | simp)), gU_ne _ _ (gU_f g_3 h_4)]; exact h_4
  have h_12 : w_9 k1 = some (t, .inl (tc 6, 6, .inr (.inr (.inr (.inr f))))) := by rw [ew_9, gU_ne _ _ (gU_k h_8 h_5 (by first | (intro h9; cases h9; done) | simp)), gU_ne _ _ (gU_f g_3 h_5)]; exact h_5
  have h_13 : w_9 k2 = some (g0, .inr (1, [.ref t2])) := by rw [ew_9, gU_ne _ _ (gU_k h_8 h_6 (by first | (intro h9; cases h9; done) | simp)), gU_ne _ _ (gU_f g_3 h_6)]; exact h_6
  have h_14 : w_9 k3 = some (t2, .inl (tc 0, n, .inl g)) := by rw [ew_9, gU_ne _ _ (gU_k h_8 h_7 (by first | (intro h9; cases h9; done) | simp)), gU_ne _ _ (gU_f g_3 h_7)]; exact h_7
  have h_15 : w_9 k5 = some (q_10, .inl (tc 0, n, .inl (fun _ => 0))) := by rw [ew_9, gU_ne _ _ (Ne.symm hkk), gU_same]
  have h_16 : w_9 k4 = some (q_1, .inr (1, [.ref q_10])) := by rw [ew_9, gU_same]
  refine lv_astore_n (lv' := [(3, .ref q_1), (0, .ref h0), (1, .int (nI i)), (2, .ref g0)]) hx hb dX3_takeVersion_34 rfl hl (by decide) rfl (fun ls hl => ?_)
  refine lv_aload_n hx hb dX3_takeVersion_35 rfl (lv_at hl 1 rfl) ?_
  refine g_get hE hG h_11 rfl inG3 1 (by decide) mw2_98 rfl dX3_takeVersion_36 ?_
  refine lv_iload_n hx hb dX3_takeVersion_39 rfl (lv_at hl 2 rfl) ?_
  refine lv_aload_n hx hb dX3_takeVersion_40 rfl (lv_at hl 0 rfl) ?_
  refine g_aast (t0 := 6) (ci := 1) hE hG h_12 rfl h_16 rfl (vp_in_nI (by omega) (by decide)) dX3_takeVersion_41 (fun H locs w_17 ew_17 hG => ?_)
  have h_18 : w_17 k0 = some (h0, .inr (3, [.int y, .ref t])) := gU_n ew_17 (gU_k h_12 h_11 (by first | (intro h9; cases h9; done) | simp)) h_11
  have h_19 : w_17 k2 = some (g0, .inr (1, [.ref t2])) := gU_n ew_17 (gU_k h_12 h_13 (by first | (intro h9; cases h9; done) | simp)) h_13
  have h_20 : w_17 k3 = some (t2, .inl (tc 0, n, .inl g)) := gU_n ew_17 (gU_k h_12 h_14 (by first | (intro h9; cases h9; done) | simp)) h_14
  have h_21 : w_17 k5 = some (q_10, .inl (tc 0, n, .inl (fun _ => 0))) := gU_n ew_17 (gU_k h_12 h_15 (by first | (intro h9; cases h9; done) | simp)) h_15
  have h_22 : w_17 k4 = some (q_1, .inr (1, [.ref q_10])) := gU_n ew_17 (gU_k h_12 h_16 (by first | (intro h9; cases h9; done) | simp)) h_16
  have h_23 : w_17 k1 = some (t, .inl (tc 6, 6, .inr (.inr (.inr (.inr (va_up f (nI i).toNatClampNeg (some q_1))))))) := gU_s ew_17
  refine lv_aload_n hx hb dX3_takeVersion_42 rfl (lv_at hl 0 rfl) ?_
  refine lv_ifnull hx hb dX3_takeVersion_43 ?_
  refine lv_aload_n hx hb dX3_takeVersion_46 rfl (lv_at hl 0 rfl) ?_
  refine lv_aload_n hx hb dX3_takeVersion_47 rfl (lv_at hl 3 rfl) ?_
  refine g_callV (rest := []) (As := [.ref g0]) hE hG hl.1 (c_X1_takeFrom l hfl D tc A w_17 k4 k5 q_1 q_10 n (fun _ => 0) k2 k3 g0 t2 g h_22 h_21 h_19 h_20 (by omega) (gU_f hf2 h4)) h_22 rfl mw3_44 mw3_45 mw3_46 mw1_11 mw3_47 rfl nm_X1_takeFrom ⟨⟨Nat.le_of_ble_eq_true rfl, Nat.le_of_ble_eq_true rfl⟩, Nat.le_of_ble_eq_true rfl, Nat.le_of_ble_eq_true rfl⟩ rfl rfl (Nat.le_of_ble_eq_true rfl) dX3_takeVersion_48 (g_no) ?_
  intro v9 w9 H locs h9 hG
  obtain ⟨e9, ew_24⟩ := h9
  rw [e9]; clear e9; revert w9; intro w_24 hG ew_24
  show W p l e _ s m args below meth c H locs _ _ _ (F0 m 51 ls [])
  have h_25 : w_24 k0 = some (h0, .inr (3, [.int y, .ref t])) := gU_n ew_24 (gU_k h_21 h_18 (by first | (intro h9; cases h9; done) | simp)) h_18
  have h_26 : w_24 k2 = some (g0, .inr (1, [.ref t2])) := gU_n ew_24 (gU_k h_21 h_19 (by first | (intro h9; cases h9; done) | simp)) h_19
  have h_27 : w_24 k3 = some (t2, .inl (tc 0, n, .inl g)) := gU_n ew_24 (gU_f hf2 h4) h_20
  have h_28 : w_24 k4 = some (q_1, .inr (1, [.ref q_10])) := gU_n ew_24 hkk h_22
  have h_29 : w_24 k1 = some (t, .inl (tc 6, 6, .inr (.inr (.inr (.inr (va_up f (nI i).toNatClampNeg (some q_1))))))) := gU_n ew_24 (gU_k h_21 h_23 (by first | (intro h9; cases h9; done) | simp)) h_23
  have h_30 : w_24 k5 = some (q_10, .inl (tc 0, n, .inl (f_cp n (fun _ => 0) g))) := gU_s ew_24
  subst hQ
  exact g_vret hE hG hr (Nat.le_of_ble_eq_true rfl) (Nat.le_of_ble_eq_true rfl) dX3_takeVersion_51 ⟨rfl, q_1, q_10, by rw [ew_24, ew_17, ew_9, ew_2, nI_clamp (by omega)]; exact tv_w hkk (gU_f hf h2) (gU_f hf2 h2)⟩
