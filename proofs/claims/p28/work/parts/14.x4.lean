/-! Playing -/
def f_npl (cy pl : Int32) : Int32 := if cy ≤ pl then 1 else pl + 1
def f_nbl (tp bl : Int32) : Int32 := if tp = 1 then (if 160 < bl + 2 then 160 else bl + 2) else if tp = 2 then (if bl - 2 < 10 then 10 else bl - 2) else bl
def f_gge (ge : Int32) : Int32 := if ge ≤ 0 then ge else ge - 1
def f_ggo (go ge : Int32) : Int32 := if ge ≤ 0 then go else if ge - 1 ≤ 0 then 0 else 1
def f_hge (cy pl ge : Int32) : Int32 := if ge = 0 then (if cy / 2 < pl then 2 else 1) else ge
def f_sts (lv : Int32) (st : Nat → Int64) : Nat → Int64 := fun j => if j < 4 then st j + (f_den (nI j) lv).toInt64 else st j
theorem sts_eq (lv : Int32) (st : Nat → Int64) : (vp_updL (vp_updL (vp_updL (vp_updL st (0 : Int32).toNatClampNeg (st (0 : Int32).toNatClampNeg + (f_den 0 lv).toInt64)) (1 : Int32).toNatClampNeg ((vp_updL st (0 : Int32).toNatClampNeg (st (0 : Int32).toNatClampNeg + (f_den 0 lv).toInt64)) (1 : Int32).toNatClampNeg + (f_den 1 lv).toInt64)) (2 : Int32).toNatClampNeg ((vp_updL (vp_updL st (0 : Int32).toNatClampNeg (st (0 : Int32).toNatClampNeg + (f_den 0 lv).toInt64)) (1 : Int32).toNatClampNeg ((vp_updL st (0 : Int32).toNatClampNeg (st (0 : Int32).toNatClampNeg + (f_den 0 lv).toInt64)) (1 : Int32).toNatClampNeg + (f_den 1 lv).toInt64)) (2 : Int32).toNatClampNeg + (f_den 2 lv).toInt64)) (3 : Int32).toNatClampNeg ((vp_updL (vp_updL (vp_updL st (0 : Int32).toNatClampNeg (st (0 : Int32).toNatClampNeg + (f_den 0 lv).toInt64)) (1 : Int32).toNatClampNeg ((vp_updL st (0 : Int32).toNatClampNeg (st (0 : Int32).toNatClampNeg + (f_den 0 lv).toInt64)) (1 : Int32).toNatClampNeg + (f_den 1 lv).toInt64)) (2 : Int32).toNatClampNeg ((vp_updL (vp_updL st (0 : Int32).toNatClampNeg (st (0 : Int32).toNatClampNeg + (f_den 0 lv).toInt64)) (1 : Int32).toNatClampNeg ((vp_updL st (0 : Int32).toNatClampNeg (st (0 : Int32).toNatClampNeg + (f_den 0 lv).toInt64)) (1 : Int32).toNatClampNeg + (f_den 1 lv).toInt64)) (2 : Int32).toNatClampNeg + (f_den 2 lv).toInt64)) (3 : Int32).toNatClampNeg + (f_den 3 lv).toInt64)) = f_sts lv st := by
  have e0 : (0 : Int32).toNatClampNeg = 0 := by decide
  have e1 : (1 : Int32).toNatClampNeg = 1 := by decide
  have e2 : (2 : Int32).toNatClampNeg = 2 := by decide
  have e3 : (3 : Int32).toNatClampNeg = 3 := by decide
  have n0 : nI 0 = 0 := rfl
  have n1 : nI 1 = 1 := rfl
  have n2 : nI 2 = 2 := rfl
  have n3 : nI 3 = 3 := rfl
  rw [e0, e1, e2, e3]
  funext j
  unfold f_sts vp_updL
  by_cases h3 : j = 3
  · subst h3; simp [n3]
  · by_cases h2 : j = 2
    · subst h2; simp [n2]
    · by_cases h1 : j = 1
      · subst h1; simp [n1]
      · by_cases h0 : j = 0
        · subst h0; simp [n0]
        · simp [h0, h1, h2, h3, show ¬ j < 4 by omega]
theorem gU_d {w : gW} {a b : Nat} {x y z : Nat × va_E} : gU (gU (gU w a x) b y) a z = gU (gU w b y) a z := by
  funext j
  by_cases ha : j = a
  · subst ha; rw [gU_same, gU_same]
  · by_cases hb : j = b
    · subst hb; rw [gU_ne _ _ ha, gU_same, gU_ne _ _ ha, gU_same]
    · rw [gU_ne _ _ ha, gU_ne _ _ hb, gU_ne _ _ ha, gU_ne _ _ ha, gU_ne _ _ hb]
abbrev rm_X4_init : Room := { frames := 2, cells := 1, slots := 4, locals := 86 }
theorem nm_X4_init : gNm yX4_init 0 := ⟨by decide +kernel, by decide +kernel, by decide +kernel⟩
set_option maxHeartbeats 4000000 in
set_option maxRecDepth 100000 in
theorem c_X4_init (l : Launch) (hfl : l.stackTraces = false) (D : va_G) (tc : Nat → ClassId) (A : Nat → Prop) (w : gW) (k0 : Nat) (k1 : Nat) (h0 : Nat) (h1 : w k0 = some (h0, .inr (4, [.int 0, .int 0, .int 0, .int 0, .int 0, .int 0, .int 0, .int 0, .int 0, .long 0, .null]))) (hf : w k1 = none) : gM l yX4_init cX4_init 1 none rm_X4_init D tc A [.ref h0] w (fun v w' => v = none ∧ ∃ t : Nat, w' = gU (gU w k1 (t, .inl (tc 1, 4, .inr (.inl (fun _ => 0))))) k0 (h0, .inr (4, [.int (-1), .int 0, .int 0, .int 0, .int 0, .int 0, .int 0, .int 0, .int 0, .long 0, .ref t]))) (fun _ => False) := by
  refine gM_of (by decide +kernel) (Nat.le_of_ble_eq_true rfl) ?_
  intro p e s m args below meth c ls Q hQ hE hG hr hnt hnm hl
  have hx := hE.1
  have hb := hE.2.1
  have hl : lv_has ls 1 [(0, .ref h0)] := hl
  refine lv_aload_n hx hb dX4_init_0 rfl (lv_at hl 0 rfl) ?_
  refine W.objInit hx hb hE.2.2.2.1 (hE.2.2.2.2.1 _ mw1_39) (hE.2.2.2.2.1 _ mw1_30) (hE.2.2.2.2.1 _ mw1_31) rfl (by rw [hE.2.2.1]; exact hl.1) rfl dX4_init_1 (Nat.le_of_ble_eq_true rfl) (Nat.le_of_ble_eq_true rfl) ?_
  refine W.eq (g2 := F0 m 4 ls []) rfl ?_
  refine lv_aload_n hx hb dX4_init_4 rfl (lv_at hl 0 rfl) ?_
  refine lv_iconst (v := (-1)) hx hb dX4_init_5 (by decide) ?_
  refine g_put hE hG h1 rfl inG4 tyX4 tyX4_ok nmX4 0 (by decide) mw1_40 rfl rfl rfl (Nat.le_of_ble_eq_true rfl) dX4_init_6 (fun H locs w_1 ew_1 hG => ?_)
  have g_2 : w_1 k1 = none := gU_n ew_1 (Ne.symm (gU_f hf h1)) hf
  have h_3 : w_1 k0 = some (h0, .inr (4, [.int (-1), .int 0, .int 0, .int 0, .int 0, .int 0, .int 0, .int 0, .int 0, .long 0, .null])) := gU_s ew_1
  refine lv_aload_n hx hb dX4_init_9 rfl (lv_at hl 0 rfl) ?_
  refine lv_iconst (v := 0) hx hb dX4_init_10 (by decide) ?_
  refine g_put hE hG h_3 rfl inG4 tyX4 tyX4_ok nmX4 1 (by decide) mw1_42 rfl rfl rfl (Nat.le_of_ble_eq_true rfl) dX4_init_11 (fun H locs w_4 ew_4 hG => ?_)
  have g_5 : w_4 k1 = none := gU_n ew_4 (Ne.symm (gU_f g_2 h_3)) g_2
  have h_6 : w_4 k0 = some (h0, .inr (4, [.int (-1), .int 0, .int 0, .int 0, .int 0, .int 0, .int 0, .int 0, .int 0, .long 0, .null])) := gU_s ew_4
  refine lv_aload_n hx hb dX4_init_14 rfl (lv_at hl 0 rfl) ?_
  refine lv_iconst (v := 0) hx hb dX4_init_15 (by decide) ?_
  refine g_put hE hG h_6 rfl inG4 tyX4 tyX4_ok nmX4 2 (by decide) mw1_43 rfl rfl rfl (Nat.le_of_ble_eq_true rfl) dX4_init_16 (fun H locs w_7 ew_7 hG => ?_)
  have g_8 : w_7 k1 = none := gU_n ew_7 (Ne.symm (gU_f g_5 h_6)) g_5
  have h_9 : w_7 k0 = some (h0, .inr (4, [.int (-1), .int 0, .int 0, .int 0, .int 0, .int 0, .int 0, .int 0, .int 0, .long 0, .null])) := gU_s ew_7
  refine lv_aload_n hx hb dX4_init_19 rfl (lv_at hl 0 rfl) ?_
  refine lv_iconst (v := 0) hx hb dX4_init_20 (by decide) ?_
  refine g_put hE hG h_9 rfl inG4 tyX4 tyX4_ok nmX4 3 (by decide) mw1_45 rfl rfl rfl (Nat.le_of_ble_eq_true rfl) dX4_init_21 (fun H locs w_10 ew_10 hG => ?_)
  have g_11 : w_10 k1 = none := gU_n ew_10 (Ne.symm (gU_f g_8 h_9)) g_8
  have h_12 : w_10 k0 = some (h0, .inr (4, [.int (-1), .int 0, .int 0, .int 0, .int 0, .int 0, .int 0, .int 0, .int 0, .long 0, .null])) := gU_s ew_10
  refine lv_aload_n hx hb dX4_init_24 rfl (lv_at hl 0 rfl) ?_
  refine lv_iconst (v := 0) hx hb dX4_init_25 (by decide) ?_
  refine g_put hE hG h_12 rfl inG4 tyX4 tyX4_ok nmX4 4 (by decide) mw1_47 rfl rfl rfl (Nat.le_of_ble_eq_true rfl) dX4_init_26 (fun H locs w_13 ew_13 hG => ?_)
  have g_14 : w_13 k1 = none := gU_n ew_13 (Ne.symm (gU_f g_11 h_12)) g_11
  have h_15 : w_13 k0 = some (h0, .inr (4, [.int (-1), .int 0, .int 0, .int 0, .int 0, .int 0, .int 0, .int 0, .int 0, .long 0, .null])) := gU_s ew_13
  refine lv_aload_n hx hb dX4_init_29 rfl (lv_at hl 0 rfl) ?_
  refine lv_iconst (v := 0) hx hb dX4_init_30 (by decide) ?_
  refine g_put hE hG h_15 rfl inG4 tyX4 tyX4_ok nmX4 5 (by decide) mw1_49 rfl rfl rfl (Nat.le_of_ble_eq_true rfl) dX4_init_31 (fun H locs w_16 ew_16 hG => ?_)
  have g_17 : w_16 k1 = none := gU_n ew_16 (Ne.symm (gU_f g_14 h_15)) g_14
  have h_18 : w_16 k0 = some (h0, .inr (4, [.int (-1), .int 0, .int 0, .int 0, .int 0, .int 0, .int 0, .int 0, .int 0, .long 0, .null])) := gU_s ew_16
  refine lv_aload_n hx hb dX4_init_34 rfl (lv_at hl 0 rfl) ?_
  refine lv_iconst (v := 0) hx hb dX4_init_35 (by decide) ?_
  refine g_put hE hG h_18 rfl inG4 tyX4 tyX4_ok nmX4 6 (by decide) mw1_51 rfl rfl rfl (Nat.le_of_ble_eq_true rfl) dX4_init_36 (fun H locs w_19 ew_19 hG => ?_)
  have g_20 : w_19 k1 = none := gU_n ew_19 (Ne.symm (gU_f g_17 h_18)) g_17
  have h_21 : w_19 k0 = some (h0, .inr (4, [.int (-1), .int 0, .int 0, .int 0, .int 0, .int 0, .int 0, .int 0, .int 0, .long 0, .null])) := gU_s ew_19
  refine lv_aload_n hx hb dX4_init_39 rfl (lv_at hl 0 rfl) ?_
  refine lv_iconst (v := 0) hx hb dX4_init_40 (by decide) ?_
  refine g_put hE hG h_21 rfl inG4 tyX4 tyX4_ok nmX4 7 (by decide) mw1_52 rfl (by decide) (by decide) (Nat.le_of_ble_eq_true rfl) dX4_init_41 (fun H locs w_22 ew_22 hG => ?_)
  have g_23 : w_22 k1 = none := gU_n ew_22 (Ne.symm (gU_f g_20 h_21)) g_20
  have h_24 : w_22 k0 = some (h0, .inr (4, [.int (-1), .int 0, .int 0, .int 0, .int 0, .int 0, .int 0, .int 0, .int 0, .long 0, .null])) := gU_s ew_22
  refine lv_aload_n hx hb dX4_init_44 rfl (lv_at hl 0 rfl) ?_
  refine lv_iconst (v := 0) hx hb dX4_init_45 (by decide) ?_
  refine g_put hE hG h_24 rfl inG4 tyX4 tyX4_ok nmX4 8 (by decide) mw1_54 rfl rfl rfl (Nat.le_of_ble_eq_true rfl) dX4_init_46 (fun H locs w_25 ew_25 hG => ?_)
  have g_26 : w_25 k1 = none := gU_n ew_25 (Ne.symm (gU_f g_23 h_24)) g_23
  have h_27 : w_25 k0 = some (h0, .inr (4, [.int (-1), .int 0, .int 0, .int 0, .int 0, .int 0, .int 0, .int 0, .int 0, .long 0, .null])) := gU_s ew_25
  refine lv_aload_n hx hb dX4_init_49 rfl (lv_at hl 0 rfl) ?_
  refine lv_lconst (v := 0) hx hb dX4_init_50 (by decide) ?_
  refine g_put hE hG h_27 rfl inG4 tyX4 tyX4_ok nmX4 9 (by decide) mw1_55 rfl rfl rfl (Nat.le_of_ble_eq_true rfl) dX4_init_51 (fun H locs w_28 ew_28 hG => ?_)
  have g_29 : w_28 k1 = none := gU_n ew_28 (Ne.symm (gU_f g_26 h_27)) g_26
  have h_30 : w_28 k0 = some (h0, .inr (4, [.int (-1), .int 0, .int 0, .int 0, .int 0, .int 0, .int 0, .int 0, .int 0, .long 0, .null])) := gU_s ew_28
  refine lv_aload_n hx hb dX4_init_54 rfl (lv_at hl 0 rfl) ?_
  refine lv_iconst (v := 4) hx hb dX4_init_55 (by decide) ?_
  refine g_newi (atype := .long) (t0 := 1) (ty := .long) (a0 := (4, .inr (.inl (fun _ => 0)))) (N' := 4) hE hG mw1_82 rfl rfl (fun _ _ h => h) (fun _ => by first | rfl | simp [vp_cell_i, vp_cell_l, defaultValue]) (by decide) (by decide) (by decide) (Nat.le_of_ble_eq_true rfl) (Nat.le_of_ble_eq_true rfl) k1 g_29 dX4_init_56 (fun q_31 H w_32 ew_32 hG => ?_)
  have h_33 : w_32 k0 = some (h0, .inr (4, [.int (-1), .int 0, .int 0, .int 0, .int 0, .int 0, .int 0, .int 0, .int 0, .long 0, .null])) := gU_n ew_32 (gU_f g_29 h_30) h_30
  have h_34 : w_32 k1 = some (q_31, .inl (tc 1, 4, .inr (.inl (fun _ => 0)))) := gU_s ew_32
  refine g_putF hE hG h_33 rfl inG4 tyX4 tyX4_ok nmX4 10 (by decide) mw1_57 rfl ((hnm _).mpr rfl) rfl rfl rfl (Nat.le_of_ble_eq_true rfl) dX4_init_58 (fun H locs w_35 ew_35 hG => ?_)
  have h_36 : w_35 k1 = some (q_31, .inl (tc 1, 4, .inr (.inl (fun _ => 0)))) := gU_n ew_35 (gU_k h_33 h_34 (by first | (intro h9; cases h9; done) | simp)) h_34
  have h_37 : w_35 k0 = some (h0, .inr (4, [.int (-1), .int 0, .int 0, .int 0, .int 0, .int 0, .int 0, .int 0, .int 0, .long 0, .ref q_31])) := gU_s ew_35
  subst hQ
  exact g_vret hE hG hr (Nat.le_of_ble_eq_true rfl) (Nat.le_of_ble_eq_true rfl) dX4_init_61 ⟨rfl, q_31, by rw [ew_35, ew_32, ew_28, ew_25, ew_22, ew_19, ew_16, ew_13, ew_10, ew_7, ew_4, ew_1]; simp only [gU_gU]; rw [gU_d] <;> rfl⟩
abbrev rm_X4_startPiece : Room := { frames := 1, cells := 0, slots := 0, locals := 50 }
theorem nm_X4_startPiece : gNm yX4_startPiece 2 := ⟨by decide +kernel, by decide +kernel, by decide +kernel⟩
set_option maxHeartbeats 4000000 in
set_option maxRecDepth 100000 in
theorem c_X4_startPiece (l : Launch) (hfl : l.stackTraces = false) (D : va_G) (tc : Nat → ClassId) (A : Nat → Prop) (w : gW) (k0 : Nat) (h0 : Nat) (t : Nat) (pn : Int32) (cy : Int32) (pl : Int32) (bl : Int32) (lv : Int32) (gg : Int32) (tp : Int32) (go : Int32) (ge : Int32) (tk : Int64) (x : Int32) (y : Int32) (h1 : w k0 = some (h0, .inr (4, [.int pn, .int cy, .int pl, .int bl, .int lv, .int gg, .int tp, .int go, .int ge, .long tk, .ref t]))) : gM l yX4_startPiece cX4_startPiece 3 none rm_X4_startPiece D tc A [.ref h0, .int x, .int y] w (fun v w' => v = none ∧ w' = gU w k0 (h0, .inr (4, [.int x, .int y, .int 0, .int 20, .int 0, .int 0, .int 0, .int 1, .int 0, .long tk, .ref t]))) (fun _ => False) := by
  refine gM_of (by decide +kernel) (Nat.le_of_ble_eq_true rfl) ?_
  intro p e s m args below meth c ls Q hQ hE hG hr hnt hnm hl
  have hx := hE.1
  have hb := hE.2.1
  have hl : lv_has ls 3 [(0, .ref h0), (1, .int x), (2, .int y)] := hl
  refine lv_aload_n hx hb dX4_startPiece_0 rfl (lv_at hl 0 rfl) ?_
  refine lv_iload_n hx hb dX4_startPiece_1 rfl (lv_at hl 1 rfl) ?_
  refine g_put hE hG h1 rfl inG4 tyX4 tyX4_ok nmX4 0 (by decide) mw1_40 rfl rfl rfl (Nat.le_of_ble_eq_true rfl) dX4_startPiece_2 (fun H locs w_1 ew_1 hG => ?_)
  have h_2 : w_1 k0 = some (h0, .inr (4, [.int x, .int cy, .int pl, .int bl, .int lv, .int gg, .int tp, .int go, .int ge, .long tk, .ref t])) := gU_s ew_1
  refine lv_aload_n hx hb dX4_startPiece_5 rfl (lv_at hl 0 rfl) ?_
  refine lv_iload_n hx hb dX4_startPiece_6 rfl (lv_at hl 2 rfl) ?_
  refine g_put hE hG h_2 rfl inG4 tyX4 tyX4_ok nmX4 1 (by decide) mw1_42 rfl rfl rfl (Nat.le_of_ble_eq_true rfl) dX4_startPiece_7 (fun H locs w_3 ew_3 hG => ?_)
  have h_4 : w_3 k0 = some (h0, .inr (4, [.int x, .int y, .int pl, .int bl, .int lv, .int gg, .int tp, .int go, .int ge, .long tk, .ref t])) := gU_s ew_3
  refine lv_aload_n hx hb dX4_startPiece_10 rfl (lv_at hl 0 rfl) ?_
  refine lv_iconst (v := 0) hx hb dX4_startPiece_11 (by decide) ?_
  refine g_put hE hG h_4 rfl inG4 tyX4 tyX4_ok nmX4 2 (by decide) mw1_43 rfl rfl rfl (Nat.le_of_ble_eq_true rfl) dX4_startPiece_12 (fun H locs w_5 ew_5 hG => ?_)
  have h_6 : w_5 k0 = some (h0, .inr (4, [.int x, .int y, .int 0, .int bl, .int lv, .int gg, .int tp, .int go, .int ge, .long tk, .ref t])) := gU_s ew_5
  refine lv_aload_n hx hb dX4_startPiece_15 rfl (lv_at hl 0 rfl) ?_
  refine lv_bipush (v := 20) hx hb dX4_startPiece_16 (by decide) ?_
  refine g_put hE hG h_6 rfl inG4 tyX4 tyX4_ok nmX4 3 (by decide) mw1_45 rfl rfl rfl (Nat.le_of_ble_eq_true rfl) dX4_startPiece_18 (fun H locs w_7 ew_7 hG => ?_)
  have h_8 : w_7 k0 = some (h0, .inr (4, [.int x, .int y, .int 0, .int 20, .int lv, .int gg, .int tp, .int go, .int ge, .long tk, .ref t])) := gU_s ew_7
  refine lv_aload_n hx hb dX4_startPiece_21 rfl (lv_at hl 0 rfl) ?_
  refine lv_iconst (v := 0) hx hb dX4_startPiece_22 (by decide) ?_
  refine g_put hE hG h_8 rfl inG4 tyX4 tyX4_ok nmX4 4 (by decide) mw1_47 rfl rfl rfl (Nat.le_of_ble_eq_true rfl) dX4_startPiece_23 (fun H locs w_9 ew_9 hG => ?_)
  have h_10 : w_9 k0 = some (h0, .inr (4, [.int x, .int y, .int 0, .int 20, .int 0, .int gg, .int tp, .int go, .int ge, .long tk, .ref t])) := gU_s ew_9
  refine lv_aload_n hx hb dX4_startPiece_26 rfl (lv_at hl 0 rfl) ?_
  refine lv_iconst (v := 0) hx hb dX4_startPiece_27 (by decide) ?_
  refine g_put hE hG h_10 rfl inG4 tyX4 tyX4_ok nmX4 5 (by decide) mw1_49 rfl rfl rfl (Nat.le_of_ble_eq_true rfl) dX4_startPiece_28 (fun H locs w_11 ew_11 hG => ?_)
  have h_12 : w_11 k0 = some (h0, .inr (4, [.int x, .int y, .int 0, .int 20, .int 0, .int 0, .int tp, .int go, .int ge, .long tk, .ref t])) := gU_s ew_11
  refine lv_aload_n hx hb dX4_startPiece_31 rfl (lv_at hl 0 rfl) ?_
  refine lv_iconst (v := 0) hx hb dX4_startPiece_32 (by decide) ?_
  refine g_put hE hG h_12 rfl inG4 tyX4 tyX4_ok nmX4 6 (by decide) mw1_51 rfl rfl rfl (Nat.le_of_ble_eq_true rfl) dX4_startPiece_33 (fun H locs w_13 ew_13 hG => ?_)
  have h_14 : w_13 k0 = some (h0, .inr (4, [.int x, .int y, .int 0, .int 20, .int 0, .int 0, .int 0, .int go, .int ge, .long tk, .ref t])) := gU_s ew_13
  refine lv_aload_n hx hb dX4_startPiece_36 rfl (lv_at hl 0 rfl) ?_
  refine lv_iconst (v := 0) hx hb dX4_startPiece_37 (by decide) ?_
  refine g_put hE hG h_14 rfl inG4 tyX4 tyX4_ok nmX4 8 (by decide) mw1_54 rfl rfl rfl (Nat.le_of_ble_eq_true rfl) dX4_startPiece_38 (fun H locs w_15 ew_15 hG => ?_)
  have h_16 : w_15 k0 = some (h0, .inr (4, [.int x, .int y, .int 0, .int 20, .int 0, .int 0, .int 0, .int go, .int 0, .long tk, .ref t])) := gU_s ew_15
  refine lv_aload_n hx hb dX4_startPiece_41 rfl (lv_at hl 0 rfl) ?_
  refine lv_iconst (v := 1) hx hb dX4_startPiece_42 (by decide) ?_
  refine g_put hE hG h_16 rfl inG4 tyX4 tyX4_ok nmX4 7 (by decide) mw1_52 rfl (by decide) (by decide) (Nat.le_of_ble_eq_true rfl) dX4_startPiece_43 (fun H locs w_17 ew_17 hG => ?_)
  have h_18 : w_17 k0 = some (h0, .inr (4, [.int x, .int y, .int 0, .int 20, .int 0, .int 0, .int 0, .int 1, .int 0, .long tk, .ref t])) := gU_s ew_17
  subst hQ
  exact g_vret hE hG hr (Nat.le_of_ble_eq_true rfl) (Nat.le_of_ble_eq_true rfl) dX4_startPiece_46 ⟨rfl, by rw [ew_17, ew_15, ew_13, ew_11, ew_9, ew_7, ew_5, ew_3, ew_1]; simp only [gU_gU] <;> rfl⟩
abbrev rm_X4_hearEnd : Room := { frames := 1, cells := 0, slots := 0, locals := 50 }
theorem nm_X4_hearEnd : gNm yX4_hearEnd 0 := ⟨by decide +kernel, by decide +kernel, by decide +kernel⟩
set_option maxHeartbeats 4000000 in
set_option maxRecDepth 100000 in
theorem c_X4_hearEnd (l : Launch) (hfl : l.stackTraces = false) (D : va_G) (tc : Nat → ClassId) (A : Nat → Prop) (w : gW) (k0 : Nat) (h0 : Nat) (t : Nat) (pn : Int32) (cy : Int32) (pl : Int32) (bl : Int32) (lv : Int32) (gg : Int32) (tp : Int32) (go : Int32) (ge : Int32) (tk : Int64) (h1 : w k0 = some (h0, .inr (4, [.int pn, .int cy, .int pl, .int bl, .int lv, .int gg, .int tp, .int go, .int ge, .long tk, .ref t]))) : gM l yX4_hearEnd cX4_hearEnd 1 none rm_X4_hearEnd D tc A [.ref h0] w (fun v w' => v = none ∧ w' = gU w k0 (h0, .inr (4, [.int pn, .int cy, .int pl, .int bl, .int lv, .int gg, .int tp, .int go, .int (f_hge cy pl ge), .long tk, .ref t]))) (fun _ => False) := by
  refine gM_of (by decide +kernel) (Nat.le_of_ble_eq_true rfl) ?_
  intro p e s m args below meth c ls Q hQ hE hG hr hnt hnm hl
  have hx := hE.1
  have hb := hE.2.1
  have hl : lv_has ls 1 [(0, .ref h0)] := hl
  refine lv_aload_n hx hb dX4_hearEnd_0 rfl (lv_at hl 0 rfl) ?_
  refine g_get hE hG h1 rfl inG4 8 (by decide) mw1_54 rfl dX4_hearEnd_1 ?_
  refine lv_if_ne (tgt := 29) hx hb dX4_hearEnd_4 (by decide) (fun c_1 => ?_) (fun c_1 => ?_)
  · skip
    subst hQ
    exact g_vret hE hG hr (Nat.le_of_ble_eq_true rfl) (Nat.le_of_ble_eq_true rfl) dX4_hearEnd_29 ⟨rfl, by unfold f_hge; rw [if_neg c_1]; exact (gU_self h1).symm⟩
  · skip
    refine lv_aload_n hx hb dX4_hearEnd_7 rfl (lv_at hl 0 rfl) ?_
    refine lv_aload_n hx hb dX4_hearEnd_8 rfl (lv_at hl 0 rfl) ?_
    refine g_get hE hG h1 rfl inG4 2 (by decide) mw1_43 rfl dX4_hearEnd_9 ?_
    refine lv_aload_n hx hb dX4_hearEnd_12 rfl (lv_at hl 0 rfl) ?_
    refine g_get hE hG h1 rfl inG4 1 (by decide) mw1_42 rfl dX4_hearEnd_13 ?_
    refine lv_iconst (v := 2) hx hb dX4_hearEnd_16 (by decide) ?_
    refine lv_idiv hx hb dX4_hearEnd_17 (by decide) ?_
    refine lv_icmp_gt (tgt := 25) hx hb dX4_hearEnd_18 (by decide) (fun c_2 => ?_) (fun c_2 => ?_)
    · skip
      refine lv_iconst (v := 2) hx hb dX4_hearEnd_25 (by decide) ?_
      refine g_put hE hG h1 rfl inG4 tyX4 tyX4_ok nmX4 8 (by decide) mw1_54 rfl rfl rfl (Nat.le_of_ble_eq_true rfl) dX4_hearEnd_26 (fun H locs w_3 ew_3 hG => ?_)
      have h_4 : w_3 k0 = some (h0, .inr (4, [.int pn, .int cy, .int pl, .int bl, .int lv, .int gg, .int tp, .int go, .int 2, .long tk, .ref t])) := gU_s ew_3
      subst hQ
      exact g_vret hE hG hr (Nat.le_of_ble_eq_true rfl) (Nat.le_of_ble_eq_true rfl) dX4_hearEnd_29 ⟨rfl, by rw [ew_3]; unfold f_hge; rw [if_pos c_1, if_pos c_2] <;> rfl⟩
    · skip
      refine lv_iconst (v := 1) hx hb dX4_hearEnd_21 (by decide) ?_
      refine lv_goto (tgt := 26) hx hb dX4_hearEnd_22 (by decide) ?_
      refine g_put hE hG h1 rfl inG4 tyX4 tyX4_ok nmX4 8 (by decide) mw1_54 rfl rfl rfl (Nat.le_of_ble_eq_true rfl) dX4_hearEnd_26 (fun H locs w_5 ew_5 hG => ?_)
      have h_6 : w_5 k0 = some (h0, .inr (4, [.int pn, .int cy, .int pl, .int bl, .int lv, .int gg, .int tp, .int go, .int 1, .long tk, .ref t])) := gU_s ew_5
      subst hQ
      exact g_vret hE hG hr (Nat.le_of_ble_eq_true rfl) (Nat.le_of_ble_eq_true rfl) dX4_hearEnd_29 ⟨rfl, by rw [ew_5]; unfold f_hge; rw [if_pos c_1, if_neg c_2] <;> rfl⟩
def f_htp (tp x : Int32) : Int32 := if x = 3 then tp else if x = 4 then tp else x
def f_hgo (go x : Int32) : Int32 := if x = 3 then go else if x = 4 then 0 else go
def f_hhe (cy pl ge x : Int32) : Int32 := if x = 3 then f_hge cy pl ge else ge
abbrev rm_X4_hearDrum : Room := { frames := 2, cells := 0, slots := 0, locals := 86 }
theorem nm_X4_hearDrum : gNm yX4_hearDrum 1 := ⟨by decide +kernel, by decide +kernel, by decide +kernel⟩
set_option maxHeartbeats 4000000 in
set_option maxRecDepth 100000 in
theorem c_X4_hearDrum (l : Launch) (hfl : l.stackTraces = false) (D : va_G) (tc : Nat → ClassId) (A : Nat → Prop) (w : gW) (k0 : Nat) (h0 : Nat) (t : Nat) (pn : Int32) (cy : Int32) (pl : Int32) (bl : Int32) (lv : Int32) (gg : Int32) (tp : Int32) (go : Int32) (ge : Int32) (tk : Int64) (x : Int32) (h1 : w k0 = some (h0, .inr (4, [.int pn, .int cy, .int pl, .int bl, .int lv, .int gg, .int tp, .int go, .int ge, .long tk, .ref t]))) : gM l yX4_hearDrum cX4_hearDrum 2 none rm_X4_hearDrum D tc A [.ref h0, .int x] w (fun v w' => v = none ∧ w' = gU w k0 (h0, .inr (4, [.int pn, .int cy, .int pl, .int bl, .int lv, .int gg, .int (f_htp tp x), .int (f_hgo go x), .int (f_hhe cy pl ge x), .long tk, .ref t]))) (fun _ => False) := by
  refine gM_of (by decide +kernel) (Nat.le_of_ble_eq_true rfl) ?_
  intro p e s m args below meth c ls Q hQ hE hG hr hnt hnm hl
  have hx := hE.1
  have hb := hE.2.1
  have hl : lv_has ls 2 [(0, .ref h0), (1, .int x)] := hl
  refine lv_iload_n hx hb dX4_hearDrum_0 rfl (lv_at hl 1 rfl) ?_
  by_cases c_1 : x = 3
  · skip
    refine lv_lookup (off := 27) (tgt := 28) hx hb dX4_hearDrum_1 (by decide) (by rw [c_1]; decide) (by decide) ?_
    refine lv_aload_n hx hb dX4_hearDrum_28 rfl (lv_at hl 0 rfl) ?_
    refine g_callV (rest := []) (As := []) hE hG hl.1 (c_X4_hearEnd l hfl D tc A w k0 h0 t pn cy pl bl lv gg tp go ge tk h1 ) h1 rfl mw2_142 mw2_144 mws_4 mw1_2 mw2_145 rfl nm_X4_hearEnd ⟨⟨Nat.le_of_ble_eq_true rfl, Nat.le_of_ble_eq_true rfl⟩, Nat.le_of_ble_eq_true rfl, Nat.le_of_ble_eq_true rfl⟩ rfl rfl (Nat.le_of_ble_eq_true rfl) dX4_hearDrum_29 (g_no) ?_
    intro v9 w9 H locs h9 hG
    obtain ⟨e9, ew_2⟩ := h9
    rw [e9]; clear e9; revert w9; intro w_2 hG ew_2
    show W p l e _ s m args below meth c H locs _ _ _ (F0 m 32 ls [])
    have h_3 : w_2 k0 = some (h0, .inr (4, [.int pn, .int cy, .int pl, .int bl, .int lv, .int gg, .int tp, .int go, .int (f_hge cy pl ge), .long tk, .ref t])) := gU_s ew_2
    refine lv_goto (tgt := 48) hx hb dX4_hearDrum_32 (by decide) ?_
    subst hQ
    exact g_vret hE hG hr (Nat.le_of_ble_eq_true rfl) (Nat.le_of_ble_eq_true rfl) dX4_hearDrum_48 ⟨rfl, by rw [ew_2]; simp [f_htp, f_hgo, f_hhe, c_1] <;> rfl⟩
  by_cases c_4 : x = 4
  · skip
    refine lv_lookup (off := 34) (tgt := 35) hx hb dX4_hearDrum_1 (by decide) (by rw [c_4]; decide) (by decide) ?_
    refine lv_aload_n hx hb dX4_hearDrum_35 rfl (lv_at hl 0 rfl) ?_
    refine lv_iconst (v := 0) hx hb dX4_hearDrum_36 (by decide) ?_
    refine g_put hE hG h1 rfl inG4 tyX4 tyX4_ok nmX4 7 (by decide) mw1_52 rfl (by decide) (by decide) (Nat.le_of_ble_eq_true rfl) dX4_hearDrum_37 (fun H locs w_5 ew_5 hG => ?_)
    have h_6 : w_5 k0 = some (h0, .inr (4, [.int pn, .int cy, .int pl, .int bl, .int lv, .int gg, .int tp, .int 0, .int ge, .long tk, .ref t])) := gU_s ew_5
    refine lv_goto (tgt := 48) hx hb dX4_hearDrum_40 (by decide) ?_
    subst hQ
    exact g_vret hE hG hr (Nat.le_of_ble_eq_true rfl) (Nat.le_of_ble_eq_true rfl) dX4_hearDrum_48 ⟨rfl, by rw [ew_5]; simp [f_htp, f_hgo, f_hhe, c_1, c_4] <;> rfl⟩
  refine lv_lookup (off := 42) (tgt := 43) hx hb dX4_hearDrum_1 (by decide) (by show Op.lookupswitch.offset [(3, 27), (4, 34)] 42 _ = _; rw [lv_osw c_1 (by decide), lv_osw c_4 (by decide)]; rfl) (by decide) ?_
  refine lv_aload_n hx hb dX4_hearDrum_43 rfl (lv_at hl 0 rfl) ?_
  refine lv_iload_n hx hb dX4_hearDrum_44 rfl (lv_at hl 1 rfl) ?_
  refine g_put hE hG h1 rfl inG4 tyX4 tyX4_ok nmX4 6 (by decide) mw1_51 rfl rfl rfl (Nat.le_of_ble_eq_true rfl) dX4_hearDrum_45 (fun H locs w_7 ew_7 hG => ?_)
  have h_8 : w_7 k0 = some (h0, .inr (4, [.int pn, .int cy, .int pl, .int bl, .int lv, .int gg, .int x, .int go, .int ge, .long tk, .ref t])) := gU_s ew_7
  subst hQ
  exact g_vret hE hG hr (Nat.le_of_ble_eq_true rfl) (Nat.le_of_ble_eq_true rfl) dX4_hearDrum_48 ⟨rfl, by rw [ew_7]; simp [f_htp, f_hgo, f_hhe, c_1, c_4] <;> rfl⟩
abbrev rm_X4_changeBeatLength : Room := { frames := 2, cells := 0, slots := 0, locals := 86 }
theorem nm_X4_changeBeatLength : gNm yX4_changeBeatLength 0 := ⟨by decide +kernel, by decide +kernel, by decide +kernel⟩
set_option maxHeartbeats 4000000 in
set_option maxRecDepth 100000 in
theorem c_X4_changeBeatLength (l : Launch) (hfl : l.stackTraces = false) (D : va_G) (tc : Nat → ClassId) (A : Nat → Prop) (w : gW) (k0 : Nat) (h0 : Nat) (t : Nat) (pn : Int32) (cy : Int32) (pl : Int32) (bl : Int32) (lv : Int32) (gg : Int32) (tp : Int32) (go : Int32) (ge : Int32) (tk : Int64) (h1 : w k0 = some (h0, .inr (4, [.int pn, .int cy, .int pl, .int bl, .int lv, .int gg, .int tp, .int go, .int ge, .long tk, .ref t]))) : gM l yX4_changeBeatLength cX4_changeBeatLength 1 none rm_X4_changeBeatLength D tc A [.ref h0] w (fun v w' => v = none ∧ w' = gU w k0 (h0, .inr (4, [.int pn, .int cy, .int pl, .int (f_nbl tp bl), .int lv, .int gg, .int tp, .int go, .int ge, .long tk, .ref t]))) (fun _ => False) := by
  refine gM_of (by decide +kernel) (Nat.le_of_ble_eq_true rfl) ?_
  intro p e s m args below meth c ls Q hQ hE hG hr hnt hnm hl
  have hx := hE.1
  have hb := hE.2.1
  have hl : lv_has ls 1 [(0, .ref h0)] := hl
  refine lv_aload_n hx hb dX4_changeBeatLength_0 rfl (lv_at hl 0 rfl) ?_
  refine g_get hE hG h1 rfl inG4 6 (by decide) mw1_51 rfl dX4_changeBeatLength_1 ?_
  refine lv_iconst (v := 1) hx hb dX4_changeBeatLength_4 (by decide) ?_
  refine lv_icmp_ne (tgt := 27) hx hb dX4_changeBeatLength_5 (by decide) (fun c_1 => ?_) (fun c_1 => ?_)
  · skip
    refine lv_aload_n hx hb dX4_changeBeatLength_27 rfl (lv_at hl 0 rfl) ?_
    refine g_get hE hG h1 rfl inG4 6 (by decide) mw1_51 rfl dX4_changeBeatLength_28 ?_
    refine lv_iconst (v := 2) hx hb dX4_changeBeatLength_31 (by decide) ?_
    refine lv_icmp_ne (tgt := 50) hx hb dX4_changeBeatLength_32 (by decide) (fun c_2 => ?_) (fun c_2 => ?_)
    · skip
      subst hQ
      exact g_vret hE hG hr (Nat.le_of_ble_eq_true rfl) (Nat.le_of_ble_eq_true rfl) dX4_changeBeatLength_50 ⟨rfl, by unfold f_nbl; rw [if_neg c_1, if_neg c_2]; exact (gU_self h1).symm⟩
    · skip
      refine lv_aload_n hx hb dX4_changeBeatLength_35 rfl (lv_at hl 0 rfl) ?_
      refine lv_aload_n hx hb dX4_changeBeatLength_36 rfl (lv_at hl 0 rfl) ?_
      refine g_get hE hG h1 rfl inG4 3 (by decide) mw1_45 rfl dX4_changeBeatLength_37 ?_
      refine lv_iconst (v := 2) hx hb dX4_changeBeatLength_40 (by decide) ?_
      refine lv_isub hx hb dX4_changeBeatLength_41 ?_
      refine lv_bipush (v := 10) hx hb dX4_changeBeatLength_42 (by decide) ?_
      refine va_mmax hx hb (hE.2.2.1.trans hl.1.symm) hE.2.2.2.1 (hE.2.2.2.2.1 _ mw2_171) (hE.2.2.2.2.1 _ mw2_33) (hE.2.2.2.2.1 _ mw1_12) (hE.2.2.2.2.1 _ mw2_34) (Nat.le_of_ble_eq_true rfl) (Nat.le_of_ble_eq_true rfl) (Nat.le_of_ble_eq_true rfl) (Nat.le_of_ble_eq_true rfl) dX4_changeBeatLength_44 ?_
      refine g_put hE hG h1 rfl inG4 tyX4 tyX4_ok nmX4 3 (by decide) mw1_45 rfl rfl rfl (Nat.le_of_ble_eq_true rfl) dX4_changeBeatLength_47 (fun H locs w_3 ew_3 hG => ?_)
      have h_4 : w_3 k0 = some (h0, .inr (4, [.int pn, .int cy, .int pl, .int (if (bl - 2) < 10 then 10 else (bl - 2)), .int lv, .int gg, .int tp, .int go, .int ge, .long tk, .ref t])) := gU_s ew_3
      subst hQ
      exact g_vret hE hG hr (Nat.le_of_ble_eq_true rfl) (Nat.le_of_ble_eq_true rfl) dX4_changeBeatLength_50 ⟨rfl, by rw [ew_3]; unfold f_nbl; rw [if_neg c_1, if_pos c_2] <;> rfl⟩
  · skip
    refine lv_aload_n hx hb dX4_changeBeatLength_8 rfl (lv_at hl 0 rfl) ?_
    refine lv_aload_n hx hb dX4_changeBeatLength_9 rfl (lv_at hl 0 rfl) ?_
    refine g_get hE hG h1 rfl inG4 3 (by decide) mw1_45 rfl dX4_changeBeatLength_10 ?_
    refine lv_iconst (v := 2) hx hb dX4_changeBeatLength_13 (by decide) ?_
    refine lv_iadd hx hb dX4_changeBeatLength_14 ?_
    refine lv_sipush (v := 160) hx hb dX4_changeBeatLength_15 (by decide) ?_
    refine va_mmin hx hb (hE.2.2.1.trans hl.1.symm) hE.2.2.2.1 (hE.2.2.2.2.1 _ mw2_168) (hE.2.2.2.2.1 _ mw2_169) (hE.2.2.2.2.1 _ mw1_12) (hE.2.2.2.2.1 _ mw2_170) (Nat.le_of_ble_eq_true rfl) (Nat.le_of_ble_eq_true rfl) (Nat.le_of_ble_eq_true rfl) (Nat.le_of_ble_eq_true rfl) dX4_changeBeatLength_18 ?_
    refine g_put hE hG h1 rfl inG4 tyX4 tyX4_ok nmX4 3 (by decide) mw1_45 rfl rfl rfl (Nat.le_of_ble_eq_true rfl) dX4_changeBeatLength_21 (fun H locs w_5 ew_5 hG => ?_)
    have h_6 : w_5 k0 = some (h0, .inr (4, [.int pn, .int cy, .int pl, .int (if 160 < (bl + 2) then 160 else (bl + 2)), .int lv, .int gg, .int tp, .int go, .int ge, .long tk, .ref t])) := gU_s ew_5
    refine lv_goto (tgt := 50) hx hb dX4_changeBeatLength_24 (by decide) ?_
    subst hQ
    exact g_vret hE hG hr (Nat.le_of_ble_eq_true rfl) (Nat.le_of_ble_eq_true rfl) dX4_changeBeatLength_50 ⟨rfl, by rw [ew_5]; unfold f_nbl; rw [if_pos c_1] <;> rfl⟩
abbrev rm_X4_playGong : Room := { frames := 2, cells := 0, slots := 0, locals := 86 }
theorem nm_X4_playGong : gNm yX4_playGong 0 := ⟨by decide +kernel, by decide +kernel, by decide +kernel⟩
set_option maxHeartbeats 4000000 in
set_option maxRecDepth 100000 in
theorem c_X4_playGong (l : Launch) (hfl : l.stackTraces = false) (D : va_G) (tc : Nat → ClassId) (A : Nat → Prop) (w : gW) (k0 : Nat) (h0 : Nat) (t : Nat) (pn : Int32) (cy : Int32) (pl : Int32) (bl : Int32) (lv : Int32) (gg : Int32) (tp : Int32) (go : Int32) (ge : Int32) (tk : Int64) (h1 : w k0 = some (h0, .inr (4, [.int pn, .int cy, .int pl, .int bl, .int lv, .int gg, .int tp, .int go, .int ge, .long tk, .ref t]))) : gM l yX4_playGong cX4_playGong 1 none rm_X4_playGong D tc A [.ref h0] w (fun v w' => v = none ∧ w' = gU w k0 (h0, .inr (4, [.int pn, .int cy, .int pl, .int bl, .int (f_lev bl), .int (gg + 1), .int tp, .int (f_ggo go ge), .int (f_gge ge), .long tk, .ref t]))) (fun _ => False) := by
  refine gM_of (by decide +kernel) (Nat.le_of_ble_eq_true rfl) ?_
  intro p e s m args below meth c ls Q hQ hE hG hr hnt hnm hl
  have hx := hE.1
  have hb := hE.2.1
  have hl : lv_has ls 1 [(0, .ref h0)] := hl
  refine lv_aload_n hx hb dX4_playGong_0 rfl (lv_at hl 0 rfl) ?_
  refine lv_dup hx hb dX4_playGong_1 rfl ?_
  refine g_get hE hG h1 rfl inG4 5 (by decide) mw1_49 rfl dX4_playGong_2 ?_
  refine lv_iconst (v := 1) hx hb dX4_playGong_5 (by decide) ?_
  refine lv_iadd hx hb dX4_playGong_6 ?_
  refine g_put hE hG h1 rfl inG4 tyX4 tyX4_ok nmX4 5 (by decide) mw1_49 rfl rfl rfl (Nat.le_of_ble_eq_true rfl) dX4_playGong_7 (fun H locs w_1 ew_1 hG => ?_)
  have h_2 : w_1 k0 = some (h0, .inr (4, [.int pn, .int cy, .int pl, .int bl, .int lv, .int (gg + 1), .int tp, .int go, .int ge, .long tk, .ref t])) := gU_s ew_1
  refine lv_aload_n hx hb dX4_playGong_10 rfl (lv_at hl 0 rfl) ?_
  refine lv_aload_n hx hb dX4_playGong_11 rfl (lv_at hl 0 rfl) ?_
  refine g_get hE hG h_2 rfl inG4 3 (by decide) mw1_45 rfl dX4_playGong_12 ?_
  refine g_callS (rest := [.ref h0]) (As := [.int bl]) hE hG hl.1 (c_X4_levelOf l hfl D tc A w_1 bl ) mw2_176 mw2_177 mw1_2 mw2_178 nm_X4_levelOf ⟨⟨Nat.le_of_ble_eq_true rfl, Nat.le_of_ble_eq_true rfl⟩, Nat.le_of_ble_eq_true rfl, Nat.le_of_ble_eq_true rfl⟩ rfl rfl (Nat.le_of_ble_eq_true rfl) dX4_playGong_15 (g_no) ?_
  intro v9 w9 H locs h9 hG
  obtain ⟨e9, f9⟩ := h9
  rw [f9] at hG; rw [e9]; clear e9 f9
  show W p l e _ s m args below meth c H locs _ _ _ (F0 m 18 ls [.int (f_lev bl), .ref h0])
  refine g_put hE hG h_2 rfl inG4 tyX4 tyX4_ok nmX4 4 (by decide) mw1_47 rfl rfl rfl (Nat.le_of_ble_eq_true rfl) dX4_playGong_18 (fun H locs w_3 ew_3 hG => ?_)
  have h_4 : w_3 k0 = some (h0, .inr (4, [.int pn, .int cy, .int pl, .int bl, .int (f_lev bl), .int (gg + 1), .int tp, .int go, .int ge, .long tk, .ref t])) := gU_s ew_3
  refine lv_aload_n hx hb dX4_playGong_21 rfl (lv_at hl 0 rfl) ?_
  refine g_get hE hG h_4 rfl inG4 8 (by decide) mw1_54 rfl dX4_playGong_22 ?_
  refine lv_if_le (tgt := 54) hx hb dX4_playGong_25 (by decide) (fun c_5 => ?_) (fun c_5 => ?_)
  · skip
    subst hQ
    exact g_vret hE hG hr (Nat.le_of_ble_eq_true rfl) (Nat.le_of_ble_eq_true rfl) dX4_playGong_54 ⟨rfl, by rw [ew_3, ew_1]; simp only [gU_gU]; unfold f_gge f_ggo; simp only [if_pos c_5] <;> rfl⟩
  · skip
    refine lv_aload_n hx hb dX4_playGong_28 rfl (lv_at hl 0 rfl) ?_
    refine lv_dup hx hb dX4_playGong_29 rfl ?_
    refine g_get hE hG h_4 rfl inG4 8 (by decide) mw1_54 rfl dX4_playGong_30 ?_
    refine lv_iconst (v := 1) hx hb dX4_playGong_33 (by decide) ?_
    refine lv_isub hx hb dX4_playGong_34 ?_
    refine g_put hE hG h_4 rfl inG4 tyX4 tyX4_ok nmX4 8 (by decide) mw1_54 rfl rfl rfl (Nat.le_of_ble_eq_true rfl) dX4_playGong_35 (fun H locs w_6 ew_6 hG => ?_)
    have h_7 : w_6 k0 = some (h0, .inr (4, [.int pn, .int cy, .int pl, .int bl, .int (f_lev bl), .int (gg + 1), .int tp, .int go, .int (ge - 1), .long tk, .ref t])) := gU_s ew_6
    refine lv_aload_n hx hb dX4_playGong_38 rfl (lv_at hl 0 rfl) ?_
    refine lv_aload_n hx hb dX4_playGong_39 rfl (lv_at hl 0 rfl) ?_
    refine g_get hE hG h_7 rfl inG4 8 (by decide) mw1_54 rfl dX4_playGong_40 ?_
    refine lv_if_le (tgt := 50) hx hb dX4_playGong_43 (by decide) (fun c_8 => ?_) (fun c_8 => ?_)
    · skip
      refine lv_iconst (v := 0) hx hb dX4_playGong_50 (by decide) ?_
      refine g_put hE hG h_7 rfl inG4 tyX4 tyX4_ok nmX4 7 (by decide) mw1_52 rfl (by decide) (by decide) (Nat.le_of_ble_eq_true rfl) dX4_playGong_51 (fun H locs w_9 ew_9 hG => ?_)
      have h_10 : w_9 k0 = some (h0, .inr (4, [.int pn, .int cy, .int pl, .int bl, .int (f_lev bl), .int (gg + 1), .int tp, .int 0, .int (ge - 1), .long tk, .ref t])) := gU_s ew_9
      subst hQ
      exact g_vret hE hG hr (Nat.le_of_ble_eq_true rfl) (Nat.le_of_ble_eq_true rfl) dX4_playGong_54 ⟨rfl, by rw [ew_9, ew_6, ew_3, ew_1]; simp only [gU_gU]; unfold f_gge f_ggo; simp only [if_neg c_5, if_pos c_8] <;> rfl⟩
    · skip
      refine lv_iconst (v := 1) hx hb dX4_playGong_46 (by decide) ?_
      refine lv_goto (tgt := 51) hx hb dX4_playGong_47 (by decide) ?_
      refine g_put hE hG h_7 rfl inG4 tyX4 tyX4_ok nmX4 7 (by decide) mw1_52 rfl (by decide) (by decide) (Nat.le_of_ble_eq_true rfl) dX4_playGong_51 (fun H locs w_11 ew_11 hG => ?_)
      have h_12 : w_11 k0 = some (h0, .inr (4, [.int pn, .int cy, .int pl, .int bl, .int (f_lev bl), .int (gg + 1), .int tp, .int 1, .int (ge - 1), .long tk, .ref t])) := gU_s ew_11
      subst hQ
      exact g_vret hE hG hr (Nat.le_of_ble_eq_true rfl) (Nat.le_of_ble_eq_true rfl) dX4_playGong_54 ⟨rfl, by rw [ew_11, ew_6, ew_3, ew_1]; simp only [gU_gU]; unfold f_gge f_ggo; simp only [if_neg c_5, if_neg c_8] <;> rfl⟩
def f_bgg (cy pl gg : Int32) : Int32 := if f_npl cy pl = cy then gg + 1 else gg
def f_blv (cy pl tp bl lv : Int32) : Int32 := if f_npl cy pl = cy then f_lev (f_nbl tp bl) else lv
def f_bge (cy pl ge : Int32) : Int32 := if f_npl cy pl = cy then f_gge ge else ge
def f_bgo (cy pl go ge : Int32) : Int32 := if f_npl cy pl = cy then f_ggo go ge else go
abbrev rm_X4_playBeat : Room := { frames := 3, cells := 0, slots := 0, locals := 122 }
theorem nm_X4_playBeat : gNm yX4_playBeat 0 := ⟨by decide +kernel, by decide +kernel, by decide +kernel⟩
set_option maxHeartbeats 4000000 in
set_option maxRecDepth 100000 in
theorem c_X4_playBeat (l : Launch) (hfl : l.stackTraces = false) (D : va_G) (tc : Nat → ClassId) (A : Nat → Prop) (w : gW) (k0 : Nat) (k1 : Nat) (h0 : Nat) (t : Nat) (pn : Int32) (cy : Int32) (pl : Int32) (bl : Int32) (lv : Int32) (gg : Int32) (tp : Int32) (go : Int32) (ge : Int32) (tk : Int64) (st : Nat → Int64) (h1 : w k0 = some (h0, .inr (4, [.int pn, .int cy, .int pl, .int bl, .int lv, .int gg, .int tp, .int go, .int ge, .long tk, .ref t]))) (h2 : w k1 = some (t, .inl (tc 1, 4, .inr (.inl st)))) : gM l yX4_playBeat cX4_playBeat 2 none rm_X4_playBeat D tc A [.ref h0] w (fun v w' => v = none ∧ w' = gU (gU w k1 (t, .inl (tc 1, 4, .inr (.inl (f_sts lv st))))) k0 (h0, .inr (4, [.int pn, .int cy, .int (f_npl cy pl), .int (f_nbl tp bl), .int (f_blv cy pl tp bl lv), .int (f_bgg cy pl gg), .int tp, .int (f_bgo cy pl go ge), .int (f_bge cy pl ge), .long (tk + bl.toInt64), .ref t]))) (fun _ => False) := by
  refine gM_of (by decide +kernel) (Nat.le_of_ble_eq_true rfl) ?_
  intro p e s m args below meth c ls Q hQ hE hG hr hnt hnm hl
  have hx := hE.1
  have hb := hE.2.1
  have hl : lv_has ls 2 [(0, .ref h0)] := hl
  refine lv_aload_n hx hb dX4_playBeat_0 rfl (lv_at hl 0 rfl) ?_
  refine lv_aload_n hx hb dX4_playBeat_1 rfl (lv_at hl 0 rfl) ?_
  refine g_get hE hG h1 rfl inG4 2 (by decide) mw1_43 rfl dX4_playBeat_2 ?_
  refine lv_aload_n hx hb dX4_playBeat_5 rfl (lv_at hl 0 rfl) ?_
  refine g_get hE hG h1 rfl inG4 1 (by decide) mw1_42 rfl dX4_playBeat_6 ?_
  have j_2 : ∀ (v_1 : Int32) (H : Heap) (locs : List Loc), v_1 = (if cy ≤ pl then 1 else (pl + 1) : Int32) → gS D A s.heap w H locs → W p l e rm_X4_playBeat s m args below meth c H locs 0 0 Q (F0 m 22 ls (.int v_1 :: [.ref h0])) := by
    intro v_1 H locs ev_1 hG
    refine g_put hE hG h1 rfl inG4 tyX4 tyX4_ok nmX4 2 (by decide) mw1_43 rfl rfl rfl (Nat.le_of_ble_eq_true rfl) dX4_playBeat_22 (fun H locs w_3 ew_3 hG => ?_)
    have h_4 : w_3 k1 = some (t, .inl (tc 1, 4, .inr (.inl st))) := gU_n ew_3 (gU_k h1 h2 (by first | (intro h9; cases h9; done) | simp)) h2
    have h_5 : w_3 k0 = some (h0, .inr (4, [.int pn, .int cy, .int v_1, .int bl, .int lv, .int gg, .int tp, .int go, .int ge, .long tk, .ref t])) := gU_s ew_3
    refine lv_aload_n hx hb dX4_playBeat_25 rfl (lv_at hl 0 rfl) ?_
    refine lv_dup hx hb dX4_playBeat_26 rfl ?_
    refine g_get hE hG h_5 rfl inG4 9 (by decide) mw1_55 rfl dX4_playBeat_27 ?_
    refine lv_aload_n hx hb dX4_playBeat_30 rfl (lv_at hl 0 rfl) ?_
    refine g_get hE hG h_5 rfl inG4 3 (by decide) mw1_45 rfl dX4_playBeat_31 ?_
    refine lv_i2l (v := bl.toInt64) hx hb dX4_playBeat_34 rfl ?_
    refine lv_ladd hx hb dX4_playBeat_35 ?_
    refine g_put hE hG h_5 rfl inG4 tyX4 tyX4_ok nmX4 9 (by decide) mw1_55 rfl rfl rfl (Nat.le_of_ble_eq_true rfl) dX4_playBeat_36 (fun H locs w_6 ew_6 hG => ?_)
    have h_7 : w_6 k1 = some (t, .inl (tc 1, 4, .inr (.inl st))) := gU_n ew_6 (gU_k h_5 h_4 (by first | (intro h9; cases h9; done) | simp)) h_4
    have h_8 : w_6 k0 = some (h0, .inr (4, [.int pn, .int cy, .int v_1, .int bl, .int lv, .int gg, .int tp, .int go, .int ge, .long (tk + bl.toInt64), .ref t])) := gU_s ew_6
    refine lv_iconst (v := 0) hx hb dX4_playBeat_39 (by decide) ?_
    refine lv_istore_n (lv' := [(1, .int 0), (0, .ref h0)]) hx hb dX4_playBeat_40 rfl hl (by decide) rfl (fun ls hl => ?_)
    refine lv_iload_n hx hb dX4_playBeat_41 rfl (lv_at hl 0 rfl) ?_
    refine lv_aload_n hx hb dX4_playBeat_42 rfl (lv_at hl 1 rfl) ?_
    refine g_get hE hG h_8 rfl inG4 10 (by decide) mw1_57 rfl dX4_playBeat_43 ?_
    refine g_alen (t0 := 1) (v := 4) hE hG h_7 rfl rfl dX4_playBeat_46 ?_
    refine lv_icmp_ge (tgt := 74) hx hb dX4_playBeat_47 (by decide) (fun c9 => absurd c9 (by decide)) (fun _ => ?_)
    refine lv_aload_n hx hb dX4_playBeat_50 rfl (lv_at hl 1 rfl) ?_
    refine g_get hE hG h_8 rfl inG4 10 (by decide) mw1_57 rfl dX4_playBeat_51 ?_
    refine lv_iload_n hx hb dX4_playBeat_54 rfl (lv_at hl 0 rfl) ?_
    refine lv_dup2_11 hx hb dX4_playBeat_55 rfl rfl ?_
    refine g_lald hE hG h_7 (vp_in_nI (n := 0) (N := 4) (by decide) (by decide)) dX4_playBeat_56 ?_
    refine lv_iload_n hx hb dX4_playBeat_57 rfl (lv_at hl 0 rfl) ?_
    refine lv_aload_n hx hb dX4_playBeat_58 rfl (lv_at hl 1 rfl) ?_
    refine g_get hE hG h_8 rfl inG4 4 (by decide) mw1_47 rfl dX4_playBeat_59 ?_
    refine g_callSN (rest := [.long (st (0 : Int32).toNatClampNeg), .int 0, .ref t]) (As := [.int 0, .int lv]) hE hG hl.1 (c_X5_densityOf l hfl D tc A w_6 0 lv ) (List.mem_of_getElem? (i := 1) rfl) mw2_162 mw1_1 mw2_163 nm_X5_densityOf ⟨⟨Nat.le_of_ble_eq_true rfl, Nat.le_of_ble_eq_true rfl⟩, Nat.le_of_ble_eq_true rfl, Nat.le_of_ble_eq_true rfl⟩ rfl rfl (Nat.le_of_ble_eq_true rfl) dX4_playBeat_62 ?_
    intro v9 w9 H locs h9 hG
    obtain ⟨e9, f9⟩ := h9
    rw [f9] at hG; rw [e9]; clear e9 f9
    show W p l e _ s m args below meth c H locs _ _ _ (F0 m 65 ls [.int (f_den 0 lv), .long (st (0 : Int32).toNatClampNeg), .int 0, .ref t])
    refine lv_i2l (v := (f_den 0 lv).toInt64) hx hb dX4_playBeat_65 rfl ?_
    refine lv_ladd hx hb dX4_playBeat_66 ?_
    refine g_last hE hG h_7 (vp_in_nI (n := 0) (N := 4) (by decide) (by decide)) dX4_playBeat_67 (fun H locs w_9 ew_9 hG => ?_)
    have h_10 : w_9 k0 = some (h0, .inr (4, [.int pn, .int cy, .int v_1, .int bl, .int lv, .int gg, .int tp, .int go, .int ge, .long (tk + bl.toInt64), .ref t])) := gU_n ew_9 (gU_k h_7 h_8 (by first | (intro h9; cases h9; done) | simp)) h_8
    have h_11 : w_9 k1 = some (t, .inl (tc 1, 4, .inr (.inl (vp_updL st (0 : Int32).toNatClampNeg ((st (0 : Int32).toNatClampNeg) + ((f_den 0 lv).toInt64)))))) := gU_s ew_9
    refine lv_iinc (v := 1) (lv' := [(1, .int 1), (0, .ref h0)]) hx hb dX4_playBeat_68 hl (k := 0) rfl (by decide) (by decide) rfl (fun ls hl => ?_)
    refine lv_goto (tgt := 41) hx hb dX4_playBeat_71 (by decide) ?_
    refine lv_iload_n hx hb dX4_playBeat_41 rfl (lv_at hl 0 rfl) ?_
    refine lv_aload_n hx hb dX4_playBeat_42 rfl (lv_at hl 1 rfl) ?_
    refine g_get hE hG h_10 rfl inG4 10 (by decide) mw1_57 rfl dX4_playBeat_43 ?_
    refine g_alen (t0 := 1) (v := 4) hE hG h_11 rfl rfl dX4_playBeat_46 ?_
    refine lv_icmp_ge (tgt := 74) hx hb dX4_playBeat_47 (by decide) (fun c9 => absurd c9 (by decide)) (fun _ => ?_)
    refine lv_aload_n hx hb dX4_playBeat_50 rfl (lv_at hl 1 rfl) ?_
    refine g_get hE hG h_10 rfl inG4 10 (by decide) mw1_57 rfl dX4_playBeat_51 ?_
    refine lv_iload_n hx hb dX4_playBeat_54 rfl (lv_at hl 0 rfl) ?_
    refine lv_dup2_11 hx hb dX4_playBeat_55 rfl rfl ?_
    refine g_lald hE hG h_11 (vp_in_nI (n := 1) (N := 4) (by decide) (by decide)) dX4_playBeat_56 ?_
    refine lv_iload_n hx hb dX4_playBeat_57 rfl (lv_at hl 0 rfl) ?_
    refine lv_aload_n hx hb dX4_playBeat_58 rfl (lv_at hl 1 rfl) ?_
    refine g_get hE hG h_10 rfl inG4 4 (by decide) mw1_47 rfl dX4_playBeat_59 ?_
    refine g_callSN (rest := [.long ((vp_updL st (0 : Int32).toNatClampNeg ((st (0 : Int32).toNatClampNeg) + ((f_den 0 lv).toInt64))) (1 : Int32).toNatClampNeg), .int 1, .ref t]) (As := [.int 1, .int lv]) hE hG hl.1 (c_X5_densityOf l hfl D tc A w_9 1 lv ) (List.mem_of_getElem? (i := 1) rfl) mw2_162 mw1_1 mw2_163 nm_X5_densityOf ⟨⟨Nat.le_of_ble_eq_true rfl, Nat.le_of_ble_eq_true rfl⟩, Nat.le_of_ble_eq_true rfl, Nat.le_of_ble_eq_true rfl⟩ rfl rfl (Nat.le_of_ble_eq_true rfl) dX4_playBeat_62 ?_
    intro v9 w9 H locs h9 hG
    obtain ⟨e9, f9⟩ := h9
    rw [f9] at hG; rw [e9]; clear e9 f9
    show W p l e _ s m args below meth c H locs _ _ _ (F0 m 65 ls [.int (f_den 1 lv), .long ((vp_updL st (0 : Int32).toNatClampNeg ((st (0 : Int32).toNatClampNeg) + ((f_den 0 lv).toInt64))) (1 : Int32).toNatClampNeg), .int 1, .ref t])
    refine lv_i2l (v := (f_den 1 lv).toInt64) hx hb dX4_playBeat_65 rfl ?_
    refine lv_ladd hx hb dX4_playBeat_66 ?_
    refine g_last hE hG h_11 (vp_in_nI (n := 1) (N := 4) (by decide) (by decide)) dX4_playBeat_67 (fun H locs w_12 ew_12 hG => ?_)
    have h_13 : w_12 k0 = some (h0, .inr (4, [.int pn, .int cy, .int v_1, .int bl, .int lv, .int gg, .int tp, .int go, .int ge, .long (tk + bl.toInt64), .ref t])) := gU_n ew_12 (gU_k h_11 h_10 (by first | (intro h9; cases h9; done) | simp)) h_10
    have h_14 : w_12 k1 = some (t, .inl (tc 1, 4, .inr (.inl (vp_updL (vp_updL st (0 : Int32).toNatClampNeg ((st (0 : Int32).toNatClampNeg) + ((f_den 0 lv).toInt64))) (1 : Int32).toNatClampNeg (((vp_updL st (0 : Int32).toNatClampNeg ((st (0 : Int32).toNatClampNeg) + ((f_den 0 lv).toInt64))) (1 : Int32).toNatClampNeg) + ((f_den 1 lv).toInt64)))))) := gU_s ew_12
    refine lv_iinc (v := 2) (lv' := [(1, .int 2), (0, .ref h0)]) hx hb dX4_playBeat_68 hl (k := 0) rfl (by decide) (by decide) rfl (fun ls hl => ?_)
    refine lv_goto (tgt := 41) hx hb dX4_playBeat_71 (by decide) ?_
    refine lv_iload_n hx hb dX4_playBeat_41 rfl (lv_at hl 0 rfl) ?_
    refine lv_aload_n hx hb dX4_playBeat_42 rfl (lv_at hl 1 rfl) ?_
    refine g_get hE hG h_13 rfl inG4 10 (by decide) mw1_57 rfl dX4_playBeat_43 ?_
    refine g_alen (t0 := 1) (v := 4) hE hG h_14 rfl rfl dX4_playBeat_46 ?_
    refine lv_icmp_ge (tgt := 74) hx hb dX4_playBeat_47 (by decide) (fun c9 => absurd c9 (by decide)) (fun _ => ?_)
    refine lv_aload_n hx hb dX4_playBeat_50 rfl (lv_at hl 1 rfl) ?_
    refine g_get hE hG h_13 rfl inG4 10 (by decide) mw1_57 rfl dX4_playBeat_51 ?_
    refine lv_iload_n hx hb dX4_playBeat_54 rfl (lv_at hl 0 rfl) ?_
    refine lv_dup2_11 hx hb dX4_playBeat_55 rfl rfl ?_
    refine g_lald hE hG h_14 (vp_in_nI (n := 2) (N := 4) (by decide) (by decide)) dX4_playBeat_56 ?_
    refine lv_iload_n hx hb dX4_playBeat_57 rfl (lv_at hl 0 rfl) ?_
    refine lv_aload_n hx hb dX4_playBeat_58 rfl (lv_at hl 1 rfl) ?_
    refine g_get hE hG h_13 rfl inG4 4 (by decide) mw1_47 rfl dX4_playBeat_59 ?_
    refine g_callSN (rest := [.long ((vp_updL (vp_updL st (0 : Int32).toNatClampNeg ((st (0 : Int32).toNatClampNeg) + ((f_den 0 lv).toInt64))) (1 : Int32).toNatClampNeg (((vp_updL st (0 : Int32).toNatClampNeg ((st (0 : Int32).toNatClampNeg) + ((f_den 0 lv).toInt64))) (1 : Int32).toNatClampNeg) + ((f_den 1 lv).toInt64))) (2 : Int32).toNatClampNeg), .int 2, .ref t]) (As := [.int 2, .int lv]) hE hG hl.1 (c_X5_densityOf l hfl D tc A w_12 2 lv ) (List.mem_of_getElem? (i := 1) rfl) mw2_162 mw1_1 mw2_163 nm_X5_densityOf ⟨⟨Nat.le_of_ble_eq_true rfl, Nat.le_of_ble_eq_true rfl⟩, Nat.le_of_ble_eq_true rfl, Nat.le_of_ble_eq_true rfl⟩ rfl rfl (Nat.le_of_ble_eq_true rfl) dX4_playBeat_62 ?_
    intro v9 w9 H locs h9 hG
    obtain ⟨e9, f9⟩ := h9
    rw [f9] at hG; rw [e9]; clear e9 f9
    show W p l e _ s m args below meth c H locs _ _ _ (F0 m 65 ls [.int (f_den 2 lv), .long ((vp_updL (vp_updL st (0 : Int32).toNatClampNeg ((st (0 : Int32).toNatClampNeg) + ((f_den 0 lv).toInt64))) (1 : Int32).toNatClampNeg (((vp_updL st (0 : Int32).toNatClampNeg ((st (0 : Int32).toNatClampNeg) + ((f_den 0 lv).toInt64))) (1 : Int32).toNatClampNeg) + ((f_den 1 lv).toInt64))) (2 : Int32).toNatClampNeg), .int 2, .ref t])
    refine lv_i2l (v := (f_den 2 lv).toInt64) hx hb dX4_playBeat_65 rfl ?_
    refine lv_ladd hx hb dX4_playBeat_66 ?_
    refine g_last hE hG h_14 (vp_in_nI (n := 2) (N := 4) (by decide) (by decide)) dX4_playBeat_67 (fun H locs w_15 ew_15 hG => ?_)
    have h_16 : w_15 k0 = some (h0, .inr (4, [.int pn, .int cy, .int v_1, .int bl, .int lv, .int gg, .int tp, .int go, .int ge, .long (tk + bl.toInt64), .ref t])) := gU_n ew_15 (gU_k h_14 h_13 (by first | (intro h9; cases h9; done) | simp)) h_13
    have h_17 : w_15 k1 = some (t, .inl (tc 1, 4, .inr (.inl (vp_updL (vp_updL (vp_updL st (0 : Int32).toNatClampNeg ((st (0 : Int32).toNatClampNeg) + ((f_den 0 lv).toInt64))) (1 : Int32).toNatClampNeg (((vp_updL st (0 : Int32).toNatClampNeg ((st (0 : Int32).toNatClampNeg) + ((f_den 0 lv).toInt64))) (1 : Int32).toNatClampNeg) + ((f_den 1 lv).toInt64))) (2 : Int32).toNatClampNeg (((vp_updL (vp_updL st (0 : Int32).toNatClampNeg ((st (0 : Int32).toNatClampNeg) + ((f_den 0 lv).toInt64))) (1 : Int32).toNatClampNeg (((vp_updL st (0 : Int32).toNatClampNeg ((st (0 : Int32).toNatClampNeg) + ((f_den 0 lv).toInt64))) (1 : Int32).toNatClampNeg) + ((f_den 1 lv).toInt64))) (2 : Int32).toNatClampNeg) + ((f_den 2 lv).toInt64)))))) := gU_s ew_15
    refine lv_iinc (v := 3) (lv' := [(1, .int 3), (0, .ref h0)]) hx hb dX4_playBeat_68 hl (k := 0) rfl (by decide) (by decide) rfl (fun ls hl => ?_)
    refine lv_goto (tgt := 41) hx hb dX4_playBeat_71 (by decide) ?_
    refine lv_iload_n hx hb dX4_playBeat_41 rfl (lv_at hl 0 rfl) ?_
    refine lv_aload_n hx hb dX4_playBeat_42 rfl (lv_at hl 1 rfl) ?_
    refine g_get hE hG h_16 rfl inG4 10 (by decide) mw1_57 rfl dX4_playBeat_43 ?_
    refine g_alen (t0 := 1) (v := 4) hE hG h_17 rfl rfl dX4_playBeat_46 ?_
    refine lv_icmp_ge (tgt := 74) hx hb dX4_playBeat_47 (by decide) (fun c9 => absurd c9 (by decide)) (fun _ => ?_)
    refine lv_aload_n hx hb dX4_playBeat_50 rfl (lv_at hl 1 rfl) ?_
    refine g_get hE hG h_16 rfl inG4 10 (by decide) mw1_57 rfl dX4_playBeat_51 ?_
    refine lv_iload_n hx hb dX4_playBeat_54 rfl (lv_at hl 0 rfl) ?_
    refine lv_dup2_11 hx hb dX4_playBeat_55 rfl rfl ?_
    refine g_lald hE hG h_17 (vp_in_nI (n := 3) (N := 4) (by decide) (by decide)) dX4_playBeat_56 ?_
    refine lv_iload_n hx hb dX4_playBeat_57 rfl (lv_at hl 0 rfl) ?_
    refine lv_aload_n hx hb dX4_playBeat_58 rfl (lv_at hl 1 rfl) ?_
    refine g_get hE hG h_16 rfl inG4 4 (by decide) mw1_47 rfl dX4_playBeat_59 ?_
    refine g_callSN (rest := [.long ((vp_updL (vp_updL (vp_updL st (0 : Int32).toNatClampNeg ((st (0 : Int32).toNatClampNeg) + ((f_den 0 lv).toInt64))) (1 : Int32).toNatClampNeg (((vp_updL st (0 : Int32).toNatClampNeg ((st (0 : Int32).toNatClampNeg) + ((f_den 0 lv).toInt64))) (1 : Int32).toNatClampNeg) + ((f_den 1 lv).toInt64))) (2 : Int32).toNatClampNeg (((vp_updL (vp_updL st (0 : Int32).toNatClampNeg ((st (0 : Int32).toNatClampNeg) + ((f_den 0 lv).toInt64))) (1 : Int32).toNatClampNeg (((vp_updL st (0 : Int32).toNatClampNeg ((st (0 : Int32).toNatClampNeg) + ((f_den 0 lv).toInt64))) (1 : Int32).toNatClampNeg) + ((f_den 1 lv).toInt64))) (2 : Int32).toNatClampNeg) + ((f_den 2 lv).toInt64))) (3 : Int32).toNatClampNeg), .int 3, .ref t]) (As := [.int 3, .int lv]) hE hG hl.1 (c_X5_densityOf l hfl D tc A w_15 3 lv ) (List.mem_of_getElem? (i := 1) rfl) mw2_162 mw1_1 mw2_163 nm_X5_densityOf ⟨⟨Nat.le_of_ble_eq_true rfl, Nat.le_of_ble_eq_true rfl⟩, Nat.le_of_ble_eq_true rfl, Nat.le_of_ble_eq_true rfl⟩ rfl rfl (Nat.le_of_ble_eq_true rfl) dX4_playBeat_62 ?_
    intro v9 w9 H locs h9 hG
    obtain ⟨e9, f9⟩ := h9
    rw [f9] at hG; rw [e9]; clear e9 f9
    show W p l e _ s m args below meth c H locs _ _ _ (F0 m 65 ls [.int (f_den 3 lv), .long ((vp_updL (vp_updL (vp_updL st (0 : Int32).toNatClampNeg ((st (0 : Int32).toNatClampNeg) + ((f_den 0 lv).toInt64))) (1 : Int32).toNatClampNeg (((vp_updL st (0 : Int32).toNatClampNeg ((st (0 : Int32).toNatClampNeg) + ((f_den 0 lv).toInt64))) (1 : Int32).toNatClampNeg) + ((f_den 1 lv).toInt64))) (2 : Int32).toNatClampNeg (((vp_updL (vp_updL st (0 : Int32).toNatClampNeg ((st (0 : Int32).toNatClampNeg) + ((f_den 0 lv).toInt64))) (1 : Int32).toNatClampNeg (((vp_updL st (0 : Int32).toNatClampNeg ((st (0 : Int32).toNatClampNeg) + ((f_den 0 lv).toInt64))) (1 : Int32).toNatClampNeg) + ((f_den 1 lv).toInt64))) (2 : Int32).toNatClampNeg) + ((f_den 2 lv).toInt64))) (3 : Int32).toNatClampNeg), .int 3, .ref t])
    refine lv_i2l (v := (f_den 3 lv).toInt64) hx hb dX4_playBeat_65 rfl ?_
    refine lv_ladd hx hb dX4_playBeat_66 ?_
    refine g_last hE hG h_17 (vp_in_nI (n := 3) (N := 4) (by decide) (by decide)) dX4_playBeat_67 (fun H locs w_18 ew_18 hG => ?_)
    have h_19 : w_18 k0 = some (h0, .inr (4, [.int pn, .int cy, .int v_1, .int bl, .int lv, .int gg, .int tp, .int go, .int ge, .long (tk + bl.toInt64), .ref t])) := gU_n ew_18 (gU_k h_17 h_16 (by first | (intro h9; cases h9; done) | simp)) h_16
    have h_20 : w_18 k1 = some (t, .inl (tc 1, 4, .inr (.inl (vp_updL (vp_updL (vp_updL (vp_updL st (0 : Int32).toNatClampNeg ((st (0 : Int32).toNatClampNeg) + ((f_den 0 lv).toInt64))) (1 : Int32).toNatClampNeg (((vp_updL st (0 : Int32).toNatClampNeg ((st (0 : Int32).toNatClampNeg) + ((f_den 0 lv).toInt64))) (1 : Int32).toNatClampNeg) + ((f_den 1 lv).toInt64))) (2 : Int32).toNatClampNeg (((vp_updL (vp_updL st (0 : Int32).toNatClampNeg ((st (0 : Int32).toNatClampNeg) + ((f_den 0 lv).toInt64))) (1 : Int32).toNatClampNeg (((vp_updL st (0 : Int32).toNatClampNeg ((st (0 : Int32).toNatClampNeg) + ((f_den 0 lv).toInt64))) (1 : Int32).toNatClampNeg) + ((f_den 1 lv).toInt64))) (2 : Int32).toNatClampNeg) + ((f_den 2 lv).toInt64))) (3 : Int32).toNatClampNeg (((vp_updL (vp_updL (vp_updL st (0 : Int32).toNatClampNeg ((st (0 : Int32).toNatClampNeg) + ((f_den 0 lv).toInt64))) (1 : Int32).toNatClampNeg (((vp_updL st (0 : Int32).toNatClampNeg ((st (0 : Int32).toNatClampNeg) + ((f_den 0 lv).toInt64))) (1 : Int32).toNatClampNeg) + ((f_den 1 lv).toInt64))) (2 : Int32).toNatClampNeg (((vp_updL (vp_updL st (0 : Int32).toNatClampNeg ((st (0 : Int32).toNatClampNeg) + ((f_den 0 lv).toInt64))) (1 : Int32).toNatClampNeg (((vp_updL st (0 : Int32).toNatClampNeg ((st (0 : Int32).toNatClampNeg) + ((f_den 0 lv).toInt64))) (1 : Int32).toNatClampNeg) + ((f_den 1 lv).toInt64))) (2 : Int32).toNatClampNeg) + ((f_den 2 lv).toInt64))) (3 : Int32).toNatClampNeg) + ((f_den 3 lv).toInt64)))))) := gU_s ew_18
    refine lv_iinc (v := 4) (lv' := [(1, .int 4), (0, .ref h0)]) hx hb dX4_playBeat_68 hl (k := 0) rfl (by decide) (by decide) rfl (fun ls hl => ?_)
    refine lv_goto (tgt := 41) hx hb dX4_playBeat_71 (by decide) ?_
    refine lv_iload_n hx hb dX4_playBeat_41 rfl (lv_at hl 0 rfl) ?_
    refine lv_aload_n hx hb dX4_playBeat_42 rfl (lv_at hl 1 rfl) ?_
    refine g_get hE hG h_19 rfl inG4 10 (by decide) mw1_57 rfl dX4_playBeat_43 ?_
    refine g_alen (t0 := 1) (v := 4) hE hG h_20 rfl rfl dX4_playBeat_46 ?_
    refine lv_icmp_ge (tgt := 74) hx hb dX4_playBeat_47 (by decide) (fun _ => ?_) (fun c9 => (c9 (by decide)).elim)
    refine lv_aload_n hx hb dX4_playBeat_74 rfl (lv_at hl 1 rfl) ?_
    refine g_callV (rest := []) (As := []) hE hG hl.1 (c_X4_changeBeatLength l hfl D tc A w_18 k0 h0 t pn cy v_1 bl lv gg tp go ge (tk + bl.toInt64) h_19 ) h_19 rfl mw2_164 mw2_166 mws_5 mw1_2 mw2_167 rfl nm_X4_changeBeatLength ⟨⟨Nat.le_of_ble_eq_true rfl, Nat.le_of_ble_eq_true rfl⟩, Nat.le_of_ble_eq_true rfl, Nat.le_of_ble_eq_true rfl⟩ rfl rfl (Nat.le_of_ble_eq_true rfl) dX4_playBeat_75 (g_no) ?_
    intro v9 w9 H locs h9 hG
    obtain ⟨e9, ew_21⟩ := h9
    rw [e9]; clear e9; revert w9; intro w_21 hG ew_21
    show W p l e _ s m args below meth c H locs _ _ _ (F0 m 78 ls [])
    have h_22 : w_21 k1 = some (t, .inl (tc 1, 4, .inr (.inl (vp_updL (vp_updL (vp_updL (vp_updL st (0 : Int32).toNatClampNeg ((st (0 : Int32).toNatClampNeg) + ((f_den 0 lv).toInt64))) (1 : Int32).toNatClampNeg (((vp_updL st (0 : Int32).toNatClampNeg ((st (0 : Int32).toNatClampNeg) + ((f_den 0 lv).toInt64))) (1 : Int32).toNatClampNeg) + ((f_den 1 lv).toInt64))) (2 : Int32).toNatClampNeg (((vp_updL (vp_updL st (0 : Int32).toNatClampNeg ((st (0 : Int32).toNatClampNeg) + ((f_den 0 lv).toInt64))) (1 : Int32).toNatClampNeg (((vp_updL st (0 : Int32).toNatClampNeg ((st (0 : Int32).toNatClampNeg) + ((f_den 0 lv).toInt64))) (1 : Int32).toNatClampNeg) + ((f_den 1 lv).toInt64))) (2 : Int32).toNatClampNeg) + ((f_den 2 lv).toInt64))) (3 : Int32).toNatClampNeg (((vp_updL (vp_updL (vp_updL st (0 : Int32).toNatClampNeg ((st (0 : Int32).toNatClampNeg) + ((f_den 0 lv).toInt64))) (1 : Int32).toNatClampNeg (((vp_updL st (0 : Int32).toNatClampNeg ((st (0 : Int32).toNatClampNeg) + ((f_den 0 lv).toInt64))) (1 : Int32).toNatClampNeg) + ((f_den 1 lv).toInt64))) (2 : Int32).toNatClampNeg (((vp_updL (vp_updL st (0 : Int32).toNatClampNeg ((st (0 : Int32).toNatClampNeg) + ((f_den 0 lv).toInt64))) (1 : Int32).toNatClampNeg (((vp_updL st (0 : Int32).toNatClampNeg ((st (0 : Int32).toNatClampNeg) + ((f_den 0 lv).toInt64))) (1 : Int32).toNatClampNeg) + ((f_den 1 lv).toInt64))) (2 : Int32).toNatClampNeg) + ((f_den 2 lv).toInt64))) (3 : Int32).toNatClampNeg) + ((f_den 3 lv).toInt64)))))) := gU_n ew_21 (gU_k h_19 h_20 (by first | (intro h9; cases h9; done) | simp)) h_20
    have h_23 : w_21 k0 = some (h0, .inr (4, [.int pn, .int cy, .int v_1, .int (f_nbl tp bl), .int lv, .int gg, .int tp, .int go, .int ge, .long (tk + bl.toInt64), .ref t])) := gU_s ew_21
    refine lv_aload_n hx hb dX4_playBeat_78 rfl (lv_at hl 1 rfl) ?_
    refine g_get hE hG h_23 rfl inG4 2 (by decide) mw1_43 rfl dX4_playBeat_79 ?_
    refine lv_aload_n hx hb dX4_playBeat_82 rfl (lv_at hl 1 rfl) ?_
    refine g_get hE hG h_23 rfl inG4 1 (by decide) mw1_42 rfl dX4_playBeat_83 ?_
    refine lv_icmp_ne (tgt := 93) hx hb dX4_playBeat_86 (by decide) (fun c_24 => ?_) (fun c_24 => ?_)
    · skip
      subst hQ
      exact g_vret hE hG hr (Nat.le_of_ble_eq_true rfl) (Nat.le_of_ble_eq_true rfl) dX4_playBeat_93 (by have hp : v_1 = f_npl cy pl := ev_1; clear ev_1; subst hp; refine ⟨rfl, ?_⟩; rw [ew_21, ew_18, ew_15, ew_12, ew_9, ew_6, ew_3]; simp only [gU_gU, gU_d]; unfold f_bgg f_blv f_bge f_bgo; simp only [if_neg c_24, sts_eq] <;> rfl)
    · skip
      refine lv_aload_n hx hb dX4_playBeat_89 rfl (lv_at hl 1 rfl) ?_
      refine g_callV (rest := []) (As := []) hE hG hl.1 (c_X4_playGong l hfl D tc A w_21 k0 h0 t pn cy v_1 (f_nbl tp bl) lv gg tp go ge (tk + bl.toInt64) h_23 ) h_23 rfl mw2_172 mw2_174 mws_6 mw1_2 mw2_175 rfl nm_X4_playGong ⟨⟨Nat.le_of_ble_eq_true rfl, Nat.le_of_ble_eq_true rfl⟩, Nat.le_of_ble_eq_true rfl, Nat.le_of_ble_eq_true rfl⟩ rfl rfl (Nat.le_of_ble_eq_true rfl) dX4_playBeat_90 (g_no) ?_
      intro v9 w9 H locs h9 hG
      obtain ⟨e9, ew_25⟩ := h9
      rw [e9]; clear e9; revert w9; intro w_25 hG ew_25
      show W p l e _ s m args below meth c H locs _ _ _ (F0 m 93 ls [])
      have h_26 : w_25 k1 = some (t, .inl (tc 1, 4, .inr (.inl (vp_updL (vp_updL (vp_updL (vp_updL st (0 : Int32).toNatClampNeg ((st (0 : Int32).toNatClampNeg) + ((f_den 0 lv).toInt64))) (1 : Int32).toNatClampNeg (((vp_updL st (0 : Int32).toNatClampNeg ((st (0 : Int32).toNatClampNeg) + ((f_den 0 lv).toInt64))) (1 : Int32).toNatClampNeg) + ((f_den 1 lv).toInt64))) (2 : Int32).toNatClampNeg (((vp_updL (vp_updL st (0 : Int32).toNatClampNeg ((st (0 : Int32).toNatClampNeg) + ((f_den 0 lv).toInt64))) (1 : Int32).toNatClampNeg (((vp_updL st (0 : Int32).toNatClampNeg ((st (0 : Int32).toNatClampNeg) + ((f_den 0 lv).toInt64))) (1 : Int32).toNatClampNeg) + ((f_den 1 lv).toInt64))) (2 : Int32).toNatClampNeg) + ((f_den 2 lv).toInt64))) (3 : Int32).toNatClampNeg (((vp_updL (vp_updL (vp_updL st (0 : Int32).toNatClampNeg ((st (0 : Int32).toNatClampNeg) + ((f_den 0 lv).toInt64))) (1 : Int32).toNatClampNeg (((vp_updL st (0 : Int32).toNatClampNeg ((st (0 : Int32).toNatClampNeg) + ((f_den 0 lv).toInt64))) (1 : Int32).toNatClampNeg) + ((f_den 1 lv).toInt64))) (2 : Int32).toNatClampNeg (((vp_updL (vp_updL st (0 : Int32).toNatClampNeg ((st (0 : Int32).toNatClampNeg) + ((f_den 0 lv).toInt64))) (1 : Int32).toNatClampNeg (((vp_updL st (0 : Int32).toNatClampNeg ((st (0 : Int32).toNatClampNeg) + ((f_den 0 lv).toInt64))) (1 : Int32).toNatClampNeg) + ((f_den 1 lv).toInt64))) (2 : Int32).toNatClampNeg) + ((f_den 2 lv).toInt64))) (3 : Int32).toNatClampNeg) + ((f_den 3 lv).toInt64)))))) := gU_n ew_25 (gU_k h_23 h_22 (by first | (intro h9; cases h9; done) | simp)) h_22
      have h_27 : w_25 k0 = some (h0, .inr (4, [.int pn, .int cy, .int v_1, .int (f_nbl tp bl), .int (f_lev (f_nbl tp bl)), .int (gg + 1), .int tp, .int (f_ggo go ge), .int (f_gge ge), .long (tk + bl.toInt64), .ref t])) := gU_s ew_25
      subst hQ
      exact g_vret hE hG hr (Nat.le_of_ble_eq_true rfl) (Nat.le_of_ble_eq_true rfl) dX4_playBeat_93 (by have hp : v_1 = f_npl cy pl := ev_1; clear ev_1; subst hp; refine ⟨rfl, ?_⟩; rw [ew_25, ew_21, ew_18, ew_15, ew_12, ew_9, ew_6, ew_3]; simp only [gU_gU, gU_d]; unfold f_bgg f_blv f_bge f_bgo; simp only [if_pos c_24, sts_eq] <;> rfl)
  refine lv_icmp_ge (tgt := 21) hx hb dX4_playBeat_9 (by decide) (fun c_28 => ?_) (fun c_28 => ?_)
  · skip
    refine lv_iconst (v := 1) hx hb dX4_playBeat_21 (by decide) ?_
    exact j_2 _ _ _ (by rw [if_pos c_28]) hG
  · skip
    refine lv_aload_n hx hb dX4_playBeat_12 rfl (lv_at hl 0 rfl) ?_
    refine g_get hE hG h1 rfl inG4 2 (by decide) mw1_43 rfl dX4_playBeat_13 ?_
    refine lv_iconst (v := 1) hx hb dX4_playBeat_16 (by decide) ?_
    refine lv_iadd hx hb dX4_playBeat_17 ?_
    refine lv_goto (tgt := 22) hx hb dX4_playBeat_18 (by decide) ?_
    exact j_2 _ _ _ (by rw [if_neg c_28]) hG
theorem sto_in {x : Int32} (h1 : ¬ x < 0) (h2 : ¬ 4 ≤ x) : vp_in x 4 := by
  rw [Int32.lt_iff_toInt_lt] at h1
  rw [Int32.le_iff_toInt_le] at h2
  have e0 : (0 : Int32).toInt = 0 := by decide
  have e4 : (4 : Int32).toInt = 4 := by decide
  rw [e0] at h1
  rw [e4] at h2
  rw [vp_in_iff]
  omega
def f_sto (st : Nat → Int64) (x : Int32) : Int64 := (if x < 0 then 0 else (if 4 ≤ x then 0 else (st x.toNatClampNeg)))
abbrev rm_X4_strokesOf : Room := { frames := 1, cells := 0, slots := 0, locals := 50 }
theorem nm_X4_strokesOf : gNm yX4_strokesOf 1 := ⟨by decide +kernel, by decide +kernel, by decide +kernel⟩
set_option maxHeartbeats 4000000 in
set_option maxRecDepth 100000 in
theorem c_X4_strokesOf (l : Launch) (hfl : l.stackTraces = false) (D : va_G) (tc : Nat → ClassId) (A : Nat → Prop) (w : gW) (k0 : Nat) (k1 : Nat) (h0 : Nat) (t : Nat) (pn : Int32) (cy : Int32) (pl : Int32) (bl : Int32) (lv : Int32) (gg : Int32) (tp : Int32) (go : Int32) (ge : Int32) (tk : Int64) (st : Nat → Int64) (x : Int32) (h1 : w k0 = some (h0, .inr (4, [.int pn, .int cy, .int pl, .int bl, .int lv, .int gg, .int tp, .int go, .int ge, .long tk, .ref t]))) (h2 : w k1 = some (t, .inl (tc 1, 4, .inr (.inl st)))) : gM l yX4_strokesOf cX4_strokesOf 2 (some .long) rm_X4_strokesOf D tc A [.ref h0, .int x] w (fun v w' => v = some (.long (f_sto st x)) ∧ w' = w) (fun _ => False) := by
  refine gM_of (by decide +kernel) (Nat.le_of_ble_eq_true rfl) ?_
  intro p e s m args below meth c ls Q hQ hE hG hr hnt hnm hl
  have hx := hE.1
  have hb := hE.2.1
  have hl : lv_has ls 2 [(0, .ref h0), (1, .int x)] := hl
  refine lv_iload_n hx hb dX4_strokesOf_0 rfl (lv_at hl 1 rfl) ?_
  refine lv_if_lt (tgt := 22) hx hb dX4_strokesOf_1 (by decide) (fun c_1 => ?_) (fun c_1 => ?_)
  · skip
    refine lv_lconst (v := 0) hx hb dX4_strokesOf_22 (by decide) ?_
    subst hQ
    exact g_lret hE hG hr (Nat.le_of_ble_eq_true rfl) (Nat.le_of_ble_eq_true rfl) dX4_strokesOf_23 ⟨by unfold f_sto; rw [if_pos c_1], rfl⟩
  · skip
    refine lv_iload_n hx hb dX4_strokesOf_4 rfl (lv_at hl 1 rfl) ?_
    refine lv_aload_n hx hb dX4_strokesOf_5 rfl (lv_at hl 0 rfl) ?_
    refine g_get hE hG h1 rfl inG4 10 (by decide) mw1_57 rfl dX4_strokesOf_6 ?_
    refine g_alen (t0 := 1) (v := 4) hE hG h2 rfl rfl dX4_strokesOf_9 ?_
    refine lv_icmp_ge (tgt := 22) hx hb dX4_strokesOf_10 (by decide) (fun c_2 => ?_) (fun c_2 => ?_)
    · skip
      refine lv_lconst (v := 0) hx hb dX4_strokesOf_22 (by decide) ?_
      subst hQ
      exact g_lret hE hG hr (Nat.le_of_ble_eq_true rfl) (Nat.le_of_ble_eq_true rfl) dX4_strokesOf_23 ⟨by unfold f_sto; rw [if_neg c_1, if_pos c_2], rfl⟩
    · skip
      refine lv_aload_n hx hb dX4_strokesOf_13 rfl (lv_at hl 0 rfl) ?_
      refine g_get hE hG h1 rfl inG4 10 (by decide) mw1_57 rfl dX4_strokesOf_14 ?_
      refine lv_iload_n hx hb dX4_strokesOf_17 rfl (lv_at hl 1 rfl) ?_
      refine g_lald hE hG h2 (sto_in c_1 c_2) dX4_strokesOf_18 ?_
      refine lv_goto (tgt := 23) hx hb dX4_strokesOf_19 (by decide) ?_
      subst hQ
      exact g_lret hE hG hr (Nat.le_of_ble_eq_true rfl) (Nat.le_of_ble_eq_true rfl) dX4_strokesOf_23 ⟨by unfold f_sto; rw [if_neg c_1, if_neg c_2], rfl⟩
