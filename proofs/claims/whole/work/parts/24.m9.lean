/-! GongCyclesModel() -/
def d_0 : gDt := gD (gD (fun _ _ => 0) 4 (f_cp 32 (fun _ => 0) (fun _ => 44000))) 9 (upd (fun _ => 0) 3 (-1))
abbrev rm_X6_init : Room := { frames := 2, cells := 10, slots := 4000, locals := 86 }
theorem nm_X6_init : gNm yX6_init 0 := ⟨by decide +kernel, by decide +kernel, by decide +kernel⟩
set_option maxHeartbeats 4000000 in
set_option maxRecDepth 100000 in
theorem c_X6_init (l : Launch) (hfl : l.stackTraces = false) (D : va_G) (tc : Nat → ClassId) (A : Nat → Prop) (w : gW) (h0 : Nat) (h1 : w 1000 = some (h0, .inr (6, [.null, .int 0, .null, .null, .null, .int 0, .int 0, .int 0, .int 0, .int 0, .int 0, .int 0, .int 0, .int 0, .long 0, .null, .int 0, .int 0, .null, .null, .int 0, .null, .null, .null, .int 0, .int 0]))) (hf1001 : w 1001 = none) (hf1002 : w 1002 = none) (hf1003 : w 1003 = none) (hf1004 : w 1004 = none) (hf1005 : w 1005 = none) (hf1006 : w 1006 = none) (hf1007 : w 1007 = none) (hf1008 : w 1008 = none) (hf1009 : w 1009 = none) (hf1010 : w 1010 = none) : gM l yX6_init cX6_init 2 none rm_X6_init D tc A [.ref h0] w (fun v w' => v = none ∧ ∃ ad : Nat → Nat, ad 0 = h0 ∧ mW tc w' ad d_0 0 (fun _ => 0) ∧ gF w w') (fun _ => False) := by
  refine gM_of (by decide +kernel) (Nat.le_of_ble_eq_true rfl) ?_
  intro p e s m args below meth c ls Q hQ hE hG hr hnt hnm hl
  have hx := hE.1
  have hb := hE.2.1
  have hl : lv_has ls 2 [(0, .ref h0)] := hl
  refine lv_aload_n hx hb dX6_init_0 rfl (lv_at hl 0 rfl) ?_
  refine W.objInit hx hb hE.2.2.2.1 (hE.2.2.2.2.1 _ mw3_185) (hE.2.2.2.2.1 _ mw1_22) (hE.2.2.2.2.1 _ mw1_23) rfl (by rw [hE.2.2.1]; exact hl.1) rfl dX6_init_1 (Nat.le_of_ble_eq_true rfl) (Nat.le_of_ble_eq_true rfl) ?_
  refine W.eq (g2 := F0 m 4 ls []) rfl ?_
  refine lv_aload_n hx hb dX6_init_4 rfl (lv_at hl 0 rfl) ?_
  refine lv_iconst (v := 4) hx hb dX6_init_5 (by decide) ?_
  refine g_newi (atype := .int) (t0 := 0) (ty := .int) (a0 := (4, .inl (fun _ => 0))) (N' := 4) hE hG mw1_73 rfl rfl (fun _ _ h => h) (fun _ => by first | rfl | simp [vp_cell_i, vp_cell_l, defaultValue]) (by decide) (by decide) (by decide) (Nat.le_of_ble_eq_true rfl) (Nat.le_of_ble_eq_true rfl) 1001 hf1001 dX6_init_6 (fun q_1 H w_2 ew_2 hG => ?_)
  have g_3 : w_2 1002 = none := gU_n ew_2 (by decide) hf1002
  have g_4 : w_2 1003 = none := gU_n ew_2 (by decide) hf1003
  have g_5 : w_2 1004 = none := gU_n ew_2 (by decide) hf1004
  have g_6 : w_2 1005 = none := gU_n ew_2 (by decide) hf1005
  have g_7 : w_2 1006 = none := gU_n ew_2 (by decide) hf1006
  have g_8 : w_2 1007 = none := gU_n ew_2 (by decide) hf1007
  have g_9 : w_2 1008 = none := gU_n ew_2 (by decide) hf1008
  have g_10 : w_2 1009 = none := gU_n ew_2 (by decide) hf1009
  have g_11 : w_2 1010 = none := gU_n ew_2 (by decide) hf1010
  have h_12 : w_2 1000 = some (h0, .inr (6, [.null, .int 0, .null, .null, .null, .int 0, .int 0, .int 0, .int 0, .int 0, .int 0, .int 0, .int 0, .int 0, .long 0, .null, .int 0, .int 0, .null, .null, .int 0, .null, .null, .null, .int 0, .int 0])) := gU_n ew_2 (by decide) h1
  have h_13 : w_2 1001 = some (q_1, .inl (tc 0, 4, .inl (fun _ => 0))) := gU_s ew_2
  refine g_putF hE hG h_12 rfl inG6 tyX6 tyX6_ok nmX6 0 (by decide) mw3_187 rfl ((hnm _).mpr rfl) rfl rfl rfl (Nat.le_of_ble_eq_true rfl) dX6_init_8 (fun H locs w_14 ew_14 hG => ?_)
  have g_15 : w_14 1002 = none := gU_n ew_14 (by decide) g_3
  have g_16 : w_14 1003 = none := gU_n ew_14 (by decide) g_4
  have g_17 : w_14 1004 = none := gU_n ew_14 (by decide) g_5
  have g_18 : w_14 1005 = none := gU_n ew_14 (by decide) g_6
  have g_19 : w_14 1006 = none := gU_n ew_14 (by decide) g_7
  have g_20 : w_14 1007 = none := gU_n ew_14 (by decide) g_8
  have g_21 : w_14 1008 = none := gU_n ew_14 (by decide) g_9
  have g_22 : w_14 1009 = none := gU_n ew_14 (by decide) g_10
  have g_23 : w_14 1010 = none := gU_n ew_14 (by decide) g_11
  have h_24 : w_14 1001 = some (q_1, .inl (tc 0, 4, .inl (fun _ => 0))) := gU_n ew_14 (by decide) h_13
  have h_25 : w_14 1000 = some (h0, .inr (6, [.ref q_1, .int 0, .null, .null, .null, .int 0, .int 0, .int 0, .int 0, .int 0, .int 0, .int 0, .int 0, .int 0, .long 0, .null, .int 0, .int 0, .null, .null, .int 0, .null, .null, .null, .int 0, .int 0])) := gU_s ew_14
  refine lv_aload_n hx hb dX6_init_11 rfl (lv_at hl 0 rfl) ?_
  refine lv_bipush (v := 6) hx hb dX6_init_12 (by decide) ?_
  refine g_newi (atype := .int) (t0 := 0) (ty := .int) (a0 := (6, .inl (fun _ => 0))) (N' := 6) hE hG mw1_73 rfl rfl (fun _ _ h => h) (fun _ => by first | rfl | simp [vp_cell_i, vp_cell_l, defaultValue]) (by decide) (by decide) (by decide) (Nat.le_of_ble_eq_true rfl) (Nat.le_of_ble_eq_true rfl) 1002 g_15 dX6_init_14 (fun q_26 H w_27 ew_27 hG => ?_)
  have g_28 : w_27 1003 = none := gU_n ew_27 (by decide) g_16
  have g_29 : w_27 1004 = none := gU_n ew_27 (by decide) g_17
  have g_30 : w_27 1005 = none := gU_n ew_27 (by decide) g_18
  have g_31 : w_27 1006 = none := gU_n ew_27 (by decide) g_19
  have g_32 : w_27 1007 = none := gU_n ew_27 (by decide) g_20
  have g_33 : w_27 1008 = none := gU_n ew_27 (by decide) g_21
  have g_34 : w_27 1009 = none := gU_n ew_27 (by decide) g_22
  have g_35 : w_27 1010 = none := gU_n ew_27 (by decide) g_23
  have h_36 : w_27 1001 = some (q_1, .inl (tc 0, 4, .inl (fun _ => 0))) := gU_n ew_27 (by decide) h_24
  have h_37 : w_27 1000 = some (h0, .inr (6, [.ref q_1, .int 0, .null, .null, .null, .int 0, .int 0, .int 0, .int 0, .int 0, .int 0, .int 0, .int 0, .int 0, .long 0, .null, .int 0, .int 0, .null, .null, .int 0, .null, .null, .null, .int 0, .int 0])) := gU_n ew_27 (by decide) h_25
  have h_38 : w_27 1002 = some (q_26, .inl (tc 0, 6, .inl (fun _ => 0))) := gU_s ew_27
  refine g_putF hE hG h_37 rfl inG6 tyX6 tyX6_ok nmX6 2 (by decide) mw3_189 rfl ((hnm _).mpr rfl) rfl rfl rfl (Nat.le_of_ble_eq_true rfl) dX6_init_16 (fun H locs w_39 ew_39 hG => ?_)
  have g_40 : w_39 1003 = none := gU_n ew_39 (by decide) g_28
  have g_41 : w_39 1004 = none := gU_n ew_39 (by decide) g_29
  have g_42 : w_39 1005 = none := gU_n ew_39 (by decide) g_30
  have g_43 : w_39 1006 = none := gU_n ew_39 (by decide) g_31
  have g_44 : w_39 1007 = none := gU_n ew_39 (by decide) g_32
  have g_45 : w_39 1008 = none := gU_n ew_39 (by decide) g_33
  have g_46 : w_39 1009 = none := gU_n ew_39 (by decide) g_34
  have g_47 : w_39 1010 = none := gU_n ew_39 (by decide) g_35
  have h_48 : w_39 1001 = some (q_1, .inl (tc 0, 4, .inl (fun _ => 0))) := gU_n ew_39 (by decide) h_36
  have h_49 : w_39 1002 = some (q_26, .inl (tc 0, 6, .inl (fun _ => 0))) := gU_n ew_39 (by decide) h_38
  have h_50 : w_39 1000 = some (h0, .inr (6, [.ref q_1, .int 0, .ref q_26, .null, .null, .int 0, .int 0, .int 0, .int 0, .int 0, .int 0, .int 0, .int 0, .int 0, .long 0, .null, .int 0, .int 0, .null, .null, .int 0, .null, .null, .null, .int 0, .int 0])) := gU_s ew_39
  refine lv_aload_n hx hb dX6_init_19 rfl (lv_at hl 0 rfl) ?_
  refine lv_bipush (v := 6) hx hb dX6_init_20 (by decide) ?_
  refine g_newi (atype := .int) (t0 := 0) (ty := .int) (a0 := (6, .inl (fun _ => 0))) (N' := 6) hE hG mw1_73 rfl rfl (fun _ _ h => h) (fun _ => by first | rfl | simp [vp_cell_i, vp_cell_l, defaultValue]) (by decide) (by decide) (by decide) (Nat.le_of_ble_eq_true rfl) (Nat.le_of_ble_eq_true rfl) 1003 g_40 dX6_init_22 (fun q_51 H w_52 ew_52 hG => ?_)
  have g_53 : w_52 1004 = none := gU_n ew_52 (by decide) g_41
  have g_54 : w_52 1005 = none := gU_n ew_52 (by decide) g_42
  have g_55 : w_52 1006 = none := gU_n ew_52 (by decide) g_43
  have g_56 : w_52 1007 = none := gU_n ew_52 (by decide) g_44
  have g_57 : w_52 1008 = none := gU_n ew_52 (by decide) g_45
  have g_58 : w_52 1009 = none := gU_n ew_52 (by decide) g_46
  have g_59 : w_52 1010 = none := gU_n ew_52 (by decide) g_47
  have h_60 : w_52 1001 = some (q_1, .inl (tc 0, 4, .inl (fun _ => 0))) := gU_n ew_52 (by decide) h_48
  have h_61 : w_52 1002 = some (q_26, .inl (tc 0, 6, .inl (fun _ => 0))) := gU_n ew_52 (by decide) h_49
  have h_62 : w_52 1000 = some (h0, .inr (6, [.ref q_1, .int 0, .ref q_26, .null, .null, .int 0, .int 0, .int 0, .int 0, .int 0, .int 0, .int 0, .int 0, .int 0, .long 0, .null, .int 0, .int 0, .null, .null, .int 0, .null, .null, .null, .int 0, .int 0])) := gU_n ew_52 (by decide) h_50
  have h_63 : w_52 1003 = some (q_51, .inl (tc 0, 6, .inl (fun _ => 0))) := gU_s ew_52
  refine g_putF hE hG h_62 rfl inG6 tyX6 tyX6_ok nmX6 3 (by decide) mw3_190 rfl ((hnm _).mpr rfl) rfl rfl rfl (Nat.le_of_ble_eq_true rfl) dX6_init_24 (fun H locs w_64 ew_64 hG => ?_)
  have g_65 : w_64 1004 = none := gU_n ew_64 (by decide) g_53
  have g_66 : w_64 1005 = none := gU_n ew_64 (by decide) g_54
  have g_67 : w_64 1006 = none := gU_n ew_64 (by decide) g_55
  have g_68 : w_64 1007 = none := gU_n ew_64 (by decide) g_56
  have g_69 : w_64 1008 = none := gU_n ew_64 (by decide) g_57
  have g_70 : w_64 1009 = none := gU_n ew_64 (by decide) g_58
  have g_71 : w_64 1010 = none := gU_n ew_64 (by decide) g_59
  have h_72 : w_64 1001 = some (q_1, .inl (tc 0, 4, .inl (fun _ => 0))) := gU_n ew_64 (by decide) h_60
  have h_73 : w_64 1002 = some (q_26, .inl (tc 0, 6, .inl (fun _ => 0))) := gU_n ew_64 (by decide) h_61
  have h_74 : w_64 1003 = some (q_51, .inl (tc 0, 6, .inl (fun _ => 0))) := gU_n ew_64 (by decide) h_63
  have h_75 : w_64 1000 = some (h0, .inr (6, [.ref q_1, .int 0, .ref q_26, .ref q_51, .null, .int 0, .int 0, .int 0, .int 0, .int 0, .int 0, .int 0, .int 0, .int 0, .long 0, .null, .int 0, .int 0, .null, .null, .int 0, .null, .null, .null, .int 0, .int 0])) := gU_s ew_64
  refine lv_aload_n hx hb dX6_init_27 rfl (lv_at hl 0 rfl) ?_
  refine lv_sipush (v := 390) hx hb dX6_init_28 (by decide) ?_
  refine g_newi (atype := .int) (t0 := 0) (ty := .int) (a0 := (390, .inl (fun _ => 0))) (N' := 390) hE hG mw1_73 rfl rfl (fun _ _ h => h) (fun _ => by first | rfl | simp [vp_cell_i, vp_cell_l, defaultValue]) (by decide) (by decide) (by decide) (Nat.le_of_ble_eq_true rfl) (Nat.le_of_ble_eq_true rfl) 1004 g_65 dX6_init_31 (fun q_76 H w_77 ew_77 hG => ?_)
  have g_78 : w_77 1005 = none := gU_n ew_77 (by decide) g_66
  have g_79 : w_77 1006 = none := gU_n ew_77 (by decide) g_67
  have g_80 : w_77 1007 = none := gU_n ew_77 (by decide) g_68
  have g_81 : w_77 1008 = none := gU_n ew_77 (by decide) g_69
  have g_82 : w_77 1009 = none := gU_n ew_77 (by decide) g_70
  have g_83 : w_77 1010 = none := gU_n ew_77 (by decide) g_71
  have h_84 : w_77 1001 = some (q_1, .inl (tc 0, 4, .inl (fun _ => 0))) := gU_n ew_77 (by decide) h_72
  have h_85 : w_77 1002 = some (q_26, .inl (tc 0, 6, .inl (fun _ => 0))) := gU_n ew_77 (by decide) h_73
  have h_86 : w_77 1003 = some (q_51, .inl (tc 0, 6, .inl (fun _ => 0))) := gU_n ew_77 (by decide) h_74
  have h_87 : w_77 1000 = some (h0, .inr (6, [.ref q_1, .int 0, .ref q_26, .ref q_51, .null, .int 0, .int 0, .int 0, .int 0, .int 0, .int 0, .int 0, .int 0, .int 0, .long 0, .null, .int 0, .int 0, .null, .null, .int 0, .null, .null, .null, .int 0, .int 0])) := gU_n ew_77 (by decide) h_75
  have h_88 : w_77 1004 = some (q_76, .inl (tc 0, 390, .inl (fun _ => 0))) := gU_s ew_77
  refine g_putF hE hG h_87 rfl inG6 tyX6 tyX6_ok nmX6 4 (by decide) mw3_191 rfl ((hnm _).mpr rfl) rfl rfl rfl (Nat.le_of_ble_eq_true rfl) dX6_init_33 (fun H locs w_89 ew_89 hG => ?_)
  have g_90 : w_89 1005 = none := gU_n ew_89 (by decide) g_78
  have g_91 : w_89 1006 = none := gU_n ew_89 (by decide) g_79
  have g_92 : w_89 1007 = none := gU_n ew_89 (by decide) g_80
  have g_93 : w_89 1008 = none := gU_n ew_89 (by decide) g_81
  have g_94 : w_89 1009 = none := gU_n ew_89 (by decide) g_82
  have g_95 : w_89 1010 = none := gU_n ew_89 (by decide) g_83
  have h_96 : w_89 1001 = some (q_1, .inl (tc 0, 4, .inl (fun _ => 0))) := gU_n ew_89 (by decide) h_84
  have h_97 : w_89 1002 = some (q_26, .inl (tc 0, 6, .inl (fun _ => 0))) := gU_n ew_89 (by decide) h_85
  have h_98 : w_89 1003 = some (q_51, .inl (tc 0, 6, .inl (fun _ => 0))) := gU_n ew_89 (by decide) h_86
  have h_99 : w_89 1004 = some (q_76, .inl (tc 0, 390, .inl (fun _ => 0))) := gU_n ew_89 (by decide) h_88
  have h_100 : w_89 1000 = some (h0, .inr (6, [.ref q_1, .int 0, .ref q_26, .ref q_51, .ref q_76, .int 0, .int 0, .int 0, .int 0, .int 0, .int 0, .int 0, .int 0, .int 0, .long 0, .null, .int 0, .int 0, .null, .null, .int 0, .null, .null, .null, .int 0, .int 0])) := gU_s ew_89
  refine lv_aload_n hx hb dX6_init_36 rfl (lv_at hl 0 rfl) ?_
  refine lv_iconst (v := (-1)) hx hb dX6_init_37 (by decide) ?_
  refine g_put hE hG h_100 rfl inG6 tyX6 tyX6_ok nmX6 7 (by decide) mw3_194 rfl rfl rfl (Nat.le_of_ble_eq_true rfl) dX6_init_38 (fun H locs w_101 ew_101 hG => ?_)
  have g_102 : w_101 1005 = none := gU_n ew_101 (by decide) g_90
  have g_103 : w_101 1006 = none := gU_n ew_101 (by decide) g_91
  have g_104 : w_101 1007 = none := gU_n ew_101 (by decide) g_92
  have g_105 : w_101 1008 = none := gU_n ew_101 (by decide) g_93
  have g_106 : w_101 1009 = none := gU_n ew_101 (by decide) g_94
  have g_107 : w_101 1010 = none := gU_n ew_101 (by decide) g_95
  have h_108 : w_101 1001 = some (q_1, .inl (tc 0, 4, .inl (fun _ => 0))) := gU_n ew_101 (by decide) h_96
  have h_109 : w_101 1002 = some (q_26, .inl (tc 0, 6, .inl (fun _ => 0))) := gU_n ew_101 (by decide) h_97
  have h_110 : w_101 1003 = some (q_51, .inl (tc 0, 6, .inl (fun _ => 0))) := gU_n ew_101 (by decide) h_98
  have h_111 : w_101 1004 = some (q_76, .inl (tc 0, 390, .inl (fun _ => 0))) := gU_n ew_101 (by decide) h_99
  have h_112 : w_101 1000 = some (h0, .inr (6, [.ref q_1, .int 0, .ref q_26, .ref q_51, .ref q_76, .int 0, .int 0, .int (-1), .int 0, .int 0, .int 0, .int 0, .int 0, .int 0, .long 0, .null, .int 0, .int 0, .null, .null, .int 0, .null, .null, .null, .int 0, .int 0])) := gU_s ew_101
  refine lv_aload_n hx hb dX6_init_41 rfl (lv_at hl 0 rfl) ?_
  refine lv_iconst (v := 4) hx hb dX6_init_42 (by decide) ?_
  refine g_newi (atype := .long) (t0 := 1) (ty := .long) (a0 := (4, .inr (.inl (fun _ => 0)))) (N' := 4) hE hG mw1_74 rfl rfl (fun _ _ h => h) (fun _ => by first | rfl | simp [vp_cell_i, vp_cell_l, defaultValue]) (by decide) (by decide) (by decide) (Nat.le_of_ble_eq_true rfl) (Nat.le_of_ble_eq_true rfl) 1005 g_102 dX6_init_43 (fun q_113 H w_114 ew_114 hG => ?_)
  have g_115 : w_114 1006 = none := gU_n ew_114 (by decide) g_103
  have g_116 : w_114 1007 = none := gU_n ew_114 (by decide) g_104
  have g_117 : w_114 1008 = none := gU_n ew_114 (by decide) g_105
  have g_118 : w_114 1009 = none := gU_n ew_114 (by decide) g_106
  have g_119 : w_114 1010 = none := gU_n ew_114 (by decide) g_107
  have h_120 : w_114 1001 = some (q_1, .inl (tc 0, 4, .inl (fun _ => 0))) := gU_n ew_114 (by decide) h_108
  have h_121 : w_114 1002 = some (q_26, .inl (tc 0, 6, .inl (fun _ => 0))) := gU_n ew_114 (by decide) h_109
  have h_122 : w_114 1003 = some (q_51, .inl (tc 0, 6, .inl (fun _ => 0))) := gU_n ew_114 (by decide) h_110
  have h_123 : w_114 1004 = some (q_76, .inl (tc 0, 390, .inl (fun _ => 0))) := gU_n ew_114 (by decide) h_111
  have h_124 : w_114 1000 = some (h0, .inr (6, [.ref q_1, .int 0, .ref q_26, .ref q_51, .ref q_76, .int 0, .int 0, .int (-1), .int 0, .int 0, .int 0, .int 0, .int 0, .int 0, .long 0, .null, .int 0, .int 0, .null, .null, .int 0, .null, .null, .null, .int 0, .int 0])) := gU_n ew_114 (by decide) h_112
  have h_125 : w_114 1005 = some (q_113, .inl (tc 1, 4, .inr (.inl (fun _ => 0)))) := gU_s ew_114
  refine g_putF hE hG h_124 rfl inG6 tyX6 tyX6_ok nmX6 15 (by decide) mw3_202 rfl ((hnm _).mpr rfl) rfl rfl rfl (Nat.le_of_ble_eq_true rfl) dX6_init_45 (fun H locs w_126 ew_126 hG => ?_)
  have g_127 : w_126 1006 = none := gU_n ew_126 (by decide) g_115
  have g_128 : w_126 1007 = none := gU_n ew_126 (by decide) g_116
  have g_129 : w_126 1008 = none := gU_n ew_126 (by decide) g_117
  have g_130 : w_126 1009 = none := gU_n ew_126 (by decide) g_118
  have g_131 : w_126 1010 = none := gU_n ew_126 (by decide) g_119
  have h_132 : w_126 1001 = some (q_1, .inl (tc 0, 4, .inl (fun _ => 0))) := gU_n ew_126 (by decide) h_120
  have h_133 : w_126 1002 = some (q_26, .inl (tc 0, 6, .inl (fun _ => 0))) := gU_n ew_126 (by decide) h_121
  have h_134 : w_126 1003 = some (q_51, .inl (tc 0, 6, .inl (fun _ => 0))) := gU_n ew_126 (by decide) h_122
  have h_135 : w_126 1004 = some (q_76, .inl (tc 0, 390, .inl (fun _ => 0))) := gU_n ew_126 (by decide) h_123
  have h_136 : w_126 1005 = some (q_113, .inl (tc 1, 4, .inr (.inl (fun _ => 0)))) := gU_n ew_126 (by decide) h_125
  have h_137 : w_126 1000 = some (h0, .inr (6, [.ref q_1, .int 0, .ref q_26, .ref q_51, .ref q_76, .int 0, .int 0, .int (-1), .int 0, .int 0, .int 0, .int 0, .int 0, .int 0, .long 0, .ref q_113, .int 0, .int 0, .null, .null, .int 0, .null, .null, .null, .int 0, .int 0])) := gU_s ew_126
  refine lv_aload_n hx hb dX6_init_48 rfl (lv_at hl 0 rfl) ?_
  refine lv_bipush (v := 32) hx hb dX6_init_49 (by decide) ?_
  refine g_newi (atype := .int) (t0 := 0) (ty := .int) (a0 := (32, .inl (fun _ => 0))) (N' := 32) hE hG mw1_73 rfl rfl (fun _ _ h => h) (fun _ => by first | rfl | simp [vp_cell_i, vp_cell_l, defaultValue]) (by decide) (by decide) (by decide) (Nat.le_of_ble_eq_true rfl) (Nat.le_of_ble_eq_true rfl) 1006 g_127 dX6_init_51 (fun q_138 H w_139 ew_139 hG => ?_)
  have g_140 : w_139 1007 = none := gU_n ew_139 (by decide) g_128
  have g_141 : w_139 1008 = none := gU_n ew_139 (by decide) g_129
  have g_142 : w_139 1009 = none := gU_n ew_139 (by decide) g_130
  have g_143 : w_139 1010 = none := gU_n ew_139 (by decide) g_131
  have h_144 : w_139 1001 = some (q_1, .inl (tc 0, 4, .inl (fun _ => 0))) := gU_n ew_139 (by decide) h_132
  have h_145 : w_139 1002 = some (q_26, .inl (tc 0, 6, .inl (fun _ => 0))) := gU_n ew_139 (by decide) h_133
  have h_146 : w_139 1003 = some (q_51, .inl (tc 0, 6, .inl (fun _ => 0))) := gU_n ew_139 (by decide) h_134
  have h_147 : w_139 1004 = some (q_76, .inl (tc 0, 390, .inl (fun _ => 0))) := gU_n ew_139 (by decide) h_135
  have h_148 : w_139 1005 = some (q_113, .inl (tc 1, 4, .inr (.inl (fun _ => 0)))) := gU_n ew_139 (by decide) h_136
  have h_149 : w_139 1000 = some (h0, .inr (6, [.ref q_1, .int 0, .ref q_26, .ref q_51, .ref q_76, .int 0, .int 0, .int (-1), .int 0, .int 0, .int 0, .int 0, .int 0, .int 0, .long 0, .ref q_113, .int 0, .int 0, .null, .null, .int 0, .null, .null, .null, .int 0, .int 0])) := gU_n ew_139 (by decide) h_137
  have h_150 : w_139 1006 = some (q_138, .inl (tc 0, 32, .inl (fun _ => 0))) := gU_s ew_139
  refine g_putF hE hG h_149 rfl inG6 tyX6 tyX6_ok nmX6 18 (by decide) mw3_205 rfl ((hnm _).mpr rfl) rfl rfl rfl (Nat.le_of_ble_eq_true rfl) dX6_init_53 (fun H locs w_151 ew_151 hG => ?_)
  have g_152 : w_151 1007 = none := gU_n ew_151 (by decide) g_140
  have g_153 : w_151 1008 = none := gU_n ew_151 (by decide) g_141
  have g_154 : w_151 1009 = none := gU_n ew_151 (by decide) g_142
  have g_155 : w_151 1010 = none := gU_n ew_151 (by decide) g_143
  have h_156 : w_151 1001 = some (q_1, .inl (tc 0, 4, .inl (fun _ => 0))) := gU_n ew_151 (by decide) h_144
  have h_157 : w_151 1002 = some (q_26, .inl (tc 0, 6, .inl (fun _ => 0))) := gU_n ew_151 (by decide) h_145
  have h_158 : w_151 1003 = some (q_51, .inl (tc 0, 6, .inl (fun _ => 0))) := gU_n ew_151 (by decide) h_146
  have h_159 : w_151 1004 = some (q_76, .inl (tc 0, 390, .inl (fun _ => 0))) := gU_n ew_151 (by decide) h_147
  have h_160 : w_151 1005 = some (q_113, .inl (tc 1, 4, .inr (.inl (fun _ => 0)))) := gU_n ew_151 (by decide) h_148
  have h_161 : w_151 1006 = some (q_138, .inl (tc 0, 32, .inl (fun _ => 0))) := gU_n ew_151 (by decide) h_150
  have h_162 : w_151 1000 = some (h0, .inr (6, [.ref q_1, .int 0, .ref q_26, .ref q_51, .ref q_76, .int 0, .int 0, .int (-1), .int 0, .int 0, .int 0, .int 0, .int 0, .int 0, .long 0, .ref q_113, .int 0, .int 0, .ref q_138, .null, .int 0, .null, .null, .null, .int 0, .int 0])) := gU_s ew_151
  refine lv_aload_n hx hb dX6_init_56 rfl (lv_at hl 0 rfl) ?_
  refine lv_iconst (v := 4) hx hb dX6_init_57 (by decide) ?_
  refine g_newi (atype := .int) (t0 := 0) (ty := .int) (a0 := (4, .inl (fun _ => 0))) (N' := 4) hE hG mw1_73 rfl rfl (fun _ _ h => h) (fun _ => by first | rfl | simp [vp_cell_i, vp_cell_l, defaultValue]) (by decide) (by decide) (by decide) (Nat.le_of_ble_eq_true rfl) (Nat.le_of_ble_eq_true rfl) 1007 g_152 dX6_init_58 (fun q_163 H w_164 ew_164 hG => ?_)
  have g_165 : w_164 1008 = none := gU_n ew_164 (by decide) g_153
  have g_166 : w_164 1009 = none := gU_n ew_164 (by decide) g_154
  have g_167 : w_164 1010 = none := gU_n ew_164 (by decide) g_155
  have h_168 : w_164 1001 = some (q_1, .inl (tc 0, 4, .inl (fun _ => 0))) := gU_n ew_164 (by decide) h_156
  have h_169 : w_164 1002 = some (q_26, .inl (tc 0, 6, .inl (fun _ => 0))) := gU_n ew_164 (by decide) h_157
  have h_170 : w_164 1003 = some (q_51, .inl (tc 0, 6, .inl (fun _ => 0))) := gU_n ew_164 (by decide) h_158
  have h_171 : w_164 1004 = some (q_76, .inl (tc 0, 390, .inl (fun _ => 0))) := gU_n ew_164 (by decide) h_159
  have h_172 : w_164 1005 = some (q_113, .inl (tc 1, 4, .inr (.inl (fun _ => 0)))) := gU_n ew_164 (by decide) h_160
  have h_173 : w_164 1006 = some (q_138, .inl (tc 0, 32, .inl (fun _ => 0))) := gU_n ew_164 (by decide) h_161
  have h_174 : w_164 1000 = some (h0, .inr (6, [.ref q_1, .int 0, .ref q_26, .ref q_51, .ref q_76, .int 0, .int 0, .int (-1), .int 0, .int 0, .int 0, .int 0, .int 0, .int 0, .long 0, .ref q_113, .int 0, .int 0, .ref q_138, .null, .int 0, .null, .null, .null, .int 0, .int 0])) := gU_n ew_164 (by decide) h_162
  have h_175 : w_164 1007 = some (q_163, .inl (tc 0, 4, .inl (fun _ => 0))) := gU_s ew_164
  refine g_putF hE hG h_174 rfl inG6 tyX6 tyX6_ok nmX6 19 (by decide) mw3_206 rfl ((hnm _).mpr rfl) rfl rfl rfl (Nat.le_of_ble_eq_true rfl) dX6_init_60 (fun H locs w_176 ew_176 hG => ?_)
  have g_177 : w_176 1008 = none := gU_n ew_176 (by decide) g_165
  have g_178 : w_176 1009 = none := gU_n ew_176 (by decide) g_166
  have g_179 : w_176 1010 = none := gU_n ew_176 (by decide) g_167
  have h_180 : w_176 1001 = some (q_1, .inl (tc 0, 4, .inl (fun _ => 0))) := gU_n ew_176 (by decide) h_168
  have h_181 : w_176 1002 = some (q_26, .inl (tc 0, 6, .inl (fun _ => 0))) := gU_n ew_176 (by decide) h_169
  have h_182 : w_176 1003 = some (q_51, .inl (tc 0, 6, .inl (fun _ => 0))) := gU_n ew_176 (by decide) h_170
  have h_183 : w_176 1004 = some (q_76, .inl (tc 0, 390, .inl (fun _ => 0))) := gU_n ew_176 (by decide) h_171
  have h_184 : w_176 1005 = some (q_113, .inl (tc 1, 4, .inr (.inl (fun _ => 0)))) := gU_n ew_176 (by decide) h_172
  have h_185 : w_176 1006 = some (q_138, .inl (tc 0, 32, .inl (fun _ => 0))) := gU_n ew_176 (by decide) h_173
  have h_186 : w_176 1007 = some (q_163, .inl (tc 0, 4, .inl (fun _ => 0))) := gU_n ew_176 (by decide) h_175
  have h_187 : w_176 1000 = some (h0, .inr (6, [.ref q_1, .int 0, .ref q_26, .ref q_51, .ref q_76, .int 0, .int 0, .int (-1), .int 0, .int 0, .int 0, .int 0, .int 0, .int 0, .long 0, .ref q_113, .int 0, .int 0, .ref q_138, .ref q_163, .int 0, .null, .null, .null, .int 0, .int 0])) := gU_s ew_176
  refine lv_aload_n hx hb dX6_init_63 rfl (lv_at hl 0 rfl) ?_
  refine lv_bipush (v := 8) hx hb dX6_init_64 (by decide) ?_
  refine g_newi (atype := .int) (t0 := 0) (ty := .int) (a0 := (8, .inl (fun _ => 0))) (N' := 8) hE hG mw1_73 rfl rfl (fun _ _ h => h) (fun _ => by first | rfl | simp [vp_cell_i, vp_cell_l, defaultValue]) (by decide) (by decide) (by decide) (Nat.le_of_ble_eq_true rfl) (Nat.le_of_ble_eq_true rfl) 1008 g_177 dX6_init_66 (fun q_188 H w_189 ew_189 hG => ?_)
  have g_190 : w_189 1009 = none := gU_n ew_189 (by decide) g_178
  have g_191 : w_189 1010 = none := gU_n ew_189 (by decide) g_179
  have h_192 : w_189 1001 = some (q_1, .inl (tc 0, 4, .inl (fun _ => 0))) := gU_n ew_189 (by decide) h_180
  have h_193 : w_189 1002 = some (q_26, .inl (tc 0, 6, .inl (fun _ => 0))) := gU_n ew_189 (by decide) h_181
  have h_194 : w_189 1003 = some (q_51, .inl (tc 0, 6, .inl (fun _ => 0))) := gU_n ew_189 (by decide) h_182
  have h_195 : w_189 1004 = some (q_76, .inl (tc 0, 390, .inl (fun _ => 0))) := gU_n ew_189 (by decide) h_183
  have h_196 : w_189 1005 = some (q_113, .inl (tc 1, 4, .inr (.inl (fun _ => 0)))) := gU_n ew_189 (by decide) h_184
  have h_197 : w_189 1006 = some (q_138, .inl (tc 0, 32, .inl (fun _ => 0))) := gU_n ew_189 (by decide) h_185
  have h_198 : w_189 1007 = some (q_163, .inl (tc 0, 4, .inl (fun _ => 0))) := gU_n ew_189 (by decide) h_186
  have h_199 : w_189 1000 = some (h0, .inr (6, [.ref q_1, .int 0, .ref q_26, .ref q_51, .ref q_76, .int 0, .int 0, .int (-1), .int 0, .int 0, .int 0, .int 0, .int 0, .int 0, .long 0, .ref q_113, .int 0, .int 0, .ref q_138, .ref q_163, .int 0, .null, .null, .null, .int 0, .int 0])) := gU_n ew_189 (by decide) h_187
  have h_200 : w_189 1008 = some (q_188, .inl (tc 0, 8, .inl (fun _ => 0))) := gU_s ew_189
  refine g_putF hE hG h_199 rfl inG6 tyX6 tyX6_ok nmX6 21 (by decide) mw3_208 rfl ((hnm _).mpr rfl) rfl rfl rfl (Nat.le_of_ble_eq_true rfl) dX6_init_68 (fun H locs w_201 ew_201 hG => ?_)
  have g_202 : w_201 1009 = none := gU_n ew_201 (by decide) g_190
  have g_203 : w_201 1010 = none := gU_n ew_201 (by decide) g_191
  have h_204 : w_201 1001 = some (q_1, .inl (tc 0, 4, .inl (fun _ => 0))) := gU_n ew_201 (by decide) h_192
  have h_205 : w_201 1002 = some (q_26, .inl (tc 0, 6, .inl (fun _ => 0))) := gU_n ew_201 (by decide) h_193
  have h_206 : w_201 1003 = some (q_51, .inl (tc 0, 6, .inl (fun _ => 0))) := gU_n ew_201 (by decide) h_194
  have h_207 : w_201 1004 = some (q_76, .inl (tc 0, 390, .inl (fun _ => 0))) := gU_n ew_201 (by decide) h_195
  have h_208 : w_201 1005 = some (q_113, .inl (tc 1, 4, .inr (.inl (fun _ => 0)))) := gU_n ew_201 (by decide) h_196
  have h_209 : w_201 1006 = some (q_138, .inl (tc 0, 32, .inl (fun _ => 0))) := gU_n ew_201 (by decide) h_197
  have h_210 : w_201 1007 = some (q_163, .inl (tc 0, 4, .inl (fun _ => 0))) := gU_n ew_201 (by decide) h_198
  have h_211 : w_201 1008 = some (q_188, .inl (tc 0, 8, .inl (fun _ => 0))) := gU_n ew_201 (by decide) h_200
  have h_212 : w_201 1000 = some (h0, .inr (6, [.ref q_1, .int 0, .ref q_26, .ref q_51, .ref q_76, .int 0, .int 0, .int (-1), .int 0, .int 0, .int 0, .int 0, .int 0, .int 0, .long 0, .ref q_113, .int 0, .int 0, .ref q_138, .ref q_163, .int 0, .ref q_188, .null, .null, .int 0, .int 0])) := gU_s ew_201
  refine lv_aload_n hx hb dX6_init_71 rfl (lv_at hl 0 rfl) ?_
  refine lv_bipush (v := 48) hx hb dX6_init_72 (by decide) ?_
  refine g_newi (atype := .boolean) (t0 := 2) (ty := .boolean) (a0 := (48, .inl (fun _ => 0))) (N' := 48) hE hG mw4_26 rfl rfl (fun _ _ h => h) (fun _ => by first | rfl | simp [vp_cell_i, vp_cell_l, defaultValue]) (by decide) (by decide) (by decide) (Nat.le_of_ble_eq_true rfl) (Nat.le_of_ble_eq_true rfl) 1009 g_202 dX6_init_74 (fun q_213 H w_214 ew_214 hG => ?_)
  have g_215 : w_214 1010 = none := gU_n ew_214 (by decide) g_203
  have h_216 : w_214 1001 = some (q_1, .inl (tc 0, 4, .inl (fun _ => 0))) := gU_n ew_214 (by decide) h_204
  have h_217 : w_214 1002 = some (q_26, .inl (tc 0, 6, .inl (fun _ => 0))) := gU_n ew_214 (by decide) h_205
  have h_218 : w_214 1003 = some (q_51, .inl (tc 0, 6, .inl (fun _ => 0))) := gU_n ew_214 (by decide) h_206
  have h_219 : w_214 1004 = some (q_76, .inl (tc 0, 390, .inl (fun _ => 0))) := gU_n ew_214 (by decide) h_207
  have h_220 : w_214 1005 = some (q_113, .inl (tc 1, 4, .inr (.inl (fun _ => 0)))) := gU_n ew_214 (by decide) h_208
  have h_221 : w_214 1006 = some (q_138, .inl (tc 0, 32, .inl (fun _ => 0))) := gU_n ew_214 (by decide) h_209
  have h_222 : w_214 1007 = some (q_163, .inl (tc 0, 4, .inl (fun _ => 0))) := gU_n ew_214 (by decide) h_210
  have h_223 : w_214 1008 = some (q_188, .inl (tc 0, 8, .inl (fun _ => 0))) := gU_n ew_214 (by decide) h_211
  have h_224 : w_214 1000 = some (h0, .inr (6, [.ref q_1, .int 0, .ref q_26, .ref q_51, .ref q_76, .int 0, .int 0, .int (-1), .int 0, .int 0, .int 0, .int 0, .int 0, .int 0, .long 0, .ref q_113, .int 0, .int 0, .ref q_138, .ref q_163, .int 0, .ref q_188, .null, .null, .int 0, .int 0])) := gU_n ew_214 (by decide) h_212
  have h_225 : w_214 1009 = some (q_213, .inl (tc 2, 48, .inl (fun _ => 0))) := gU_s ew_214
  refine g_putF hE hG h_224 rfl inG6 tyX6 tyX6_ok nmX6 22 (by decide) mw3_209 rfl ((hnm _).mpr rfl) rfl rfl rfl (Nat.le_of_ble_eq_true rfl) dX6_init_76 (fun H locs w_226 ew_226 hG => ?_)
  have g_227 : w_226 1010 = none := gU_n ew_226 (by decide) g_215
  have h_228 : w_226 1001 = some (q_1, .inl (tc 0, 4, .inl (fun _ => 0))) := gU_n ew_226 (by decide) h_216
  have h_229 : w_226 1002 = some (q_26, .inl (tc 0, 6, .inl (fun _ => 0))) := gU_n ew_226 (by decide) h_217
  have h_230 : w_226 1003 = some (q_51, .inl (tc 0, 6, .inl (fun _ => 0))) := gU_n ew_226 (by decide) h_218
  have h_231 : w_226 1004 = some (q_76, .inl (tc 0, 390, .inl (fun _ => 0))) := gU_n ew_226 (by decide) h_219
  have h_232 : w_226 1005 = some (q_113, .inl (tc 1, 4, .inr (.inl (fun _ => 0)))) := gU_n ew_226 (by decide) h_220
  have h_233 : w_226 1006 = some (q_138, .inl (tc 0, 32, .inl (fun _ => 0))) := gU_n ew_226 (by decide) h_221
  have h_234 : w_226 1007 = some (q_163, .inl (tc 0, 4, .inl (fun _ => 0))) := gU_n ew_226 (by decide) h_222
  have h_235 : w_226 1008 = some (q_188, .inl (tc 0, 8, .inl (fun _ => 0))) := gU_n ew_226 (by decide) h_223
  have h_236 : w_226 1009 = some (q_213, .inl (tc 2, 48, .inl (fun _ => 0))) := gU_n ew_226 (by decide) h_225
  have h_237 : w_226 1000 = some (h0, .inr (6, [.ref q_1, .int 0, .ref q_26, .ref q_51, .ref q_76, .int 0, .int 0, .int (-1), .int 0, .int 0, .int 0, .int 0, .int 0, .int 0, .long 0, .ref q_113, .int 0, .int 0, .ref q_138, .ref q_163, .int 0, .ref q_188, .ref q_213, .null, .int 0, .int 0])) := gU_s ew_226
  refine lv_aload_n hx hb dX6_init_79 rfl (lv_at hl 0 rfl) ?_
  refine lv_sipush (v := 3120) hx hb dX6_init_80 (by decide) ?_
  refine g_newi (atype := .int) (t0 := 0) (ty := .int) (a0 := (3120, .inl (fun _ => 0))) (N' := 3120) hE hG mw1_73 rfl rfl (fun _ _ h => h) (fun _ => by first | rfl | simp [vp_cell_i, vp_cell_l, defaultValue]) (by decide) (by decide) (by decide) (Nat.le_of_ble_eq_true rfl) (Nat.le_of_ble_eq_true rfl) 1010 g_227 dX6_init_83 (fun q_238 H w_239 ew_239 hG => ?_)
  have h_240 : w_239 1001 = some (q_1, .inl (tc 0, 4, .inl (fun _ => 0))) := gU_n ew_239 (by decide) h_228
  have h_241 : w_239 1002 = some (q_26, .inl (tc 0, 6, .inl (fun _ => 0))) := gU_n ew_239 (by decide) h_229
  have h_242 : w_239 1003 = some (q_51, .inl (tc 0, 6, .inl (fun _ => 0))) := gU_n ew_239 (by decide) h_230
  have h_243 : w_239 1004 = some (q_76, .inl (tc 0, 390, .inl (fun _ => 0))) := gU_n ew_239 (by decide) h_231
  have h_244 : w_239 1005 = some (q_113, .inl (tc 1, 4, .inr (.inl (fun _ => 0)))) := gU_n ew_239 (by decide) h_232
  have h_245 : w_239 1006 = some (q_138, .inl (tc 0, 32, .inl (fun _ => 0))) := gU_n ew_239 (by decide) h_233
  have h_246 : w_239 1007 = some (q_163, .inl (tc 0, 4, .inl (fun _ => 0))) := gU_n ew_239 (by decide) h_234
  have h_247 : w_239 1008 = some (q_188, .inl (tc 0, 8, .inl (fun _ => 0))) := gU_n ew_239 (by decide) h_235
  have h_248 : w_239 1009 = some (q_213, .inl (tc 2, 48, .inl (fun _ => 0))) := gU_n ew_239 (by decide) h_236
  have h_249 : w_239 1000 = some (h0, .inr (6, [.ref q_1, .int 0, .ref q_26, .ref q_51, .ref q_76, .int 0, .int 0, .int (-1), .int 0, .int 0, .int 0, .int 0, .int 0, .int 0, .long 0, .ref q_113, .int 0, .int 0, .ref q_138, .ref q_163, .int 0, .ref q_188, .ref q_213, .null, .int 0, .int 0])) := gU_n ew_239 (by decide) h_237
  have h_250 : w_239 1010 = some (q_238, .inl (tc 0, 3120, .inl (fun _ => 0))) := gU_s ew_239
  refine g_putF hE hG h_249 rfl inG6 tyX6 tyX6_ok nmX6 23 (by decide) mw3_210 rfl ((hnm _).mpr rfl) rfl rfl rfl (Nat.le_of_ble_eq_true rfl) dX6_init_85 (fun H locs w_251 ew_251 hG => ?_)
  have h_252 : w_251 1001 = some (q_1, .inl (tc 0, 4, .inl (fun _ => 0))) := gU_n ew_251 (by decide) h_240
  have h_253 : w_251 1002 = some (q_26, .inl (tc 0, 6, .inl (fun _ => 0))) := gU_n ew_251 (by decide) h_241
  have h_254 : w_251 1003 = some (q_51, .inl (tc 0, 6, .inl (fun _ => 0))) := gU_n ew_251 (by decide) h_242
  have h_255 : w_251 1004 = some (q_76, .inl (tc 0, 390, .inl (fun _ => 0))) := gU_n ew_251 (by decide) h_243
  have h_256 : w_251 1005 = some (q_113, .inl (tc 1, 4, .inr (.inl (fun _ => 0)))) := gU_n ew_251 (by decide) h_244
  have h_257 : w_251 1006 = some (q_138, .inl (tc 0, 32, .inl (fun _ => 0))) := gU_n ew_251 (by decide) h_245
  have h_258 : w_251 1007 = some (q_163, .inl (tc 0, 4, .inl (fun _ => 0))) := gU_n ew_251 (by decide) h_246
  have h_259 : w_251 1008 = some (q_188, .inl (tc 0, 8, .inl (fun _ => 0))) := gU_n ew_251 (by decide) h_247
  have h_260 : w_251 1009 = some (q_213, .inl (tc 2, 48, .inl (fun _ => 0))) := gU_n ew_251 (by decide) h_248
  have h_261 : w_251 1010 = some (q_238, .inl (tc 0, 3120, .inl (fun _ => 0))) := gU_n ew_251 (by decide) h_250
  have h_262 : w_251 1000 = some (h0, .inr (6, [.ref q_1, .int 0, .ref q_26, .ref q_51, .ref q_76, .int 0, .int 0, .int (-1), .int 0, .int 0, .int 0, .int 0, .int 0, .int 0, .long 0, .ref q_113, .int 0, .int 0, .ref q_138, .ref q_163, .int 0, .ref q_188, .ref q_213, .ref q_238, .int 0, .int 0])) := gU_s ew_251
  refine lv_iconst (v := 0) hx hb dX6_init_88 (by decide) ?_
  refine lv_istore_n (lv' := [(1, .int 0), (0, .ref h0)]) hx hb dX6_init_89 rfl hl (by decide) rfl (fun ls hl => ?_)
  have hl : lv_has ls 2 [(1, .int (nI (32 - 32))), (0, .ref h0)] := hl
  have hw_2650 : w_251 = gU w_251 1006 (q_138, .inl (tc 0, 32, .inl (f_cp (32 - 32) (fun _ => 0) (fun _ => 44000)))) := by rw [Nat.sub_self, f_cp_0]; exact (gU_self h_257).symm
  have hloop_267 : ∀ (k_263 : Nat) (w_264 : gW) (H : Heap) (locs : List Loc) (ls : Array Slot), k_263 ≤ 32 → w_264 = gU w_251 1006 (q_138, .inl (tc 0, 32, .inl (f_cp (32 - k_263) (fun _ => 0) (fun _ => 44000)))) → gS D A s.heap w_264 H locs → lv_has ls 2 [(1, .int (nI (32 - k_263))), (0, .ref h0)] → W p l e rm_X6_init s m args below meth c H locs ((((((((((0 + 1) + 1) + 1) + 1) + 1) + 1) + 1) + 1) + 1) + 1) ((((((((((0 + 4) + 6) + 6) + 390) + 4) + 32) + 4) + 8) + 48) + 3120) Q (F0 m 90 ls []) := by
    intro k_263
    induction k_263 with
    | zero =>
      intro w_264 H locs ls hk_266 hw_265 hG hl
      have h_268 : w_264 1001 = some (q_1, .inl (tc 0, 4, .inl (fun _ => 0))) := gU_n hw_265 (by decide) h_252
      have h_269 : w_264 1002 = some (q_26, .inl (tc 0, 6, .inl (fun _ => 0))) := gU_n hw_265 (by decide) h_253
      have h_270 : w_264 1003 = some (q_51, .inl (tc 0, 6, .inl (fun _ => 0))) := gU_n hw_265 (by decide) h_254
      have h_271 : w_264 1004 = some (q_76, .inl (tc 0, 390, .inl (fun _ => 0))) := gU_n hw_265 (by decide) h_255
      have h_272 : w_264 1005 = some (q_113, .inl (tc 1, 4, .inr (.inl (fun _ => 0)))) := gU_n hw_265 (by decide) h_256
      have h_273 : w_264 1007 = some (q_163, .inl (tc 0, 4, .inl (fun _ => 0))) := gU_n hw_265 (by decide) h_258
      have h_274 : w_264 1008 = some (q_188, .inl (tc 0, 8, .inl (fun _ => 0))) := gU_n hw_265 (by decide) h_259
      have h_275 : w_264 1009 = some (q_213, .inl (tc 2, 48, .inl (fun _ => 0))) := gU_n hw_265 (by decide) h_260
      have h_276 : w_264 1010 = some (q_238, .inl (tc 0, 3120, .inl (fun _ => 0))) := gU_n hw_265 (by decide) h_261
      have h_277 : w_264 1000 = some (h0, .inr (6, [.ref q_1, .int 0, .ref q_26, .ref q_51, .ref q_76, .int 0, .int 0, .int (-1), .int 0, .int 0, .int 0, .int 0, .int 0, .int 0, .long 0, .ref q_113, .int 0, .int 0, .ref q_138, .ref q_163, .int 0, .ref q_188, .ref q_213, .ref q_238, .int 0, .int 0])) := gU_n hw_265 (by decide) h_262
      have h_278 : w_264 1006 = some (q_138, .inl (tc 0, 32, .inl (f_cp (32 - 0) (fun _ => 0) (fun _ => 44000)))) := gU_s hw_265
      refine lv_iload_n hx hb dX6_init_90 rfl (lv_at hl 0 rfl) ?_
      refine lv_bipush (v := 32) hx hb dX6_init_91 (by decide) ?_
      refine lv_icmp_ge (tgt := 110) hx hb dX6_init_93 (by decide) (fun c9 => ?_) (fun c9 => (c9 (nI_le (a := 32) (by omega) (by omega))).elim)
      subst hQ
      exact g_vret hE hG hr (Nat.le_of_ble_eq_true rfl) (Nat.le_of_ble_eq_true rfl) dX6_init_110 ⟨rfl, (fun k => match k with | 0 => h0 | 1 => q_1 | 2 => q_26 | 3 => q_51 | 4 => q_76 | 5 => q_113 | 6 => q_138 | 7 => q_163 | 8 => q_188 | 9 => q_213 | _ => q_238), rfl, ⟨h_277, h_268, h_269, h_270, h_271, h_272, h_278, h_273, h_274, h_275, h_276⟩, gF_u (gF_u (gF_u (gF_u (gF_u (gF_u (gF_u (gF_u (gF_u (gF_u (gF_u (gF_u (gF_u (gF_u (gF_u (gF_u (gF_u (gF_u (gF_u (gF_u (gF_u (gF_u (gF_rf w) ew_2 (by decide)) ew_14 (by decide)) ew_27 (by decide)) ew_39 (by decide)) ew_52 (by decide)) ew_64 (by decide)) ew_77 (by decide)) ew_89 (by decide)) ew_101 (by decide)) ew_114 (by decide)) ew_126 (by decide)) ew_139 (by decide)) ew_151 (by decide)) ew_164 (by decide)) ew_176 (by decide)) ew_189 (by decide)) ew_201 (by decide)) ew_214 (by decide)) ew_226 (by decide)) ew_239 (by decide)) ew_251 (by decide)) hw_265 (by decide)⟩
    | succ k_263 ihk_263 =>
      intro w_264 H locs ls hk_266 hw_265 hG hl
      have h_279 : w_264 1001 = some (q_1, .inl (tc 0, 4, .inl (fun _ => 0))) := gU_n hw_265 (by decide) h_252
      have h_280 : w_264 1002 = some (q_26, .inl (tc 0, 6, .inl (fun _ => 0))) := gU_n hw_265 (by decide) h_253
      have h_281 : w_264 1003 = some (q_51, .inl (tc 0, 6, .inl (fun _ => 0))) := gU_n hw_265 (by decide) h_254
      have h_282 : w_264 1004 = some (q_76, .inl (tc 0, 390, .inl (fun _ => 0))) := gU_n hw_265 (by decide) h_255
      have h_283 : w_264 1005 = some (q_113, .inl (tc 1, 4, .inr (.inl (fun _ => 0)))) := gU_n hw_265 (by decide) h_256
      have h_284 : w_264 1007 = some (q_163, .inl (tc 0, 4, .inl (fun _ => 0))) := gU_n hw_265 (by decide) h_258
      have h_285 : w_264 1008 = some (q_188, .inl (tc 0, 8, .inl (fun _ => 0))) := gU_n hw_265 (by decide) h_259
      have h_286 : w_264 1009 = some (q_213, .inl (tc 2, 48, .inl (fun _ => 0))) := gU_n hw_265 (by decide) h_260
      have h_287 : w_264 1010 = some (q_238, .inl (tc 0, 3120, .inl (fun _ => 0))) := gU_n hw_265 (by decide) h_261
      have h_288 : w_264 1000 = some (h0, .inr (6, [.ref q_1, .int 0, .ref q_26, .ref q_51, .ref q_76, .int 0, .int 0, .int (-1), .int 0, .int 0, .int 0, .int 0, .int 0, .int 0, .long 0, .ref q_113, .int 0, .int 0, .ref q_138, .ref q_163, .int 0, .ref q_188, .ref q_213, .ref q_238, .int 0, .int 0])) := gU_n hw_265 (by decide) h_262
      have h_289 : w_264 1006 = some (q_138, .inl (tc 0, 32, .inl (f_cp (32 - (k_263 + 1)) (fun _ => 0) (fun _ => 44000)))) := gU_s hw_265
      refine lv_iload_n hx hb dX6_init_90 rfl (lv_at hl 0 rfl) ?_
      refine lv_bipush (v := 32) hx hb dX6_init_91 (by decide) ?_
      refine lv_icmp_ge (tgt := 110) hx hb dX6_init_93 (by decide) (fun c9 => absurd c9 (nI_ge (b := 32) (by omega) (by omega))) (fun c9 => ?_)
      refine lv_aload_n hx hb dX6_init_96 rfl (lv_at hl 1 rfl) ?_
      refine g_get hE hG h_288 rfl inG6 18 (by decide) mw3_205 rfl dX6_init_97 ?_
      refine lv_iload_n hx hb dX6_init_100 rfl (lv_at hl 0 rfl) ?_
      refine lv_ldc (v := 44000) hx hb hE.2.2.2.1 (hE.2.2.2.2.1 _ mw3_186) dX6_init_101 ?_
      refine g_iast hE hG h_289 (vp_in_nI (by omega) (by decide)) dX6_init_103 (fun H locs w_290 ew_290 hG => ?_)
      have h_291 : w_290 1001 = some (q_1, .inl (tc 0, 4, .inl (fun _ => 0))) := gU_n ew_290 (by decide) h_279
      have h_292 : w_290 1002 = some (q_26, .inl (tc 0, 6, .inl (fun _ => 0))) := gU_n ew_290 (by decide) h_280
      have h_293 : w_290 1003 = some (q_51, .inl (tc 0, 6, .inl (fun _ => 0))) := gU_n ew_290 (by decide) h_281
      have h_294 : w_290 1004 = some (q_76, .inl (tc 0, 390, .inl (fun _ => 0))) := gU_n ew_290 (by decide) h_282
      have h_295 : w_290 1005 = some (q_113, .inl (tc 1, 4, .inr (.inl (fun _ => 0)))) := gU_n ew_290 (by decide) h_283
      have h_296 : w_290 1007 = some (q_163, .inl (tc 0, 4, .inl (fun _ => 0))) := gU_n ew_290 (by decide) h_284
      have h_297 : w_290 1008 = some (q_188, .inl (tc 0, 8, .inl (fun _ => 0))) := gU_n ew_290 (by decide) h_285
      have h_298 : w_290 1009 = some (q_213, .inl (tc 2, 48, .inl (fun _ => 0))) := gU_n ew_290 (by decide) h_286
      have h_299 : w_290 1010 = some (q_238, .inl (tc 0, 3120, .inl (fun _ => 0))) := gU_n ew_290 (by decide) h_287
      have h_300 : w_290 1000 = some (h0, .inr (6, [.ref q_1, .int 0, .ref q_26, .ref q_51, .ref q_76, .int 0, .int 0, .int (-1), .int 0, .int 0, .int 0, .int 0, .int 0, .int 0, .long 0, .ref q_113, .int 0, .int 0, .ref q_138, .ref q_163, .int 0, .ref q_188, .ref q_213, .ref q_238, .int 0, .int 0])) := gU_n ew_290 (by decide) h_288
      have h_301 : w_290 1006 = some (q_138, .inl (tc 0, 32, .inl (upd (f_cp (32 - (k_263 + 1)) (fun _ => 0) (fun _ => 44000)) (nI (32 - (k_263 + 1))).toNatClampNeg 44000))) := gU_s ew_290
      refine lv_iinc (v := (nI (32 - k_263))) (lv' := [(1, .int (nI (32 - k_263))), (0, .ref h0)]) hx hb dX6_init_104 hl (k := 0) rfl (by rw [show 32 - k_263 = (32 - (k_263 + 1)) + 1 by omega]; exact nI_1 _) (by decide) rfl (fun ls hl => ?_)
      refine lv_goto (tgt := 90) hx hb dX6_init_107 (by decide) ?_
      exact ihk_263 w_290 _ _ _ (by omega) (by rw [ew_290, hw_265, gU_gU, nI_clamp (by omega), f_cp_s (32 - (k_263 + 1)) _ (fun _ => 44000), show 32 - k_263 = (32 - (k_263 + 1)) + 1 by omega]) hG (lv_sub hl [0, 1] rfl)
  exact hloop_267 32 w_251 _ _ _ (Nat.le_refl _) hw_2650 hG (lv_sub hl [0, 1] rfl)
