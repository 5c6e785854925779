/-! GongCycles() -/
theorem pit_0 : ∀ s : Nat, s < 4 → ∀ j : Nat, j < 7 → f_cp 7 (fun _ => 0) (fun _ => 44000) j = d_0 4 (8 * s + j + 1) := by decide +kernel
abbrev rm_X5_init : Room := { frames := 3, cells := 20, slots := 200, locals := 122 }
theorem nm_X5_init : gNm yX5_init 0 := ⟨by decide +kernel, by decide +kernel, by decide +kernel⟩
set_option maxHeartbeats 4000000 in
set_option maxRecDepth 100000 in
theorem c_X5_init (l : Launch) (hfl : l.stackTraces = false) (D : va_G) (tc : Nat → ClassId) (A : Nat → Prop) (w : gW) (h0 : Nat) (h1 : w 0 = some (h0, .inr (5, [.null, .int 0, .null, .int 0, .null, .int 0, .int 0, .null, .int 0, .null, .int 0]))) (hf : ∀ k, 1 ≤ k → k < 1000 → w k = none) : gM l yX5_init cX5_init 2 none rm_X5_init D tc A [.ref h0] w (fun v w' => v = none ∧ ∃ ca : Nat → Nat, ca 0 = h0 ∧ cW tc w' ca d_0 0 (fun _ => 0) ∧ gK w w') (fun _ => False) := by
  refine gM_of (by decide +kernel) (Nat.le_of_ble_eq_true rfl) ?_
  intro p e s m args below meth c ls Q hQ hE hG hr hnt hnm hl
  have hx := hE.1
  have hb := hE.2.1
  have hl : lv_has ls 2 [(0, .ref h0)] := hl
  refine lv_aload_n hx hb dX5_init_0 rfl (lv_at hl 0 rfl) ?_
  refine W.objInit hx hb hE.2.2.2.1 (hE.2.2.2.2.1 _ mw1_29) (hE.2.2.2.2.1 _ mw1_30) (hE.2.2.2.2.1 _ mw1_31) rfl (by rw [hE.2.2.1]; exact hl.1) rfl dX5_init_1 (Nat.le_of_ble_eq_true rfl) (Nat.le_of_ble_eq_true rfl) ?_
  refine W.eq (g2 := F0 m 4 ls []) rfl ?_
  refine lv_aload_n hx hb dX5_init_4 rfl (lv_at hl 0 rfl) ?_
  refine lv_iconst (v := 4) hx hb dX5_init_5 (by decide) ?_
  refine g_newi (atype := .int) (t0 := 0) (ty := .int) (a0 := (4, .inl (fun _ => 0))) (N' := 4) hE hG mw1_81 rfl rfl (fun _ _ h => h) (fun _ => by first | rfl | simp [vp_cell_i, vp_cell_l, defaultValue]) (by decide) (by decide) (by decide) (Nat.le_of_ble_eq_true rfl) (Nat.le_of_ble_eq_true rfl) 1 (hf 1 (by decide) (by decide)) dX5_init_6 (fun q_1 H w_2 ew_2 hG => ?_)
  have g_3 : w_2 2 = none := gU_n ew_2 (by decide) (hf 2 (by decide) (by decide))
  have g_4 : w_2 3 = none := gU_n ew_2 (by decide) (hf 3 (by decide) (by decide))
  have g_5 : w_2 4 = none := gU_n ew_2 (by decide) (hf 4 (by decide) (by decide))
  have g_6 : w_2 5 = none := gU_n ew_2 (by decide) (hf 5 (by decide) (by decide))
  have g_7 : w_2 6 = none := gU_n ew_2 (by decide) (hf 6 (by decide) (by decide))
  have g_8 : w_2 60 = none := gU_n ew_2 (by decide) (hf 60 (by decide) (by decide))
  have g_9 : w_2 61 = none := gU_n ew_2 (by decide) (hf 61 (by decide) (by decide))
  have g_10 : w_2 62 = none := gU_n ew_2 (by decide) (hf 62 (by decide) (by decide))
  have g_11 : w_2 63 = none := gU_n ew_2 (by decide) (hf 63 (by decide) (by decide))
  have g_12 : w_2 70 = none := gU_n ew_2 (by decide) (hf 70 (by decide) (by decide))
  have g_13 : w_2 71 = none := gU_n ew_2 (by decide) (hf 71 (by decide) (by decide))
  have g_14 : w_2 72 = none := gU_n ew_2 (by decide) (hf 72 (by decide) (by decide))
  have g_15 : w_2 73 = none := gU_n ew_2 (by decide) (hf 73 (by decide) (by decide))
  have h_16 : w_2 0 = some (h0, .inr (5, [.null, .int 0, .null, .int 0, .null, .int 0, .int 0, .null, .int 0, .null, .int 0])) := gU_n ew_2 (by decide) h1
  have h_17 : w_2 1 = some (q_1, .inl (tc 0, 4, .inl (fun _ => 0))) := gU_s ew_2
  refine g_putF hE hG h_16 rfl inG5 tyX5 tyX5_ok nmX5 0 (by decide) mw1_101 rfl ((hnm _).mpr rfl) rfl rfl rfl (Nat.le_of_ble_eq_true rfl) dX5_init_8 (fun H locs w_18 ew_18 hG => ?_)
  have g_19 : w_18 2 = none := gU_n ew_18 (by decide) g_3
  have g_20 : w_18 3 = none := gU_n ew_18 (by decide) g_4
  have g_21 : w_18 4 = none := gU_n ew_18 (by decide) g_5
  have g_22 : w_18 5 = none := gU_n ew_18 (by decide) g_6
  have g_23 : w_18 6 = none := gU_n ew_18 (by decide) g_7
  have g_24 : w_18 60 = none := gU_n ew_18 (by decide) g_8
  have g_25 : w_18 61 = none := gU_n ew_18 (by decide) g_9
  have g_26 : w_18 62 = none := gU_n ew_18 (by decide) g_10
  have g_27 : w_18 63 = none := gU_n ew_18 (by decide) g_11
  have g_28 : w_18 70 = none := gU_n ew_18 (by decide) g_12
  have g_29 : w_18 71 = none := gU_n ew_18 (by decide) g_13
  have g_30 : w_18 72 = none := gU_n ew_18 (by decide) g_14
  have g_31 : w_18 73 = none := gU_n ew_18 (by decide) g_15
  have h_32 : w_18 1 = some (q_1, .inl (tc 0, 4, .inl (fun _ => 0))) := gU_n ew_18 (by decide) h_17
  have h_33 : w_18 0 = some (h0, .inr (5, [.ref q_1, .int 0, .null, .int 0, .null, .int 0, .int 0, .null, .int 0, .null, .int 0])) := gU_s ew_18
  refine lv_aload_n hx hb dX5_init_11 rfl (lv_at hl 0 rfl) ?_
  refine lv_iconst (v := 0) hx hb dX5_init_12 (by decide) ?_
  refine g_put hE hG h_33 rfl inG5 tyX5 tyX5_ok nmX5 1 (by decide) mw1_102 rfl rfl rfl (Nat.le_of_ble_eq_true rfl) dX5_init_13 (fun H locs w_34 ew_34 hG => ?_)
  have g_35 : w_34 2 = none := gU_n ew_34 (by decide) g_19
  have g_36 : w_34 3 = none := gU_n ew_34 (by decide) g_20
  have g_37 : w_34 4 = none := gU_n ew_34 (by decide) g_21
  have g_38 : w_34 5 = none := gU_n ew_34 (by decide) g_22
  have g_39 : w_34 6 = none := gU_n ew_34 (by decide) g_23
  have g_40 : w_34 60 = none := gU_n ew_34 (by decide) g_24
  have g_41 : w_34 61 = none := gU_n ew_34 (by decide) g_25
  have g_42 : w_34 62 = none := gU_n ew_34 (by decide) g_26
  have g_43 : w_34 63 = none := gU_n ew_34 (by decide) g_27
  have g_44 : w_34 70 = none := gU_n ew_34 (by decide) g_28
  have g_45 : w_34 71 = none := gU_n ew_34 (by decide) g_29
  have g_46 : w_34 72 = none := gU_n ew_34 (by decide) g_30
  have g_47 : w_34 73 = none := gU_n ew_34 (by decide) g_31
  have h_48 : w_34 1 = some (q_1, .inl (tc 0, 4, .inl (fun _ => 0))) := gU_n ew_34 (by decide) h_32
  have h_49 : w_34 0 = some (h0, .inr (5, [.ref q_1, .int 0, .null, .int 0, .null, .int 0, .int 0, .null, .int 0, .null, .int 0])) := gU_s ew_34
  refine lv_aload_n hx hb dX5_init_16 rfl (lv_at hl 0 rfl) ?_
  refine lv_bipush (v := 6) hx hb dX5_init_17 (by decide) ?_
  refine g_newq (t0 := 3) (N' := 6) hE hG mw1_32 (List.mem_of_getElem? (i := 0) rfl) rfl (by decide) (by decide) (by decide) (Nat.le_of_ble_eq_true rfl) (Nat.le_of_ble_eq_true rfl) 2 g_35 dX5_init_19 (fun q_50 H w_51 ew_51 hG => ?_)
  have g_52 : w_51 3 = none := gU_n ew_51 (by decide) g_36
  have g_53 : w_51 4 = none := gU_n ew_51 (by decide) g_37
  have g_54 : w_51 5 = none := gU_n ew_51 (by decide) g_38
  have g_55 : w_51 6 = none := gU_n ew_51 (by decide) g_39
  have g_56 : w_51 60 = none := gU_n ew_51 (by decide) g_40
  have g_57 : w_51 61 = none := gU_n ew_51 (by decide) g_41
  have g_58 : w_51 62 = none := gU_n ew_51 (by decide) g_42
  have g_59 : w_51 63 = none := gU_n ew_51 (by decide) g_43
  have g_60 : w_51 70 = none := gU_n ew_51 (by decide) g_44
  have g_61 : w_51 71 = none := gU_n ew_51 (by decide) g_45
  have g_62 : w_51 72 = none := gU_n ew_51 (by decide) g_46
  have g_63 : w_51 73 = none := gU_n ew_51 (by decide) g_47
  have h_64 : w_51 1 = some (q_1, .inl (tc 0, 4, .inl (fun _ => 0))) := gU_n ew_51 (by decide) h_48
  have h_65 : w_51 0 = some (h0, .inr (5, [.ref q_1, .int 0, .null, .int 0, .null, .int 0, .int 0, .null, .int 0, .null, .int 0])) := gU_n ew_51 (by decide) h_49
  have h_66 : w_51 2 = some (q_50, .inl (tc 3, 6, .inr (.inr (.inr (.inr (fun _ => none)))))) := gU_s ew_51
  refine g_putF hE hG h_65 rfl inG5 tyX5 tyX5_ok nmX5 2 (by decide) mw1_103 rfl ((hnm _).mpr rfl) rfl rfl rfl (Nat.le_of_ble_eq_true rfl) dX5_init_22 (fun H locs w_67 ew_67 hG => ?_)
  have g_68 : w_67 3 = none := gU_n ew_67 (by decide) g_52
  have g_69 : w_67 4 = none := gU_n ew_67 (by decide) g_53
  have g_70 : w_67 5 = none := gU_n ew_67 (by decide) g_54
  have g_71 : w_67 6 = none := gU_n ew_67 (by decide) g_55
  have g_72 : w_67 60 = none := gU_n ew_67 (by decide) g_56
  have g_73 : w_67 61 = none := gU_n ew_67 (by decide) g_57
  have g_74 : w_67 62 = none := gU_n ew_67 (by decide) g_58
  have g_75 : w_67 63 = none := gU_n ew_67 (by decide) g_59
  have g_76 : w_67 70 = none := gU_n ew_67 (by decide) g_60
  have g_77 : w_67 71 = none := gU_n ew_67 (by decide) g_61
  have g_78 : w_67 72 = none := gU_n ew_67 (by decide) g_62
  have g_79 : w_67 73 = none := gU_n ew_67 (by decide) g_63
  have h_80 : w_67 1 = some (q_1, .inl (tc 0, 4, .inl (fun _ => 0))) := gU_n ew_67 (by decide) h_64
  have h_81 : w_67 2 = some (q_50, .inl (tc 3, 6, .inr (.inr (.inr (.inr (fun _ => none)))))) := gU_n ew_67 (by decide) h_66
  have h_82 : w_67 0 = some (h0, .inr (5, [.ref q_1, .int 0, .ref q_50, .int 0, .null, .int 0, .int 0, .null, .int 0, .null, .int 0])) := gU_s ew_67
  refine lv_aload_n hx hb dX5_init_25 rfl (lv_at hl 0 rfl) ?_
  refine lv_iconst (v := 0) hx hb dX5_init_26 (by decide) ?_
  refine g_put hE hG h_82 rfl inG5 tyX5 tyX5_ok nmX5 3 (by decide) mw1_104 rfl rfl rfl (Nat.le_of_ble_eq_true rfl) dX5_init_27 (fun H locs w_83 ew_83 hG => ?_)
  have g_84 : w_83 3 = none := gU_n ew_83 (by decide) g_68
  have g_85 : w_83 4 = none := gU_n ew_83 (by decide) g_69
  have g_86 : w_83 5 = none := gU_n ew_83 (by decide) g_70
  have g_87 : w_83 6 = none := gU_n ew_83 (by decide) g_71
  have g_88 : w_83 60 = none := gU_n ew_83 (by decide) g_72
  have g_89 : w_83 61 = none := gU_n ew_83 (by decide) g_73
  have g_90 : w_83 62 = none := gU_n ew_83 (by decide) g_74
  have g_91 : w_83 63 = none := gU_n ew_83 (by decide) g_75
  have g_92 : w_83 70 = none := gU_n ew_83 (by decide) g_76
  have g_93 : w_83 71 = none := gU_n ew_83 (by decide) g_77
  have g_94 : w_83 72 = none := gU_n ew_83 (by decide) g_78
  have g_95 : w_83 73 = none := gU_n ew_83 (by decide) g_79
  have h_96 : w_83 1 = some (q_1, .inl (tc 0, 4, .inl (fun _ => 0))) := gU_n ew_83 (by decide) h_80
  have h_97 : w_83 2 = some (q_50, .inl (tc 3, 6, .inr (.inr (.inr (.inr (fun _ => none)))))) := gU_n ew_83 (by decide) h_81
  have h_98 : w_83 0 = some (h0, .inr (5, [.ref q_1, .int 0, .ref q_50, .int 0, .null, .int 0, .int 0, .null, .int 0, .null, .int 0])) := gU_s ew_83
  refine lv_aload_n hx hb dX5_init_30 rfl (lv_at hl 0 rfl) ?_
  refine g_new (ci := 4) (fs := [.int 0, .int 0, .int 0, .int 0, .int 0, .int 0, .int 0, .int 0, .int 0, .long 0, .null]) hE hG rfl inG4 tyX4 tyX4_ok mw1_34 mw1_35 mw1_2 (by intro j hj; match j, hj with | 0, _ => rfl | 1, _ => rfl | 2, _ => rfl | 3, _ => rfl | 4, _ => rfl | 5, _ => rfl | 6, _ => rfl | 7, _ => rfl | 8, _ => rfl | 9, _ => rfl | 10, _ => rfl) (Nat.le_of_ble_eq_true rfl) (Nat.le_of_ble_eq_true rfl) 3 g_84 dX5_init_31 (fun q_99 H w_100 ew_100 hG => ?_)
  have g_101 : w_100 4 = none := gU_n ew_100 (by decide) g_85
  have g_102 : w_100 5 = none := gU_n ew_100 (by decide) g_86
  have g_103 : w_100 6 = none := gU_n ew_100 (by decide) g_87
  have g_104 : w_100 60 = none := gU_n ew_100 (by decide) g_88
  have g_105 : w_100 61 = none := gU_n ew_100 (by decide) g_89
  have g_106 : w_100 62 = none := gU_n ew_100 (by decide) g_90
  have g_107 : w_100 63 = none := gU_n ew_100 (by decide) g_91
  have g_108 : w_100 70 = none := gU_n ew_100 (by decide) g_92
  have g_109 : w_100 71 = none := gU_n ew_100 (by decide) g_93
  have g_110 : w_100 72 = none := gU_n ew_100 (by decide) g_94
  have g_111 : w_100 73 = none := gU_n ew_100 (by decide) g_95
  have h_112 : w_100 1 = some (q_1, .inl (tc 0, 4, .inl (fun _ => 0))) := gU_n ew_100 (by decide) h_96
  have h_113 : w_100 2 = some (q_50, .inl (tc 3, 6, .inr (.inr (.inr (.inr (fun _ => none)))))) := gU_n ew_100 (by decide) h_97
  have h_114 : w_100 0 = some (h0, .inr (5, [.ref q_1, .int 0, .ref q_50, .int 0, .null, .int 0, .int 0, .null, .int 0, .null, .int 0])) := gU_n ew_100 (by decide) h_98
  have h_115 : w_100 3 = some (q_99, .inr (4, [.int 0, .int 0, .int 0, .int 0, .int 0, .int 0, .int 0, .int 0, .int 0, .long 0, .null])) := gU_s ew_100
  refine lv_dup hx hb dX5_init_34 rfl ?_
  refine g_callIN (rest := [.ref q_99, .ref h0]) (As := []) hE hG hl.1 (c_X4_init l hfl D tc A w_100 3 4 q_99 h_115 g_101) (List.mem_of_getElem? (i := 0) rfl) mw1_37 mw1_2 mw1_38 rfl nm_X4_init ⟨⟨Nat.le_of_ble_eq_true rfl, Nat.le_of_ble_eq_true rfl⟩, Nat.le_of_ble_eq_true rfl, Nat.le_of_ble_eq_true rfl⟩ rfl rfl (Nat.le_of_ble_eq_true rfl) dX5_init_35 ?_
  intro v9 w_116 H locs h9 hG
  obtain ⟨e9, q_117, ew_116⟩ := h9
  rw [e9]; clear e9
  show W p l e _ s m args below meth c H locs _ _ _ (F0 m 38 ls [.ref q_99, .ref h0])
  have h_118 : w_116 1 = some (q_1, .inl (tc 0, 4, .inl (fun _ => 0))) := by rw [ew_116, gU_ne _ _ (by decide), gU_ne _ _ (gU_f g_101 h_112)]; exact h_112
  have h_119 : w_116 2 = some (q_50, .inl (tc 3, 6, .inr (.inr (.inr (.inr (fun _ => none)))))) := by rw [ew_116, gU_ne _ _ (by decide), gU_ne _ _ (gU_f g_101 h_113)]; exact h_113
  have h_120 : w_116 0 = some (h0, .inr (5, [.ref q_1, .int 0, .ref q_50, .int 0, .null, .int 0, .int 0, .null, .int 0, .null, .int 0])) := by rw [ew_116, gU_ne _ _ (by decide), gU_ne _ _ (gU_f g_101 h_114)]; exact h_114
  have h_121 : w_116 4 = some (q_117, .inl (tc 1, 4, .inr (.inl (fun _ => 0)))) := by rw [ew_116, gU_ne _ _ (by decide), gU_same]
  have h_122 : w_116 3 = some (q_99, .inr (4, [.int (-1), .int 0, .int 0, .int 0, .int 0, .int 0, .int 0, .int 0, .int 0, .long 0, .ref q_117])) := by rw [ew_116, gU_same]
  have g_123 : w_116 5 = none := by rw [ew_116, gU_ne _ _ (by decide), gU_ne _ _ (by decide)]; exact g_102
  have g_124 : w_116 6 = none := by rw [ew_116, gU_ne _ _ (by decide), gU_ne _ _ (by decide)]; exact g_103
  have g_125 : w_116 60 = none := by rw [ew_116, gU_ne _ _ (by decide), gU_ne _ _ (by decide)]; exact g_104
  have g_126 : w_116 61 = none := by rw [ew_116, gU_ne _ _ (by decide), gU_ne _ _ (by decide)]; exact g_105
  have g_127 : w_116 62 = none := by rw [ew_116, gU_ne _ _ (by decide), gU_ne _ _ (by decide)]; exact g_106
  have g_128 : w_116 63 = none := by rw [ew_116, gU_ne _ _ (by decide), gU_ne _ _ (by decide)]; exact g_107
  have g_129 : w_116 70 = none := by rw [ew_116, gU_ne _ _ (by decide), gU_ne _ _ (by decide)]; exact g_108
  have g_130 : w_116 71 = none := by rw [ew_116, gU_ne _ _ (by decide), gU_ne _ _ (by decide)]; exact g_109
  have g_131 : w_116 72 = none := by rw [ew_116, gU_ne _ _ (by decide), gU_ne _ _ (by decide)]; exact g_110
  have g_132 : w_116 73 = none := by rw [ew_116, gU_ne _ _ (by decide), gU_ne _ _ (by decide)]; exact g_111
  refine g_putF hE hG h_120 rfl inG5 tyX5 tyX5_ok nmX5 4 (by decide) mw1_105 rfl ((hnm _).mpr rfl) rfl rfl rfl (Nat.le_of_ble_eq_true rfl) dX5_init_38 (fun H locs w_133 ew_133 hG => ?_)
  have g_134 : w_133 5 = none := gU_n ew_133 (by decide) g_123
  have g_135 : w_133 6 = none := gU_n ew_133 (by decide) g_124
  have g_136 : w_133 60 = none := gU_n ew_133 (by decide) g_125
  have g_137 : w_133 61 = none := gU_n ew_133 (by decide) g_126
  have g_138 : w_133 62 = none := gU_n ew_133 (by decide) g_127
  have g_139 : w_133 63 = none := gU_n ew_133 (by decide) g_128
  have g_140 : w_133 70 = none := gU_n ew_133 (by decide) g_129
  have g_141 : w_133 71 = none := gU_n ew_133 (by decide) g_130
  have g_142 : w_133 72 = none := gU_n ew_133 (by decide) g_131
  have g_143 : w_133 73 = none := gU_n ew_133 (by decide) g_132
  have h_144 : w_133 1 = some (q_1, .inl (tc 0, 4, .inl (fun _ => 0))) := gU_n ew_133 (by decide) h_118
  have h_145 : w_133 2 = some (q_50, .inl (tc 3, 6, .inr (.inr (.inr (.inr (fun _ => none)))))) := gU_n ew_133 (by decide) h_119
  have h_146 : w_133 4 = some (q_117, .inl (tc 1, 4, .inr (.inl (fun _ => 0)))) := gU_n ew_133 (by decide) h_121
  have h_147 : w_133 3 = some (q_99, .inr (4, [.int (-1), .int 0, .int 0, .int 0, .int 0, .int 0, .int 0, .int 0, .int 0, .long 0, .ref q_117])) := gU_n ew_133 (by decide) h_122
  have h_148 : w_133 0 = some (h0, .inr (5, [.ref q_1, .int 0, .ref q_50, .int 0, .ref q_99, .int 0, .int 0, .null, .int 0, .null, .int 0])) := gU_s ew_133
  refine lv_aload_n hx hb dX5_init_41 rfl (lv_at hl 0 rfl) ?_
  refine lv_iconst (v := 0) hx hb dX5_init_42 (by decide) ?_
  refine g_put hE hG h_148 rfl inG5 tyX5 tyX5_ok nmX5 5 (by decide) mw1_106 rfl rfl rfl (Nat.le_of_ble_eq_true rfl) dX5_init_43 (fun H locs w_149 ew_149 hG => ?_)
  have g_150 : w_149 5 = none := gU_n ew_149 (by decide) g_134
  have g_151 : w_149 6 = none := gU_n ew_149 (by decide) g_135
  have g_152 : w_149 60 = none := gU_n ew_149 (by decide) g_136
  have g_153 : w_149 61 = none := gU_n ew_149 (by decide) g_137
  have g_154 : w_149 62 = none := gU_n ew_149 (by decide) g_138
  have g_155 : w_149 63 = none := gU_n ew_149 (by decide) g_139
  have g_156 : w_149 70 = none := gU_n ew_149 (by decide) g_140
  have g_157 : w_149 71 = none := gU_n ew_149 (by decide) g_141
  have g_158 : w_149 72 = none := gU_n ew_149 (by decide) g_142
  have g_159 : w_149 73 = none := gU_n ew_149 (by decide) g_143
  have h_160 : w_149 1 = some (q_1, .inl (tc 0, 4, .inl (fun _ => 0))) := gU_n ew_149 (by decide) h_144
  have h_161 : w_149 2 = some (q_50, .inl (tc 3, 6, .inr (.inr (.inr (.inr (fun _ => none)))))) := gU_n ew_149 (by decide) h_145
  have h_162 : w_149 4 = some (q_117, .inl (tc 1, 4, .inr (.inl (fun _ => 0)))) := gU_n ew_149 (by decide) h_146
  have h_163 : w_149 3 = some (q_99, .inr (4, [.int (-1), .int 0, .int 0, .int 0, .int 0, .int 0, .int 0, .int 0, .int 0, .long 0, .ref q_117])) := gU_n ew_149 (by decide) h_147
  have h_164 : w_149 0 = some (h0, .inr (5, [.ref q_1, .int 0, .ref q_50, .int 0, .ref q_99, .int 0, .int 0, .null, .int 0, .null, .int 0])) := gU_s ew_149
  refine lv_aload_n hx hb dX5_init_46 rfl (lv_at hl 0 rfl) ?_
  refine lv_iconst (v := 0) hx hb dX5_init_47 (by decide) ?_
  refine g_put hE hG h_164 rfl inG5 tyX5 tyX5_ok nmX5 6 (by decide) mw1_107 rfl rfl rfl (Nat.le_of_ble_eq_true rfl) dX5_init_48 (fun H locs w_165 ew_165 hG => ?_)
  have g_166 : w_165 5 = none := gU_n ew_165 (by decide) g_150
  have g_167 : w_165 6 = none := gU_n ew_165 (by decide) g_151
  have g_168 : w_165 60 = none := gU_n ew_165 (by decide) g_152
  have g_169 : w_165 61 = none := gU_n ew_165 (by decide) g_153
  have g_170 : w_165 62 = none := gU_n ew_165 (by decide) g_154
  have g_171 : w_165 63 = none := gU_n ew_165 (by decide) g_155
  have g_172 : w_165 70 = none := gU_n ew_165 (by decide) g_156
  have g_173 : w_165 71 = none := gU_n ew_165 (by decide) g_157
  have g_174 : w_165 72 = none := gU_n ew_165 (by decide) g_158
  have g_175 : w_165 73 = none := gU_n ew_165 (by decide) g_159
  have h_176 : w_165 1 = some (q_1, .inl (tc 0, 4, .inl (fun _ => 0))) := gU_n ew_165 (by decide) h_160
  have h_177 : w_165 2 = some (q_50, .inl (tc 3, 6, .inr (.inr (.inr (.inr (fun _ => none)))))) := gU_n ew_165 (by decide) h_161
  have h_178 : w_165 4 = some (q_117, .inl (tc 1, 4, .inr (.inl (fun _ => 0)))) := gU_n ew_165 (by decide) h_162
  have h_179 : w_165 3 = some (q_99, .inr (4, [.int (-1), .int 0, .int 0, .int 0, .int 0, .int 0, .int 0, .int 0, .int 0, .long 0, .ref q_117])) := gU_n ew_165 (by decide) h_163
  have h_180 : w_165 0 = some (h0, .inr (5, [.ref q_1, .int 0, .ref q_50, .int 0, .ref q_99, .int 0, .int 0, .null, .int 0, .null, .int 0])) := gU_s ew_165
  refine lv_aload_n hx hb dX5_init_51 rfl (lv_at hl 0 rfl) ?_
  refine lv_iconst (v := 4) hx hb dX5_init_52 (by decide) ?_
  refine g_newq (t0 := 4) (N' := 4) hE hG mw1_83 (List.mem_of_getElem? (i := 1) rfl) rfl (by decide) (by decide) (by decide) (Nat.le_of_ble_eq_true rfl) (Nat.le_of_ble_eq_true rfl) 5 g_166 dX5_init_53 (fun q_181 H w_182 ew_182 hG => ?_)
  have g_183 : w_182 6 = none := gU_n ew_182 (by decide) g_167
  have g_184 : w_182 60 = none := gU_n ew_182 (by decide) g_168
  have g_185 : w_182 61 = none := gU_n ew_182 (by decide) g_169
  have g_186 : w_182 62 = none := gU_n ew_182 (by decide) g_170
  have g_187 : w_182 63 = none := gU_n ew_182 (by decide) g_171
  have g_188 : w_182 70 = none := gU_n ew_182 (by decide) g_172
  have g_189 : w_182 71 = none := gU_n ew_182 (by decide) g_173
  have g_190 : w_182 72 = none := gU_n ew_182 (by decide) g_174
  have g_191 : w_182 73 = none := gU_n ew_182 (by decide) g_175
  have h_192 : w_182 1 = some (q_1, .inl (tc 0, 4, .inl (fun _ => 0))) := gU_n ew_182 (by decide) h_176
  have h_193 : w_182 2 = some (q_50, .inl (tc 3, 6, .inr (.inr (.inr (.inr (fun _ => none)))))) := gU_n ew_182 (by decide) h_177
  have h_194 : w_182 4 = some (q_117, .inl (tc 1, 4, .inr (.inl (fun _ => 0)))) := gU_n ew_182 (by decide) h_178
  have h_195 : w_182 3 = some (q_99, .inr (4, [.int (-1), .int 0, .int 0, .int 0, .int 0, .int 0, .int 0, .int 0, .int 0, .long 0, .ref q_117])) := gU_n ew_182 (by decide) h_179
  have h_196 : w_182 0 = some (h0, .inr (5, [.ref q_1, .int 0, .ref q_50, .int 0, .ref q_99, .int 0, .int 0, .null, .int 0, .null, .int 0])) := gU_n ew_182 (by decide) h_180
  have h_197 : w_182 5 = some (q_181, .inl (tc 4, 4, .inr (.inr (.inr (.inr (fun _ => none)))))) := gU_s ew_182
  refine g_putF hE hG h_196 rfl inG5 tyX5 tyX5_ok nmX5 7 (by decide) mw1_108 rfl ((hnm _).mpr rfl) rfl rfl rfl (Nat.le_of_ble_eq_true rfl) dX5_init_56 (fun H locs w_198 ew_198 hG => ?_)
  have g_199 : w_198 6 = none := gU_n ew_198 (by decide) g_183
  have g_200 : w_198 60 = none := gU_n ew_198 (by decide) g_184
  have g_201 : w_198 61 = none := gU_n ew_198 (by decide) g_185
  have g_202 : w_198 62 = none := gU_n ew_198 (by decide) g_186
  have g_203 : w_198 63 = none := gU_n ew_198 (by decide) g_187
  have g_204 : w_198 70 = none := gU_n ew_198 (by decide) g_188
  have g_205 : w_198 71 = none := gU_n ew_198 (by decide) g_189
  have g_206 : w_198 72 = none := gU_n ew_198 (by decide) g_190
  have g_207 : w_198 73 = none := gU_n ew_198 (by decide) g_191
  have h_208 : w_198 1 = some (q_1, .inl (tc 0, 4, .inl (fun _ => 0))) := gU_n ew_198 (by decide) h_192
  have h_209 : w_198 2 = some (q_50, .inl (tc 3, 6, .inr (.inr (.inr (.inr (fun _ => none)))))) := gU_n ew_198 (by decide) h_193
  have h_210 : w_198 4 = some (q_117, .inl (tc 1, 4, .inr (.inl (fun _ => 0)))) := gU_n ew_198 (by decide) h_194
  have h_211 : w_198 3 = some (q_99, .inr (4, [.int (-1), .int 0, .int 0, .int 0, .int 0, .int 0, .int 0, .int 0, .int 0, .long 0, .ref q_117])) := gU_n ew_198 (by decide) h_195
  have h_212 : w_198 5 = some (q_181, .inl (tc 4, 4, .inr (.inr (.inr (.inr (fun _ => none)))))) := gU_n ew_198 (by decide) h_197
  have h_213 : w_198 0 = some (h0, .inr (5, [.ref q_1, .int 0, .ref q_50, .int 0, .ref q_99, .int 0, .int 0, .ref q_181, .int 0, .null, .int 0])) := gU_s ew_198
  refine lv_aload_n hx hb dX5_init_59 rfl (lv_at hl 0 rfl) ?_
  refine lv_iconst (v := 0) hx hb dX5_init_60 (by decide) ?_
  refine g_put hE hG h_213 rfl inG5 tyX5 tyX5_ok nmX5 8 (by decide) mw1_109 rfl rfl rfl (Nat.le_of_ble_eq_true rfl) dX5_init_61 (fun H locs w_214 ew_214 hG => ?_)
  have g_215 : w_214 6 = none := gU_n ew_214 (by decide) g_199
  have g_216 : w_214 60 = none := gU_n ew_214 (by decide) g_200
  have g_217 : w_214 61 = none := gU_n ew_214 (by decide) g_201
  have g_218 : w_214 62 = none := gU_n ew_214 (by decide) g_202
  have g_219 : w_214 63 = none := gU_n ew_214 (by decide) g_203
  have g_220 : w_214 70 = none := gU_n ew_214 (by decide) g_204
  have g_221 : w_214 71 = none := gU_n ew_214 (by decide) g_205
  have g_222 : w_214 72 = none := gU_n ew_214 (by decide) g_206
  have g_223 : w_214 73 = none := gU_n ew_214 (by decide) g_207
  have h_224 : w_214 1 = some (q_1, .inl (tc 0, 4, .inl (fun _ => 0))) := gU_n ew_214 (by decide) h_208
  have h_225 : w_214 2 = some (q_50, .inl (tc 3, 6, .inr (.inr (.inr (.inr (fun _ => none)))))) := gU_n ew_214 (by decide) h_209
  have h_226 : w_214 4 = some (q_117, .inl (tc 1, 4, .inr (.inl (fun _ => 0)))) := gU_n ew_214 (by decide) h_210
  have h_227 : w_214 3 = some (q_99, .inr (4, [.int (-1), .int 0, .int 0, .int 0, .int 0, .int 0, .int 0, .int 0, .int 0, .long 0, .ref q_117])) := gU_n ew_214 (by decide) h_211
  have h_228 : w_214 5 = some (q_181, .inl (tc 4, 4, .inr (.inr (.inr (.inr (fun _ => none)))))) := gU_n ew_214 (by decide) h_212
  have h_229 : w_214 0 = some (h0, .inr (5, [.ref q_1, .int 0, .ref q_50, .int 0, .ref q_99, .int 0, .int 0, .ref q_181, .int 0, .null, .int 0])) := gU_s ew_214
  refine lv_aload_n hx hb dX5_init_64 rfl (lv_at hl 0 rfl) ?_
  refine lv_bipush (v := 8) hx hb dX5_init_65 (by decide) ?_
  refine g_newq (t0 := 5) (N' := 8) hE hG mw1_85 (List.mem_of_getElem? (i := 2) rfl) rfl (by decide) (by decide) (by decide) (Nat.le_of_ble_eq_true rfl) (Nat.le_of_ble_eq_true rfl) 6 g_215 dX5_init_67 (fun q_230 H w_231 ew_231 hG => ?_)
  have g_232 : w_231 60 = none := gU_n ew_231 (by decide) g_216
  have g_233 : w_231 61 = none := gU_n ew_231 (by decide) g_217
  have g_234 : w_231 62 = none := gU_n ew_231 (by decide) g_218
  have g_235 : w_231 63 = none := gU_n ew_231 (by decide) g_219
  have g_236 : w_231 70 = none := gU_n ew_231 (by decide) g_220
  have g_237 : w_231 71 = none := gU_n ew_231 (by decide) g_221
  have g_238 : w_231 72 = none := gU_n ew_231 (by decide) g_222
  have g_239 : w_231 73 = none := gU_n ew_231 (by decide) g_223
  have h_240 : w_231 1 = some (q_1, .inl (tc 0, 4, .inl (fun _ => 0))) := gU_n ew_231 (by decide) h_224
  have h_241 : w_231 2 = some (q_50, .inl (tc 3, 6, .inr (.inr (.inr (.inr (fun _ => none)))))) := gU_n ew_231 (by decide) h_225
  have h_242 : w_231 4 = some (q_117, .inl (tc 1, 4, .inr (.inl (fun _ => 0)))) := gU_n ew_231 (by decide) h_226
  have h_243 : w_231 3 = some (q_99, .inr (4, [.int (-1), .int 0, .int 0, .int 0, .int 0, .int 0, .int 0, .int 0, .int 0, .long 0, .ref q_117])) := gU_n ew_231 (by decide) h_227
  have h_244 : w_231 5 = some (q_181, .inl (tc 4, 4, .inr (.inr (.inr (.inr (fun _ => none)))))) := gU_n ew_231 (by decide) h_228
  have h_245 : w_231 0 = some (h0, .inr (5, [.ref q_1, .int 0, .ref q_50, .int 0, .ref q_99, .int 0, .int 0, .ref q_181, .int 0, .null, .int 0])) := gU_n ew_231 (by decide) h_229
  have h_246 : w_231 6 = some (q_230, .inl (tc 5, 8, .inr (.inr (.inr (.inr (fun _ => none)))))) := gU_s ew_231
  refine g_putF hE hG h_245 rfl inG5 tyX5 tyX5_ok nmX5 9 (by decide) mw1_110 rfl ((hnm _).mpr rfl) rfl rfl rfl (Nat.le_of_ble_eq_true rfl) dX5_init_70 (fun H locs w_247 ew_247 hG => ?_)
  have g_248 : w_247 60 = none := gU_n ew_247 (by decide) g_232
  have g_249 : w_247 61 = none := gU_n ew_247 (by decide) g_233
  have g_250 : w_247 62 = none := gU_n ew_247 (by decide) g_234
  have g_251 : w_247 63 = none := gU_n ew_247 (by decide) g_235
  have g_252 : w_247 70 = none := gU_n ew_247 (by decide) g_236
  have g_253 : w_247 71 = none := gU_n ew_247 (by decide) g_237
  have g_254 : w_247 72 = none := gU_n ew_247 (by decide) g_238
  have g_255 : w_247 73 = none := gU_n ew_247 (by decide) g_239
  have h_256 : w_247 1 = some (q_1, .inl (tc 0, 4, .inl (fun _ => 0))) := gU_n ew_247 (by decide) h_240
  have h_257 : w_247 2 = some (q_50, .inl (tc 3, 6, .inr (.inr (.inr (.inr (fun _ => none)))))) := gU_n ew_247 (by decide) h_241
  have h_258 : w_247 4 = some (q_117, .inl (tc 1, 4, .inr (.inl (fun _ => 0)))) := gU_n ew_247 (by decide) h_242
  have h_259 : w_247 3 = some (q_99, .inr (4, [.int (-1), .int 0, .int 0, .int 0, .int 0, .int 0, .int 0, .int 0, .int 0, .long 0, .ref q_117])) := gU_n ew_247 (by decide) h_243
  have h_260 : w_247 5 = some (q_181, .inl (tc 4, 4, .inr (.inr (.inr (.inr (fun _ => none)))))) := gU_n ew_247 (by decide) h_244
  have h_261 : w_247 6 = some (q_230, .inl (tc 5, 8, .inr (.inr (.inr (.inr (fun _ => none)))))) := gU_n ew_247 (by decide) h_246
  have h_262 : w_247 0 = some (h0, .inr (5, [.ref q_1, .int 0, .ref q_50, .int 0, .ref q_99, .int 0, .int 0, .ref q_181, .int 0, .ref q_230, .int 0])) := gU_s ew_247
  refine lv_aload_n hx hb dX5_init_73 rfl (lv_at hl 0 rfl) ?_
  refine lv_iconst (v := 0) hx hb dX5_init_74 (by decide) ?_
  refine g_put hE hG h_262 rfl inG5 tyX5 tyX5_ok nmX5 10 (by decide) mw1_111 rfl rfl rfl (Nat.le_of_ble_eq_true rfl) dX5_init_75 (fun H locs w_263 ew_263 hG => ?_)
  have g_264 : w_263 60 = none := gU_n ew_263 (by decide) g_248
  have g_265 : w_263 61 = none := gU_n ew_263 (by decide) g_249
  have g_266 : w_263 62 = none := gU_n ew_263 (by decide) g_250
  have g_267 : w_263 63 = none := gU_n ew_263 (by decide) g_251
  have g_268 : w_263 70 = none := gU_n ew_263 (by decide) g_252
  have g_269 : w_263 71 = none := gU_n ew_263 (by decide) g_253
  have g_270 : w_263 72 = none := gU_n ew_263 (by decide) g_254
  have g_271 : w_263 73 = none := gU_n ew_263 (by decide) g_255
  have h_272 : w_263 1 = some (q_1, .inl (tc 0, 4, .inl (fun _ => 0))) := gU_n ew_263 (by decide) h_256
  have h_273 : w_263 2 = some (q_50, .inl (tc 3, 6, .inr (.inr (.inr (.inr (fun _ => none)))))) := gU_n ew_263 (by decide) h_257
  have h_274 : w_263 4 = some (q_117, .inl (tc 1, 4, .inr (.inl (fun _ => 0)))) := gU_n ew_263 (by decide) h_258
  have h_275 : w_263 3 = some (q_99, .inr (4, [.int (-1), .int 0, .int 0, .int 0, .int 0, .int 0, .int 0, .int 0, .int 0, .long 0, .ref q_117])) := gU_n ew_263 (by decide) h_259
  have h_276 : w_263 5 = some (q_181, .inl (tc 4, 4, .inr (.inr (.inr (.inr (fun _ => none)))))) := gU_n ew_263 (by decide) h_260
  have h_277 : w_263 6 = some (q_230, .inl (tc 5, 8, .inr (.inr (.inr (.inr (fun _ => none)))))) := gU_n ew_263 (by decide) h_261
  have h_278 : w_263 0 = some (h0, .inr (5, [.ref q_1, .int 0, .ref q_50, .int 0, .ref q_99, .int 0, .int 0, .ref q_181, .int 0, .ref q_230, .int 0])) := gU_s ew_263
  refine lv_iconst (v := 0) hx hb dX5_init_78 (by decide) ?_
  refine lv_istore_n (lv' := [(1, .int 0), (0, .ref h0)]) hx hb dX5_init_79 rfl hl (by decide) rfl (fun ls hl => ?_)
  refine lv_iload_n hx hb dX5_init_80 rfl (lv_at hl 0 rfl) ?_
  refine lv_aload_n hx hb dX5_init_81 rfl (lv_at hl 1 rfl) ?_
  refine g_get hE hG h_278 rfl inG5 7 (by decide) mw1_108 rfl dX5_init_82 ?_
  refine g_alen (t0 := 4) (v := 4) hE hG h_276 rfl rfl dX5_init_85 ?_
  refine lv_icmp_ge (tgt := 108) hx hb dX5_init_86 (by decide) (fun c9 => absurd c9 (by decide)) (fun _ => ?_)
  refine lv_aload_n hx hb dX5_init_89 rfl (lv_at hl 1 rfl) ?_
  refine g_get hE hG h_278 rfl inG5 7 (by decide) mw1_108 rfl dX5_init_90 ?_
  refine lv_iload_n hx hb dX5_init_93 rfl (lv_at hl 0 rfl) ?_
  refine g_new (ci := 0) (fs := [.null, .int 0]) hE hG rfl inG0 tyX0 tyX0_ok mw1_83 mw1_87 mw1_3 (by intro j hj; match j, hj with | 0, _ => rfl | 1, _ => rfl) (Nat.le_of_ble_eq_true rfl) (Nat.le_of_ble_eq_true rfl) 60 g_264 dX5_init_94 (fun q_279 H w_280 ew_280 hG => ?_)
  have g_281 : w_280 61 = none := gU_n ew_280 (by decide) g_265
  have g_282 : w_280 62 = none := gU_n ew_280 (by decide) g_266
  have g_283 : w_280 63 = none := gU_n ew_280 (by decide) g_267
  have g_284 : w_280 70 = none := gU_n ew_280 (by decide) g_268
  have g_285 : w_280 71 = none := gU_n ew_280 (by decide) g_269
  have g_286 : w_280 72 = none := gU_n ew_280 (by decide) g_270
  have g_287 : w_280 73 = none := gU_n ew_280 (by decide) g_271
  have h_288 : w_280 1 = some (q_1, .inl (tc 0, 4, .inl (fun _ => 0))) := gU_n ew_280 (by decide) h_272
  have h_289 : w_280 2 = some (q_50, .inl (tc 3, 6, .inr (.inr (.inr (.inr (fun _ => none)))))) := gU_n ew_280 (by decide) h_273
  have h_290 : w_280 4 = some (q_117, .inl (tc 1, 4, .inr (.inl (fun _ => 0)))) := gU_n ew_280 (by decide) h_274
  have h_291 : w_280 3 = some (q_99, .inr (4, [.int (-1), .int 0, .int 0, .int 0, .int 0, .int 0, .int 0, .int 0, .int 0, .long 0, .ref q_117])) := gU_n ew_280 (by decide) h_275
  have h_292 : w_280 5 = some (q_181, .inl (tc 4, 4, .inr (.inr (.inr (.inr (fun _ => none)))))) := gU_n ew_280 (by decide) h_276
  have h_293 : w_280 6 = some (q_230, .inl (tc 5, 8, .inr (.inr (.inr (.inr (fun _ => none)))))) := gU_n ew_280 (by decide) h_277
  have h_294 : w_280 0 = some (h0, .inr (5, [.ref q_1, .int 0, .ref q_50, .int 0, .ref q_99, .int 0, .int 0, .ref q_181, .int 0, .ref q_230, .int 0])) := gU_n ew_280 (by decide) h_278
  have h_295 : w_280 60 = some (q_279, .inr (0, [.null, .int 0])) := gU_s ew_280
  refine lv_dup hx hb dX5_init_97 rfl ?_
  refine g_callI (rest := [.ref q_279, .int 0, .ref q_181]) (As := []) hE hG hl.1 (c_X0_init l hfl D tc A w_280 60 70 q_279 h_295 g_284) mw1_88 mw1_89 mw1_3 mw1_90 rfl nm_X0_init ⟨⟨Nat.le_of_ble_eq_true rfl, Nat.le_of_ble_eq_true rfl⟩, Nat.le_of_ble_eq_true rfl, Nat.le_of_ble_eq_true rfl⟩ rfl rfl (Nat.le_of_ble_eq_true rfl) dX5_init_98 ?_
  intro v9 w_296 H locs h9 hG
  obtain ⟨e9, q_297, ew_296⟩ := h9
  rw [e9]; clear e9
  show W p l e _ s m args below meth c H locs _ _ _ (F0 m 101 ls [.ref q_279, .int 0, .ref q_181])
  have h_298 : w_296 1 = some (q_1, .inl (tc 0, 4, .inl (fun _ => 0))) := by rw [ew_296, gU_ne _ _ (by decide), gU_ne _ _ (gU_f g_284 h_288)]; exact h_288
  have h_299 : w_296 2 = some (q_50, .inl (tc 3, 6, .inr (.inr (.inr (.inr (fun _ => none)))))) := by rw [ew_296, gU_ne _ _ (by decide), gU_ne _ _ (gU_f g_284 h_289)]; exact h_289
  have h_300 : w_296 4 = some (q_117, .inl (tc 1, 4, .inr (.inl (fun _ => 0)))) := by rw [ew_296, gU_ne _ _ (by decide), gU_ne _ _ (gU_f g_284 h_290)]; exact h_290
  have h_301 : w_296 3 = some (q_99, .inr (4, [.int (-1), .int 0, .int 0, .int 0, .int 0, .int 0, .int 0, .int 0, .int 0, .long 0, .ref q_117])) := by rw [ew_296, gU_ne _ _ (by decide), gU_ne _ _ (gU_f g_284 h_291)]; exact h_291
  have h_302 : w_296 5 = some (q_181, .inl (tc 4, 4, .inr (.inr (.inr (.inr (fun _ => none)))))) := by rw [ew_296, gU_ne _ _ (by decide), gU_ne _ _ (gU_f g_284 h_292)]; exact h_292
  have h_303 : w_296 6 = some (q_230, .inl (tc 5, 8, .inr (.inr (.inr (.inr (fun _ => none)))))) := by rw [ew_296, gU_ne _ _ (by decide), gU_ne _ _ (gU_f g_284 h_293)]; exact h_293
  have h_304 : w_296 0 = some (h0, .inr (5, [.ref q_1, .int 0, .ref q_50, .int 0, .ref q_99, .int 0, .int 0, .ref q_181, .int 0, .ref q_230, .int 0])) := by rw [ew_296, gU_ne _ _ (by decide), gU_ne _ _ (gU_f g_284 h_294)]; exact h_294
  have h_305 : w_296 70 = some (q_297, .inl (tc 0, 7, .inl (f_cp 7 (fun _ => 0) (fun _ => 44000)))) := by rw [ew_296, gU_ne _ _ (by decide), gU_same]
  have h_306 : w_296 60 = some (q_279, .inr (0, [.ref q_297, .int 0])) := by rw [ew_296, gU_same]
  have g_307 : w_296 61 = none := by rw [ew_296, gU_ne _ _ (by decide), gU_ne _ _ (by decide)]; exact g_281
  have g_308 : w_296 62 = none := by rw [ew_296, gU_ne _ _ (by decide), gU_ne _ _ (by decide)]; exact g_282
  have g_309 : w_296 63 = none := by rw [ew_296, gU_ne _ _ (by decide), gU_ne _ _ (by decide)]; exact g_283
  have g_310 : w_296 71 = none := by rw [ew_296, gU_ne _ _ (by decide), gU_ne _ _ (by decide)]; exact g_285
  have g_311 : w_296 72 = none := by rw [ew_296, gU_ne _ _ (by decide), gU_ne _ _ (by decide)]; exact g_286
  have g_312 : w_296 73 = none := by rw [ew_296, gU_ne _ _ (by decide), gU_ne _ _ (by decide)]; exact g_287
  refine g_aast (t0 := 4) (ci := 0) hE hG h_302 rfl h_306 rfl (vp_in_nI (n := 0) (N := 4) (by decide) (by decide)) dX5_init_101 (fun H locs w_313 ew_313 hG => ?_)
  have g_314 : w_313 61 = none := gU_n ew_313 (by decide) g_307
  have g_315 : w_313 62 = none := gU_n ew_313 (by decide) g_308
  have g_316 : w_313 63 = none := gU_n ew_313 (by decide) g_309
  have g_317 : w_313 71 = none := gU_n ew_313 (by decide) g_310
  have g_318 : w_313 72 = none := gU_n ew_313 (by decide) g_311
  have g_319 : w_313 73 = none := gU_n ew_313 (by decide) g_312
  have h_320 : w_313 1 = some (q_1, .inl (tc 0, 4, .inl (fun _ => 0))) := gU_n ew_313 (by decide) h_298
  have h_321 : w_313 2 = some (q_50, .inl (tc 3, 6, .inr (.inr (.inr (.inr (fun _ => none)))))) := gU_n ew_313 (by decide) h_299
  have h_322 : w_313 4 = some (q_117, .inl (tc 1, 4, .inr (.inl (fun _ => 0)))) := gU_n ew_313 (by decide) h_300
  have h_323 : w_313 3 = some (q_99, .inr (4, [.int (-1), .int 0, .int 0, .int 0, .int 0, .int 0, .int 0, .int 0, .int 0, .long 0, .ref q_117])) := gU_n ew_313 (by decide) h_301
  have h_324 : w_313 6 = some (q_230, .inl (tc 5, 8, .inr (.inr (.inr (.inr (fun _ => none)))))) := gU_n ew_313 (by decide) h_303
  have h_325 : w_313 0 = some (h0, .inr (5, [.ref q_1, .int 0, .ref q_50, .int 0, .ref q_99, .int 0, .int 0, .ref q_181, .int 0, .ref q_230, .int 0])) := gU_n ew_313 (by decide) h_304
  have h_326 : w_313 70 = some (q_297, .inl (tc 0, 7, .inl (f_cp 7 (fun _ => 0) (fun _ => 44000)))) := gU_n ew_313 (by decide) h_305
  have h_327 : w_313 60 = some (q_279, .inr (0, [.ref q_297, .int 0])) := gU_n ew_313 (by decide) h_306
  have h_328 : w_313 5 = some (q_181, .inl (tc 4, 4, .inr (.inr (.inr (.inr (va_up (fun _ => none) (0 : Int32).toNatClampNeg (some q_279))))))) := gU_s ew_313
  refine lv_iinc (v := 1) (lv' := [(1, .int 1), (0, .ref h0)]) hx hb dX5_init_102 hl (k := 0) rfl (by decide) (by decide) rfl (fun ls hl => ?_)
  refine lv_goto (tgt := 80) hx hb dX5_init_105 (by decide) ?_
  refine lv_iload_n hx hb dX5_init_80 rfl (lv_at hl 0 rfl) ?_
  refine lv_aload_n hx hb dX5_init_81 rfl (lv_at hl 1 rfl) ?_
  refine g_get hE hG h_325 rfl inG5 7 (by decide) mw1_108 rfl dX5_init_82 ?_
  refine g_alen (t0 := 4) (v := 4) hE hG h_328 rfl rfl dX5_init_85 ?_
  refine lv_icmp_ge (tgt := 108) hx hb dX5_init_86 (by decide) (fun c9 => absurd c9 (by decide)) (fun _ => ?_)
  refine lv_aload_n hx hb dX5_init_89 rfl (lv_at hl 1 rfl) ?_
  refine g_get hE hG h_325 rfl inG5 7 (by decide) mw1_108 rfl dX5_init_90 ?_
  refine lv_iload_n hx hb dX5_init_93 rfl (lv_at hl 0 rfl) ?_
  refine g_new (ci := 0) (fs := [.null, .int 0]) hE hG rfl inG0 tyX0 tyX0_ok mw1_83 mw1_87 mw1_3 (by intro j hj; match j, hj with | 0, _ => rfl | 1, _ => rfl) (Nat.le_of_ble_eq_true rfl) (Nat.le_of_ble_eq_true rfl) 61 g_314 dX5_init_94 (fun q_329 H w_330 ew_330 hG => ?_)
  have g_331 : w_330 62 = none := gU_n ew_330 (by decide) g_315
  have g_332 : w_330 63 = none := gU_n ew_330 (by decide) g_316
  have g_333 : w_330 71 = none := gU_n ew_330 (by decide) g_317
  have g_334 : w_330 72 = none := gU_n ew_330 (by decide) g_318
  have g_335 : w_330 73 = none := gU_n ew_330 (by decide) g_319
  have h_336 : w_330 1 = some (q_1, .inl (tc 0, 4, .inl (fun _ => 0))) := gU_n ew_330 (by decide) h_320
  have h_337 : w_330 2 = some (q_50, .inl (tc 3, 6, .inr (.inr (.inr (.inr (fun _ => none)))))) := gU_n ew_330 (by decide) h_321
  have h_338 : w_330 4 = some (q_117, .inl (tc 1, 4, .inr (.inl (fun _ => 0)))) := gU_n ew_330 (by decide) h_322
  have h_339 : w_330 3 = some (q_99, .inr (4, [.int (-1), .int 0, .int 0, .int 0, .int 0, .int 0, .int 0, .int 0, .int 0, .long 0, .ref q_117])) := gU_n ew_330 (by decide) h_323
  have h_340 : w_330 6 = some (q_230, .inl (tc 5, 8, .inr (.inr (.inr (.inr (fun _ => none)))))) := gU_n ew_330 (by decide) h_324
  have h_341 : w_330 0 = some (h0, .inr (5, [.ref q_1, .int 0, .ref q_50, .int 0, .ref q_99, .int 0, .int 0, .ref q_181, .int 0, .ref q_230, .int 0])) := gU_n ew_330 (by decide) h_325
  have h_342 : w_330 70 = some (q_297, .inl (tc 0, 7, .inl (f_cp 7 (fun _ => 0) (fun _ => 44000)))) := gU_n ew_330 (by decide) h_326
  have h_343 : w_330 60 = some (q_279, .inr (0, [.ref q_297, .int 0])) := gU_n ew_330 (by decide) h_327
  have h_344 : w_330 5 = some (q_181, .inl (tc 4, 4, .inr (.inr (.inr (.inr (va_up (fun _ => none) (0 : Int32).toNatClampNeg (some q_279))))))) := gU_n ew_330 (by decide) h_328
  have h_345 : w_330 61 = some (q_329, .inr (0, [.null, .int 0])) := gU_s ew_330
  refine lv_dup hx hb dX5_init_97 rfl ?_
  refine g_callI (rest := [.ref q_329, .int 1, .ref q_181]) (As := []) hE hG hl.1 (c_X0_init l hfl D tc A w_330 61 71 q_329 h_345 g_333) mw1_88 mw1_89 mw1_3 mw1_90 rfl nm_X0_init ⟨⟨Nat.le_of_ble_eq_true rfl, Nat.le_of_ble_eq_true rfl⟩, Nat.le_of_ble_eq_true rfl, Nat.le_of_ble_eq_true rfl⟩ rfl rfl (Nat.le_of_ble_eq_true rfl) dX5_init_98 ?_
  intro v9 w_346 H locs h9 hG
  obtain ⟨e9, q_347, ew_346⟩ := h9
  rw [e9]; clear e9
  show W p l e _ s m args below meth c H locs _ _ _ (F0 m 101 ls [.ref q_329, .int 1, .ref q_181])
  have h_348 : w_346 1 = some (q_1, .inl (tc 0, 4, .inl (fun _ => 0))) := by rw [ew_346, gU_ne _ _ (by decide), gU_ne _ _ (gU_f g_333 h_336)]; exact h_336
  have h_349 : w_346 2 = some (q_50, .inl (tc 3, 6, .inr (.inr (.inr (.inr (fun _ => none)))))) := by rw [ew_346, gU_ne _ _ (by decide), gU_ne _ _ (gU_f g_333 h_337)]; exact h_337
  have h_350 : w_346 4 = some (q_117, .inl (tc 1, 4, .inr (.inl (fun _ => 0)))) := by rw [ew_346, gU_ne _ _ (by decide), gU_ne _ _ (gU_f g_333 h_338)]; exact h_338
  have h_351 : w_346 3 = some (q_99, .inr (4, [.int (-1), .int 0, .int 0, .int 0, .int 0, .int 0, .int 0, .int 0, .int 0, .long 0, .ref q_117])) := by rw [ew_346, gU_ne _ _ (by decide), gU_ne _ _ (gU_f g_333 h_339)]; exact h_339
  have h_352 : w_346 6 = some (q_230, .inl (tc 5, 8, .inr (.inr (.inr (.inr (fun _ => none)))))) := by rw [ew_346, gU_ne _ _ (by decide), gU_ne _ _ (gU_f g_333 h_340)]; exact h_340
  have h_353 : w_346 0 = some (h0, .inr (5, [.ref q_1, .int 0, .ref q_50, .int 0, .ref q_99, .int 0, .int 0, .ref q_181, .int 0, .ref q_230, .int 0])) := by rw [ew_346, gU_ne _ _ (by decide), gU_ne _ _ (gU_f g_333 h_341)]; exact h_341
  have h_354 : w_346 70 = some (q_297, .inl (tc 0, 7, .inl (f_cp 7 (fun _ => 0) (fun _ => 44000)))) := by rw [ew_346, gU_ne _ _ (by decide), gU_ne _ _ (gU_f g_333 h_342)]; exact h_342
  have h_355 : w_346 60 = some (q_279, .inr (0, [.ref q_297, .int 0])) := by rw [ew_346, gU_ne _ _ (by decide), gU_ne _ _ (gU_f g_333 h_343)]; exact h_343
  have h_356 : w_346 5 = some (q_181, .inl (tc 4, 4, .inr (.inr (.inr (.inr (va_up (fun _ => none) (0 : Int32).toNatClampNeg (some q_279))))))) := by rw [ew_346, gU_ne _ _ (by decide), gU_ne _ _ (gU_f g_333 h_344)]; exact h_344
  have h_357 : w_346 71 = some (q_347, .inl (tc 0, 7, .inl (f_cp 7 (fun _ => 0) (fun _ => 44000)))) := by rw [ew_346, gU_ne _ _ (by decide), gU_same]
  have h_358 : w_346 61 = some (q_329, .inr (0, [.ref q_347, .int 0])) := by rw [ew_346, gU_same]
  have g_359 : w_346 62 = none := by rw [ew_346, gU_ne _ _ (by decide), gU_ne _ _ (by decide)]; exact g_331
  have g_360 : w_346 63 = none := by rw [ew_346, gU_ne _ _ (by decide), gU_ne _ _ (by decide)]; exact g_332
  have g_361 : w_346 72 = none := by rw [ew_346, gU_ne _ _ (by decide), gU_ne _ _ (by decide)]; exact g_334
  have g_362 : w_346 73 = none := by rw [ew_346, gU_ne _ _ (by decide), gU_ne _ _ (by decide)]; exact g_335
  refine g_aast (t0 := 4) (ci := 0) hE hG h_356 rfl h_358 rfl (vp_in_nI (n := 1) (N := 4) (by decide) (by decide)) dX5_init_101 (fun H locs w_363 ew_363 hG => ?_)
  have g_364 : w_363 62 = none := gU_n ew_363 (by decide) g_359
  have g_365 : w_363 63 = none := gU_n ew_363 (by decide) g_360
  have g_366 : w_363 72 = none := gU_n ew_363 (by decide) g_361
  have g_367 : w_363 73 = none := gU_n ew_363 (by decide) g_362
  have h_368 : w_363 1 = some (q_1, .inl (tc 0, 4, .inl (fun _ => 0))) := gU_n ew_363 (by decide) h_348
  have h_369 : w_363 2 = some (q_50, .inl (tc 3, 6, .inr (.inr (.inr (.inr (fun _ => none)))))) := gU_n ew_363 (by decide) h_349
  have h_370 : w_363 4 = some (q_117, .inl (tc 1, 4, .inr (.inl (fun _ => 0)))) := gU_n ew_363 (by decide) h_350
  have h_371 : w_363 3 = some (q_99, .inr (4, [.int (-1), .int 0, .int 0, .int 0, .int 0, .int 0, .int 0, .int 0, .int 0, .long 0, .ref q_117])) := gU_n ew_363 (by decide) h_351
  have h_372 : w_363 6 = some (q_230, .inl (tc 5, 8, .inr (.inr (.inr (.inr (fun _ => none)))))) := gU_n ew_363 (by decide) h_352
  have h_373 : w_363 0 = some (h0, .inr (5, [.ref q_1, .int 0, .ref q_50, .int 0, .ref q_99, .int 0, .int 0, .ref q_181, .int 0, .ref q_230, .int 0])) := gU_n ew_363 (by decide) h_353
  have h_374 : w_363 70 = some (q_297, .inl (tc 0, 7, .inl (f_cp 7 (fun _ => 0) (fun _ => 44000)))) := gU_n ew_363 (by decide) h_354
  have h_375 : w_363 60 = some (q_279, .inr (0, [.ref q_297, .int 0])) := gU_n ew_363 (by decide) h_355
  have h_376 : w_363 71 = some (q_347, .inl (tc 0, 7, .inl (f_cp 7 (fun _ => 0) (fun _ => 44000)))) := gU_n ew_363 (by decide) h_357
  have h_377 : w_363 61 = some (q_329, .inr (0, [.ref q_347, .int 0])) := gU_n ew_363 (by decide) h_358
  have h_378 : w_363 5 = some (q_181, .inl (tc 4, 4, .inr (.inr (.inr (.inr (va_up (va_up (fun _ => none) (0 : Int32).toNatClampNeg (some q_279)) (1 : Int32).toNatClampNeg (some q_329))))))) := gU_s ew_363
  refine lv_iinc (v := 2) (lv' := [(1, .int 2), (0, .ref h0)]) hx hb dX5_init_102 hl (k := 0) rfl (by decide) (by decide) rfl (fun ls hl => ?_)
  refine lv_goto (tgt := 80) hx hb dX5_init_105 (by decide) ?_
  refine lv_iload_n hx hb dX5_init_80 rfl (lv_at hl 0 rfl) ?_
  refine lv_aload_n hx hb dX5_init_81 rfl (lv_at hl 1 rfl) ?_
  refine g_get hE hG h_373 rfl inG5 7 (by decide) mw1_108 rfl dX5_init_82 ?_
  refine g_alen (t0 := 4) (v := 4) hE hG h_378 rfl rfl dX5_init_85 ?_
  refine lv_icmp_ge (tgt := 108) hx hb dX5_init_86 (by decide) (fun c9 => absurd c9 (by decide)) (fun _ => ?_)
  refine lv_aload_n hx hb dX5_init_89 rfl (lv_at hl 1 rfl) ?_
  refine g_get hE hG h_373 rfl inG5 7 (by decide) mw1_108 rfl dX5_init_90 ?_
  refine lv_iload_n hx hb dX5_init_93 rfl (lv_at hl 0 rfl) ?_
  refine g_new (ci := 0) (fs := [.null, .int 0]) hE hG rfl inG0 tyX0 tyX0_ok mw1_83 mw1_87 mw1_3 (by intro j hj; match j, hj with | 0, _ => rfl | 1, _ => rfl) (Nat.le_of_ble_eq_true rfl) (Nat.le_of_ble_eq_true rfl) 62 g_364 dX5_init_94 (fun q_379 H w_380 ew_380 hG => ?_)
  have g_381 : w_380 63 = none := gU_n ew_380 (by decide) g_365
  have g_382 : w_380 72 = none := gU_n ew_380 (by decide) g_366
  have g_383 : w_380 73 = none := gU_n ew_380 (by decide) g_367
  have h_384 : w_380 1 = some (q_1, .inl (tc 0, 4, .inl (fun _ => 0))) := gU_n ew_380 (by decide) h_368
  have h_385 : w_380 2 = some (q_50, .inl (tc 3, 6, .inr (.inr (.inr (.inr (fun _ => none)))))) := gU_n ew_380 (by decide) h_369
  have h_386 : w_380 4 = some (q_117, .inl (tc 1, 4, .inr (.inl (fun _ => 0)))) := gU_n ew_380 (by decide) h_370
  have h_387 : w_380 3 = some (q_99, .inr (4, [.int (-1), .int 0, .int 0, .int 0, .int 0, .int 0, .int 0, .int 0, .int 0, .long 0, .ref q_117])) := gU_n ew_380 (by decide) h_371
  have h_388 : w_380 6 = some (q_230, .inl (tc 5, 8, .inr (.inr (.inr (.inr (fun _ => none)))))) := gU_n ew_380 (by decide) h_372
  have h_389 : w_380 0 = some (h0, .inr (5, [.ref q_1, .int 0, .ref q_50, .int 0, .ref q_99, .int 0, .int 0, .ref q_181, .int 0, .ref q_230, .int 0])) := gU_n ew_380 (by decide) h_373
  have h_390 : w_380 70 = some (q_297, .inl (tc 0, 7, .inl (f_cp 7 (fun _ => 0) (fun _ => 44000)))) := gU_n ew_380 (by decide) h_374
  have h_391 : w_380 60 = some (q_279, .inr (0, [.ref q_297, .int 0])) := gU_n ew_380 (by decide) h_375
  have h_392 : w_380 71 = some (q_347, .inl (tc 0, 7, .inl (f_cp 7 (fun _ => 0) (fun _ => 44000)))) := gU_n ew_380 (by decide) h_376
  have h_393 : w_380 61 = some (q_329, .inr (0, [.ref q_347, .int 0])) := gU_n ew_380 (by decide) h_377
  have h_394 : w_380 5 = some (q_181, .inl (tc 4, 4, .inr (.inr (.inr (.inr (va_up (va_up (fun _ => none) (0 : Int32).toNatClampNeg (some q_279)) (1 : Int32).toNatClampNeg (some q_329))))))) := gU_n ew_380 (by decide) h_378
  have h_395 : w_380 62 = some (q_379, .inr (0, [.null, .int 0])) := gU_s ew_380
  refine lv_dup hx hb dX5_init_97 rfl ?_
  refine g_callI (rest := [.ref q_379, .int 2, .ref q_181]) (As := []) hE hG hl.1 (c_X0_init l hfl D tc A w_380 62 72 q_379 h_395 g_382) mw1_88 mw1_89 mw1_3 mw1_90 rfl nm_X0_init ⟨⟨Nat.le_of_ble_eq_true rfl, Nat.le_of_ble_eq_true rfl⟩, Nat.le_of_ble_eq_true rfl, Nat.le_of_ble_eq_true rfl⟩ rfl rfl (Nat.le_of_ble_eq_true rfl) dX5_init_98 ?_
  intro v9 w_396 H locs h9 hG
  obtain ⟨e9, q_397, ew_396⟩ := h9
  rw [e9]; clear e9
  show W p l e _ s m args below meth c H locs _ _ _ (F0 m 101 ls [.ref q_379, .int 2, .ref q_181])
  have h_398 : w_396 1 = some (q_1, .inl (tc 0, 4, .inl (fun _ => 0))) := by rw [ew_396, gU_ne _ _ (by decide), gU_ne _ _ (gU_f g_382 h_384)]; exact h_384
  have h_399 : w_396 2 = some (q_50, .inl (tc 3, 6, .inr (.inr (.inr (.inr (fun _ => none)))))) := by rw [ew_396, gU_ne _ _ (by decide), gU_ne _ _ (gU_f g_382 h_385)]; exact h_385
  have h_400 : w_396 4 = some (q_117, .inl (tc 1, 4, .inr (.inl (fun _ => 0)))) := by rw [ew_396, gU_ne _ _ (by decide), gU_ne _ _ (gU_f g_382 h_386)]; exact h_386
  have h_401 : w_396 3 = some (q_99, .inr (4, [.int (-1), .int 0, .int 0, .int 0, .int 0, .int 0, .int 0, .int 0, .int 0, .long 0, .ref q_117])) := by rw [ew_396, gU_ne _ _ (by decide), gU_ne _ _ (gU_f g_382 h_387)]; exact h_387
  have h_402 : w_396 6 = some (q_230, .inl (tc 5, 8, .inr (.inr (.inr (.inr (fun _ => none)))))) := by rw [ew_396, gU_ne _ _ (by decide), gU_ne _ _ (gU_f g_382 h_388)]; exact h_388
  have h_403 : w_396 0 = some (h0, .inr (5, [.ref q_1, .int 0, .ref q_50, .int 0, .ref q_99, .int 0, .int 0, .ref q_181, .int 0, .ref q_230, .int 0])) := by rw [ew_396, gU_ne _ _ (by decide), gU_ne _ _ (gU_f g_382 h_389)]; exact h_389
  have h_404 : w_396 70 = some (q_297, .inl (tc 0, 7, .inl (f_cp 7 (fun _ => 0) (fun _ => 44000)))) := by rw [ew_396, gU_ne _ _ (by decide), gU_ne _ _ (gU_f g_382 h_390)]; exact h_390
  have h_405 : w_396 60 = some (q_279, .inr (0, [.ref q_297, .int 0])) := by rw [ew_396, gU_ne _ _ (by decide), gU_ne _ _ (gU_f g_382 h_391)]; exact h_391
  have h_406 : w_396 71 = some (q_347, .inl (tc 0, 7, .inl (f_cp 7 (fun _ => 0) (fun _ => 44000)))) := by rw [ew_396, gU_ne _ _ (by decide), gU_ne _ _ (gU_f g_382 h_392)]; exact h_392
  have h_407 : w_396 61 = some (q_329, .inr (0, [.ref q_347, .int 0])) := by rw [ew_396, gU_ne _ _ (by decide), gU_ne _ _ (gU_f g_382 h_393)]; exact h_393
  have h_408 : w_396 5 = some (q_181, .inl (tc 4, 4, .inr (.inr (.inr (.inr (va_up (va_up (fun _ => none) (0 : Int32).toNatClampNeg (some q_279)) (1 : Int32).toNatClampNeg (some q_329))))))) := by rw [ew_396, gU_ne _ _ (by decide), gU_ne _ _ (gU_f g_382 h_394)]; exact h_394
  have h_409 : w_396 72 = some (q_397, .inl (tc 0, 7, .inl (f_cp 7 (fun _ => 0) (fun _ => 44000)))) := by rw [ew_396, gU_ne _ _ (by decide), gU_same]
  have h_410 : w_396 62 = some (q_379, .inr (0, [.ref q_397, .int 0])) := by rw [ew_396, gU_same]
  have g_411 : w_396 63 = none := by rw [ew_396, gU_ne _ _ (by decide), gU_ne _ _ (by decide)]; exact g_381
  have g_412 : w_396 73 = none := by rw [ew_396, gU_ne _ _ (by decide), gU_ne _ _ (by decide)]; exact g_383
  refine g_aast (t0 := 4) (ci := 0) hE hG h_408 rfl h_410 rfl (vp_in_nI (n := 2) (N := 4) (by decide) (by decide)) dX5_init_101 (fun H locs w_413 ew_413 hG => ?_)
  have g_414 : w_413 63 = none := gU_n ew_413 (by decide) g_411
  have g_415 : w_413 73 = none := gU_n ew_413 (by decide) g_412
  have h_416 : w_413 1 = some (q_1, .inl (tc 0, 4, .inl (fun _ => 0))) := gU_n ew_413 (by decide) h_398
  have h_417 : w_413 2 = some (q_50, .inl (tc 3, 6, .inr (.inr (.inr (.inr (fun _ => none)))))) := gU_n ew_413 (by decide) h_399
  have h_418 : w_413 4 = some (q_117, .inl (tc 1, 4, .inr (.inl (fun _ => 0)))) := gU_n ew_413 (by decide) h_400
  have h_419 : w_413 3 = some (q_99, .inr (4, [.int (-1), .int 0, .int 0, .int 0, .int 0, .int 0, .int 0, .int 0, .int 0, .long 0, .ref q_117])) := gU_n ew_413 (by decide) h_401
  have h_420 : w_413 6 = some (q_230, .inl (tc 5, 8, .inr (.inr (.inr (.inr (fun _ => none)))))) := gU_n ew_413 (by decide) h_402
  have h_421 : w_413 0 = some (h0, .inr (5, [.ref q_1, .int 0, .ref q_50, .int 0, .ref q_99, .int 0, .int 0, .ref q_181, .int 0, .ref q_230, .int 0])) := gU_n ew_413 (by decide) h_403
  have h_422 : w_413 70 = some (q_297, .inl (tc 0, 7, .inl (f_cp 7 (fun _ => 0) (fun _ => 44000)))) := gU_n ew_413 (by decide) h_404
  have h_423 : w_413 60 = some (q_279, .inr (0, [.ref q_297, .int 0])) := gU_n ew_413 (by decide) h_405
  have h_424 : w_413 71 = some (q_347, .inl (tc 0, 7, .inl (f_cp 7 (fun _ => 0) (fun _ => 44000)))) := gU_n ew_413 (by decide) h_406
  have h_425 : w_413 61 = some (q_329, .inr (0, [.ref q_347, .int 0])) := gU_n ew_413 (by decide) h_407
  have h_426 : w_413 72 = some (q_397, .inl (tc 0, 7, .inl (f_cp 7 (fun _ => 0) (fun _ => 44000)))) := gU_n ew_413 (by decide) h_409
  have h_427 : w_413 62 = some (q_379, .inr (0, [.ref q_397, .int 0])) := gU_n ew_413 (by decide) h_410
  have h_428 : w_413 5 = some (q_181, .inl (tc 4, 4, .inr (.inr (.inr (.inr (va_up (va_up (va_up (fun _ => none) (0 : Int32).toNatClampNeg (some q_279)) (1 : Int32).toNatClampNeg (some q_329)) (2 : Int32).toNatClampNeg (some q_379))))))) := gU_s ew_413
  refine lv_iinc (v := 3) (lv' := [(1, .int 3), (0, .ref h0)]) hx hb dX5_init_102 hl (k := 0) rfl (by decide) (by decide) rfl (fun ls hl => ?_)
  refine lv_goto (tgt := 80) hx hb dX5_init_105 (by decide) ?_
  refine lv_iload_n hx hb dX5_init_80 rfl (lv_at hl 0 rfl) ?_
  refine lv_aload_n hx hb dX5_init_81 rfl (lv_at hl 1 rfl) ?_
  refine g_get hE hG h_421 rfl inG5 7 (by decide) mw1_108 rfl dX5_init_82 ?_
  refine g_alen (t0 := 4) (v := 4) hE hG h_428 rfl rfl dX5_init_85 ?_
  refine lv_icmp_ge (tgt := 108) hx hb dX5_init_86 (by decide) (fun c9 => absurd c9 (by decide)) (fun _ => ?_)
  refine lv_aload_n hx hb dX5_init_89 rfl (lv_at hl 1 rfl) ?_
  refine g_get hE hG h_421 rfl inG5 7 (by decide) mw1_108 rfl dX5_init_90 ?_
  refine lv_iload_n hx hb dX5_init_93 rfl (lv_at hl 0 rfl) ?_
  refine g_new (ci := 0) (fs := [.null, .int 0]) hE hG rfl inG0 tyX0 tyX0_ok mw1_83 mw1_87 mw1_3 (by intro j hj; match j, hj with | 0, _ => rfl | 1, _ => rfl) (Nat.le_of_ble_eq_true rfl) (Nat.le_of_ble_eq_true rfl) 63 g_414 dX5_init_94 (fun q_429 H w_430 ew_430 hG => ?_)
  have g_431 : w_430 73 = none := gU_n ew_430 (by decide) g_415
  have h_432 : w_430 1 = some (q_1, .inl (tc 0, 4, .inl (fun _ => 0))) := gU_n ew_430 (by decide) h_416
  have h_433 : w_430 2 = some (q_50, .inl (tc 3, 6, .inr (.inr (.inr (.inr (fun _ => none)))))) := gU_n ew_430 (by decide) h_417
  have h_434 : w_430 4 = some (q_117, .inl (tc 1, 4, .inr (.inl (fun _ => 0)))) := gU_n ew_430 (by decide) h_418
  have h_435 : w_430 3 = some (q_99, .inr (4, [.int (-1), .int 0, .int 0, .int 0, .int 0, .int 0, .int 0, .int 0, .int 0, .long 0, .ref q_117])) := gU_n ew_430 (by decide) h_419
  have h_436 : w_430 6 = some (q_230, .inl (tc 5, 8, .inr (.inr (.inr (.inr (fun _ => none)))))) := gU_n ew_430 (by decide) h_420
  have h_437 : w_430 0 = some (h0, .inr (5, [.ref q_1, .int 0, .ref q_50, .int 0, .ref q_99, .int 0, .int 0, .ref q_181, .int 0, .ref q_230, .int 0])) := gU_n ew_430 (by decide) h_421
  have h_438 : w_430 70 = some (q_297, .inl (tc 0, 7, .inl (f_cp 7 (fun _ => 0) (fun _ => 44000)))) := gU_n ew_430 (by decide) h_422
  have h_439 : w_430 60 = some (q_279, .inr (0, [.ref q_297, .int 0])) := gU_n ew_430 (by decide) h_423
  have h_440 : w_430 71 = some (q_347, .inl (tc 0, 7, .inl (f_cp 7 (fun _ => 0) (fun _ => 44000)))) := gU_n ew_430 (by decide) h_424
  have h_441 : w_430 61 = some (q_329, .inr (0, [.ref q_347, .int 0])) := gU_n ew_430 (by decide) h_425
  have h_442 : w_430 72 = some (q_397, .inl (tc 0, 7, .inl (f_cp 7 (fun _ => 0) (fun _ => 44000)))) := gU_n ew_430 (by decide) h_426
  have h_443 : w_430 62 = some (q_379, .inr (0, [.ref q_397, .int 0])) := gU_n ew_430 (by decide) h_427
  have h_444 : w_430 5 = some (q_181, .inl (tc 4, 4, .inr (.inr (.inr (.inr (va_up (va_up (va_up (fun _ => none) (0 : Int32).toNatClampNeg (some q_279)) (1 : Int32).toNatClampNeg (some q_329)) (2 : Int32).toNatClampNeg (some q_379))))))) := gU_n ew_430 (by decide) h_428
  have h_445 : w_430 63 = some (q_429, .inr (0, [.null, .int 0])) := gU_s ew_430
  refine lv_dup hx hb dX5_init_97 rfl ?_
  refine g_callI (rest := [.ref q_429, .int 3, .ref q_181]) (As := []) hE hG hl.1 (c_X0_init l hfl D tc A w_430 63 73 q_429 h_445 g_431) mw1_88 mw1_89 mw1_3 mw1_90 rfl nm_X0_init ⟨⟨Nat.le_of_ble_eq_true rfl, Nat.le_of_ble_eq_true rfl⟩, Nat.le_of_ble_eq_true rfl, Nat.le_of_ble_eq_true rfl⟩ rfl rfl (Nat.le_of_ble_eq_true rfl) dX5_init_98 ?_
  intro v9 w_446 H locs h9 hG
  obtain ⟨e9, q_447, ew_446⟩ := h9
  rw [e9]; clear e9
  show W p l e _ s m args below meth c H locs _ _ _ (F0 m 101 ls [.ref q_429, .int 3, .ref q_181])
  have h_448 : w_446 1 = some (q_1, .inl (tc 0, 4, .inl (fun _ => 0))) := by rw [ew_446, gU_ne _ _ (by decide), gU_ne _ _ (gU_f g_431 h_432)]; exact h_432
  have h_449 : w_446 2 = some (q_50, .inl (tc 3, 6, .inr (.inr (.inr (.inr (fun _ => none)))))) := by rw [ew_446, gU_ne _ _ (by decide), gU_ne _ _ (gU_f g_431 h_433)]; exact h_433
  have h_450 : w_446 4 = some (q_117, .inl (tc 1, 4, .inr (.inl (fun _ => 0)))) := by rw [ew_446, gU_ne _ _ (by decide), gU_ne _ _ (gU_f g_431 h_434)]; exact h_434
  have h_451 : w_446 3 = some (q_99, .inr (4, [.int (-1), .int 0, .int 0, .int 0, .int 0, .int 0, .int 0, .int 0, .int 0, .long 0, .ref q_117])) := by rw [ew_446, gU_ne _ _ (by decide), gU_ne _ _ (gU_f g_431 h_435)]; exact h_435
  have h_452 : w_446 6 = some (q_230, .inl (tc 5, 8, .inr (.inr (.inr (.inr (fun _ => none)))))) := by rw [ew_446, gU_ne _ _ (by decide), gU_ne _ _ (gU_f g_431 h_436)]; exact h_436
  have h_453 : w_446 0 = some (h0, .inr (5, [.ref q_1, .int 0, .ref q_50, .int 0, .ref q_99, .int 0, .int 0, .ref q_181, .int 0, .ref q_230, .int 0])) := by rw [ew_446, gU_ne _ _ (by decide), gU_ne _ _ (gU_f g_431 h_437)]; exact h_437
  have h_454 : w_446 70 = some (q_297, .inl (tc 0, 7, .inl (f_cp 7 (fun _ => 0) (fun _ => 44000)))) := by rw [ew_446, gU_ne _ _ (by decide), gU_ne _ _ (gU_f g_431 h_438)]; exact h_438
  have h_455 : w_446 60 = some (q_279, .inr (0, [.ref q_297, .int 0])) := by rw [ew_446, gU_ne _ _ (by decide), gU_ne _ _ (gU_f g_431 h_439)]; exact h_439
  have h_456 : w_446 71 = some (q_347, .inl (tc 0, 7, .inl (f_cp 7 (fun _ => 0) (fun _ => 44000)))) := by rw [ew_446, gU_ne _ _ (by decide), gU_ne _ _ (gU_f g_431 h_440)]; exact h_440
  have h_457 : w_446 61 = some (q_329, .inr (0, [.ref q_347, .int 0])) := by rw [ew_446, gU_ne _ _ (by decide), gU_ne _ _ (gU_f g_431 h_441)]; exact h_441
  have h_458 : w_446 72 = some (q_397, .inl (tc 0, 7, .inl (f_cp 7 (fun _ => 0) (fun _ => 44000)))) := by rw [ew_446, gU_ne _ _ (by decide), gU_ne _ _ (gU_f g_431 h_442)]; exact h_442
  have h_459 : w_446 62 = some (q_379, .inr (0, [.ref q_397, .int 0])) := by rw [ew_446, gU_ne _ _ (by decide), gU_ne _ _ (gU_f g_431 h_443)]; exact h_443
  have h_460 : w_446 5 = some (q_181, .inl (tc 4, 4, .inr (.inr (.inr (.inr (va_up (va_up (va_up (fun _ => none) (0 : Int32).toNatClampNeg (some q_279)) (1 : Int32).toNatClampNeg (some q_329)) (2 : Int32).toNatClampNeg (some q_379))))))) := by rw [ew_446, gU_ne _ _ (by decide), gU_ne _ _ (gU_f g_431 h_444)]; exact h_444
  have h_461 : w_446 73 = some (q_447, .inl (tc 0, 7, .inl (f_cp 7 (fun _ => 0) (fun _ => 44000)))) := by rw [ew_446, gU_ne _ _ (by decide), gU_same]
  have h_462 : w_446 63 = some (q_429, .inr (0, [.ref q_447, .int 0])) := by rw [ew_446, gU_same]
  refine g_aast (t0 := 4) (ci := 0) hE hG h_460 rfl h_462 rfl (vp_in_nI (n := 3) (N := 4) (by decide) (by decide)) dX5_init_101 (fun H locs w_463 ew_463 hG => ?_)
  have h_464 : w_463 1 = some (q_1, .inl (tc 0, 4, .inl (fun _ => 0))) := gU_n ew_463 (by decide) h_448
  have h_465 : w_463 2 = some (q_50, .inl (tc 3, 6, .inr (.inr (.inr (.inr (fun _ => none)))))) := gU_n ew_463 (by decide) h_449
  have h_466 : w_463 4 = some (q_117, .inl (tc 1, 4, .inr (.inl (fun _ => 0)))) := gU_n ew_463 (by decide) h_450
  have h_467 : w_463 3 = some (q_99, .inr (4, [.int (-1), .int 0, .int 0, .int 0, .int 0, .int 0, .int 0, .int 0, .int 0, .long 0, .ref q_117])) := gU_n ew_463 (by decide) h_451
  have h_468 : w_463 6 = some (q_230, .inl (tc 5, 8, .inr (.inr (.inr (.inr (fun _ => none)))))) := gU_n ew_463 (by decide) h_452
  have h_469 : w_463 0 = some (h0, .inr (5, [.ref q_1, .int 0, .ref q_50, .int 0, .ref q_99, .int 0, .int 0, .ref q_181, .int 0, .ref q_230, .int 0])) := gU_n ew_463 (by decide) h_453
  have h_470 : w_463 70 = some (q_297, .inl (tc 0, 7, .inl (f_cp 7 (fun _ => 0) (fun _ => 44000)))) := gU_n ew_463 (by decide) h_454
  have h_471 : w_463 60 = some (q_279, .inr (0, [.ref q_297, .int 0])) := gU_n ew_463 (by decide) h_455
  have h_472 : w_463 71 = some (q_347, .inl (tc 0, 7, .inl (f_cp 7 (fun _ => 0) (fun _ => 44000)))) := gU_n ew_463 (by decide) h_456
  have h_473 : w_463 61 = some (q_329, .inr (0, [.ref q_347, .int 0])) := gU_n ew_463 (by decide) h_457
  have h_474 : w_463 72 = some (q_397, .inl (tc 0, 7, .inl (f_cp 7 (fun _ => 0) (fun _ => 44000)))) := gU_n ew_463 (by decide) h_458
  have h_475 : w_463 62 = some (q_379, .inr (0, [.ref q_397, .int 0])) := gU_n ew_463 (by decide) h_459
  have h_476 : w_463 73 = some (q_447, .inl (tc 0, 7, .inl (f_cp 7 (fun _ => 0) (fun _ => 44000)))) := gU_n ew_463 (by decide) h_461
  have h_477 : w_463 63 = some (q_429, .inr (0, [.ref q_447, .int 0])) := gU_n ew_463 (by decide) h_462
  have h_478 : w_463 5 = some (q_181, .inl (tc 4, 4, .inr (.inr (.inr (.inr (va_up (va_up (va_up (va_up (fun _ => none) (0 : Int32).toNatClampNeg (some q_279)) (1 : Int32).toNatClampNeg (some q_329)) (2 : Int32).toNatClampNeg (some q_379)) (3 : Int32).toNatClampNeg (some q_429))))))) := gU_s ew_463
  refine lv_iinc (v := 4) (lv' := [(1, .int 4), (0, .ref h0)]) hx hb dX5_init_102 hl (k := 0) rfl (by decide) (by decide) rfl (fun ls hl => ?_)
  refine lv_goto (tgt := 80) hx hb dX5_init_105 (by decide) ?_
  refine lv_iload_n hx hb dX5_init_80 rfl (lv_at hl 0 rfl) ?_
  refine lv_aload_n hx hb dX5_init_81 rfl (lv_at hl 1 rfl) ?_
  refine g_get hE hG h_469 rfl inG5 7 (by decide) mw1_108 rfl dX5_init_82 ?_
  refine g_alen (t0 := 4) (v := 4) hE hG h_478 rfl rfl dX5_init_85 ?_
  refine lv_icmp_ge (tgt := 108) hx hb dX5_init_86 (by decide) (fun _ => ?_) (fun c9 => (c9 (by decide)).elim)
  subst hQ
  have hw9 : ∀ k, 7 ≤ k → (k < 60 ∨ (63 < k ∧ k < 70) ∨ 73 < k) → w_463 k = w k := fun k h1 h2 => by
    rw [ew_463, ew_446, ew_430, ew_413, ew_396, ew_380, ew_363, ew_346, ew_330, ew_313, ew_296, ew_280, ew_263, ew_247, ew_231, ew_214, ew_198, ew_182, ew_165, ew_149, ew_133, ew_116, ew_100, ew_83, ew_67, ew_51, ew_34, ew_18, ew_2]
    repeat (rw [gU_ne _ _ (by omega)])
  have hK9 : gK w w_463 := fun k hk => hw9 k (by omega) (by omega)
  have hN9 : ∀ k, 7 ≤ k → k < 1000 → (k < 60 ∨ (63 < k ∧ k < 70) ∨ 73 < k) → w_463 k = none := fun k h1 h3 h2 => (hw9 k h1 h2).trans (hf k (by omega) h3)
  obtain ⟨ca, hca⟩ : ∃ ca : Nat → Nat, ca = (fun k => match k with | 0 => h0 | 1 => q_1 | 2 => q_50 | 3 => q_99 | 4 => q_117 | 5 => q_181 | 6 => q_230 | 60 => q_279 | 61 => q_329 | 62 => q_379 | 63 => q_429 | 70 => q_297 | 71 => q_347 | 72 => q_397 | 73 => q_447 | _ => 0) := ⟨_, rfl⟩
  have hpf : c_pf ca (nP d_0) = fun _ => none := funext fun i => if_neg (Nat.not_lt_zero i)
  have huf : c_uf ca (nU d_0) = fun _ => none := funext fun i => if_neg (Nat.not_lt_zero i)
  have hs9 : c_sf ca = (va_up (va_up (va_up (va_up (fun _ => none) (0 : Int32).toNatClampNeg (some q_279)) (1 : Int32).toNatClampNeg (some q_329)) (2 : Int32).toNatClampNeg (some q_379)) (3 : Int32).toNatClampNeg (some q_429)) := by
    rw [hca]
    funext j
    by_cases hj : j < 4
    · rcases (show j = 0 ∨ j = 1 ∨ j = 2 ∨ j = 3 by omega) with e | e | e | e <;> (rw [e]; rfl)
    · unfold c_sf va_up
      rw [if_neg hj]
      symm
      show (if j = 3 then _ else if j = 2 then _ else if j = 1 then _ else if j = 0 then _ else none) = none
      rw [if_neg (by omega), if_neg (by omega), if_neg (by omega), if_neg (by omega)]
  have a0 : ca 0 = h0 := congrFun hca 0
  have a1 : ca 1 = q_1 := congrFun hca 1
  have a2 : ca 2 = q_50 := congrFun hca 2
  have a3 : ca 3 = q_99 := congrFun hca 3
  have a4 : ca 4 = q_117 := congrFun hca 4
  have a5 : ca 5 = q_181 := congrFun hca 5
  have a6 : ca 6 = q_230 := congrFun hca 6
  have a60 : ca 60 = q_279 := congrFun hca 60
  have a61 : ca 61 = q_329 := congrFun hca 61
  have a62 : ca 62 = q_379 := congrFun hca 62
  have a63 : ca 63 = q_429 := congrFun hca 63
  have a70 : ca 70 = q_297 := congrFun hca 70
  have a71 : ca 71 = q_347 := congrFun hca 71
  have a72 : ca 72 = q_397 := congrFun hca 72
  have a73 : ca 73 = q_447 := congrFun hca 73
  have C9 : cW tc w_463 ca d_0 0 (fun _ => 0) := by
    refine ⟨⟨by rw [a0, a1, a2, a3, a5, a6]; exact h_469, by rw [a1]; exact h_464, by rw [a2, hpf]; exact h_465, by rw [a5, hs9]; exact h_478, by rw [a6, huf]; exact h_468⟩, ⟨0, 0, fun _ => 0, by rw [a3, a4]; exact h_467, by rw [a4]; exact h_466, fun _ _ => rfl, fun h => absurd rfl h, fun h => absurd rfl h⟩, fun i hi => absurd hi (Nat.not_lt_zero i), ?_, fun i hi => absurd hi (Nat.not_lt_zero i), fun u i _ _ h => absurd rfl h, ?_, ?_, ?_⟩
    · intro s9 hs
      rcases (show s9 = 0 ∨ s9 = 1 ∨ s9 = 2 ∨ s9 = 3 by omega) with e | e | e | e
      · rw [e]; exact ⟨by show w_463 60 = some (ca 60, .inr (0, [.ref (ca 70), .int 0])); rw [a60, a70]; exact h_471, _, by show w_463 70 = some (ca 70, _); rw [a70]; exact h_470, pit_0 0 (by decide)⟩
      · rw [e]; exact ⟨by show w_463 61 = some (ca 61, .inr (0, [.ref (ca 71), .int 0])); rw [a61, a71]; exact h_473, _, by show w_463 71 = some (ca 71, _); rw [a71]; exact h_472, pit_0 1 (by decide)⟩
      · rw [e]; exact ⟨by show w_463 62 = some (ca 62, .inr (0, [.ref (ca 72), .int 0])); rw [a62, a72]; exact h_475, _, by show w_463 72 = some (ca 72, _); rw [a72]; exact h_474, pit_0 2 (by decide)⟩
      · rw [e]; exact ⟨by show w_463 63 = some (ca 63, .inr (0, [.ref (ca 73), .int 0])); rw [a63, a73]; exact h_477, _, by show w_463 73 = some (ca 73, _); rw [a73]; exact h_476, pit_0 3 (by decide)⟩
    · exact fun i _ hi => ⟨hN9 _ (by omega) (by omega) (by omega), hN9 _ (by omega) (by omega) (by omega), hN9 _ (by omega) (by omega) (by omega)⟩
    · exact fun i _ hi => ⟨hN9 _ (by omega) (by omega) (by omega), hN9 _ (by omega) (by omega) (by omega)⟩
    · exact fun u i hu hi _ => ⟨hN9 _ (by omega) (by omega) (by omega), hN9 _ (by omega) (by omega) (by omega)⟩
  exact g_vret hE hG hr (Nat.le_of_ble_eq_true rfl) (Nat.le_of_ble_eq_true rfl) dX5_init_108 ⟨rfl, ca, a0, C9, hK9⟩
