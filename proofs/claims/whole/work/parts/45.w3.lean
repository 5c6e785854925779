/-! the law: the rest of the calls -/
set_option maxHeartbeats 4000000 in
set_option maxRecDepth 100000 in
theorem lc_days {p : Program} {l : Launch} {e : Env} {s : State} {m : MethodId} {args : Array Value} {below : List Frame} {meth : Method} {c : Code} {Q : State → Prop} (hfl : l.stackTraces = false) {D : va_G} {tc : Nat → ClassId} {A : Nat → Prop} {b L : Nat} {xs : Nat → Int32} {oa k : Nat} (hE : gE p l s m args meth c code 8 RL D tc A) (hX : va_X b L xs s s.heap) (hbl : b < s.heap.size) (hbA : ¬ A b) (hL : L ≤ 3072) (hk : 6 * k + 6 ≤ L) (ih : gLoop p l e s m args below meth c Q D tc A b oa (k + 1)) (ca ad : Nat → Nat) (d : gDt) (tk : Int64) (st of : Nat → Int64) (w : gW) (H : Heap) (locs : List Loc) (ls : Array Slot) (hC : cW tc w ca d tk st) (hM : mW tc w ad d tk st) (hI : iOk d (100 * k)) (h7 : w 7 = some (oa, .inl (tc 1, 1, .inr (.inl of)))) (hG : gS D A s.heap w H locs) (hl : lv_has ls 8 [(4, .int (nI (6 * k))), (0, .ref b), (1, .ref (ca 0)), (2, .ref (ad 0)), (3, .ref oa)]) : W p l e room_1 s m args below meth c H locs (100 + 40 * k) (5000 + 400 * k) Q (F0 m 1053 ls []) := by
  have hx := hE.1
  have hb := hE.2.1
  obtain ⟨hOk, hF, hT, hpO, hrO, hj⟩ := id hI
  have z0 := hC.1.1
  have zm := hM.1
  obtain ⟨y1, ey1⟩ : ∃ y, y = xs (nI (6 * k + 1)).toNatClampNeg := ⟨_, rfl⟩
  obtain ⟨y2, ey2⟩ : ∃ y, y = xs (nI (6 * k + 2)).toNatClampNeg := ⟨_, rfl⟩
  obtain ⟨y3, ey3⟩ : ∃ y, y = xs (nI (6 * k + 3)).toNatClampNeg := ⟨_, rfl⟩
  obtain ⟨y4, ey4⟩ : ∃ y, y = xs (nI (6 * k + 4)).toNatClampNeg := ⟨_, rfl⟩
  obtain ⟨y5, ey5⟩ : ∃ y, y = xs (nI (6 * k + 5)).toNatClampNeg := ⟨_, rfl⟩
  refine lv_aload_n hx hb dL_law_1053 rfl (lv_at hl 2 rfl) ?_
  refine lv_aload_n hx hb dL_law_1054 rfl (lv_at hl 1 rfl) ?_
  refine lv_iload hx hb dL_law_1055 (lv_at hl 0 rfl) ?_
  refine lv_iconst (v := 1) hx hb dL_law_1057 (by decide) ?_
  refine lv_iadd hx hb dL_law_1058 ?_
  rw [show nI (6 * k) + 1 = nI (6 * k + 1) from nI_add _ _]
  refine va_sld (xs := xs) hx hb hX hbl hbA hG.2.2 (vp_in_nI (by omega) (by omega)) dL_law_1059 ?_
  rw [← ey1]
  refine lv_aload_n hx hb dL_law_1060 rfl (lv_at hl 4 rfl) ?_
  refine g_callSH (rest := []) (As := [.ref (ca 0), .int y1, .ref oa]) hE hG hl.1 (c_L_days l hfl D tc A w ca d tk st y1 oa of (100 * k) hC hI (by omega) h7) mw2_235 mw2_236 mw1_0 mw2_237 nm_L_days ⟨⟨Nat.le_of_ble_eq_true rfl, Nat.le_of_ble_eq_true rfl⟩, (by show 100 + 40 * k + 40 ≤ 601024; omega), (by show 5000 + 400 * k + 400 ≤ 7293034; omega)⟩ rfl rfl (Nat.le_of_ble_eq_true rfl) dL_law_1061 (g_no) ?_
  intro v9 w9 H locs h9 hG
  obtain ⟨hgl, of9, h79, hd⟩ := h9
  have hM9 := mW_cg hM hgl
  rcases hd with ⟨hgo, e9, hC9⟩ | ⟨hgo, e9, hof, ca9, hca9, hC9⟩
  · skip
    rw [e9]; clear e9
    have z1000 := hM9.1
    show W p l e _ s m args below meth c H locs _ _ _ (F0 m 1064 ls [.int (m_la (ga_days d y1) (gb_days d y1) (gc_days d y1))])
    have hI9 : iOk (sL d (m_la (ga_days d y1) (gb_days d y1) (gc_days d y1))) (100 * (k + 1)) := by rw [show 100 * (k + 1) = 100 * k + 100 by omega]; exact iOk_l hI _
    refine lv_istore (lv' := [(5, .int (m_la (ga_days d y1) (gb_days d y1) (gc_days d y1))), (4, .int (nI (6 * k))), (0, .ref b), (1, .ref (ca 0)), (2, .ref (ad 0)), (3, .ref oa)]) hx hb dL_law_1064 hl (by decide) rfl (fun ls hl => ?_)
    refine lv_aload_n hx hb dL_law_1066 rfl (lv_at hl 4 rfl) ?_
    refine lv_aload_n hx hb dL_law_1067 rfl (lv_at hl 2 rfl) ?_
    refine lv_iload hx hb dL_law_1068 (lv_at hl 1 rfl) ?_
    refine lv_iconst (v := 1) hx hb dL_law_1070 (by decide) ?_
    refine lv_iadd hx hb dL_law_1071 ?_
    rw [show nI (6 * k) + 1 = nI (6 * k + 1) from nI_add _ _]
    refine va_sld (xs := xs) hx hb hX hbl hbA hG.2.2 (vp_in_nI (by omega) (by omega)) dL_law_1072 ?_
    rw [← ey1]
    refine g_callV (rest := []) (As := [.int y1]) hE hG hl.1 (c_X6_days l hfl D tc A w9 ad d tk st y1 hM9 hOk) z1000 rfl mw4_131 mw4_132 mw4_133 mw1_4 mw4_134 rfl nm_X6_days ⟨⟨Nat.le_of_ble_eq_true rfl, Nat.le_of_ble_eq_true rfl⟩, (by show 100 + 40 * k + 40 + 0 ≤ 601024; omega), (by show 5000 + 400 * k + 400 + 0 ≤ 7293034; omega)⟩ rfl rfl (Nat.le_of_ble_eq_true rfl) dL_law_1073 (g_no) ?_
    intro v8 w8 H locs h8 hG
    rcases h8 with ⟨-, ⟨r8, e8⟩, hM8, hF8⟩ | ⟨hg8, -⟩
    rotate_left
    · exact absurd hgo hg8
    rw [e8]; clear e8
    have hC8 : cW tc w8 ca (sL d (m_la (ga_days d y1) (gb_days d y1) (gc_days d y1))) tk st := cW_cg (cW_l hC9 _) hI9.1 (fun q h1 _ => hF8 q h1)
    have h78 := (hF8 7 (by omega)).trans h79
    have z8 := hM8.1
    show W p l e _ s m args below meth c H locs _ _ _ (F0 m 1076 ls [.int r8])
    refine lv_istore (lv' := [(6, .int r8), (5, .int (m_la (ga_days d y1) (gb_days d y1) (gc_days d y1))), (4, .int (nI (6 * k))), (0, .ref b), (1, .ref (ca 0)), (2, .ref (ad 0)), (3, .ref oa)]) hx hb dL_law_1076 hl (by decide) rfl (fun ls hl => ?_)
    refine lv_aload_n hx hb dL_law_1078 rfl (lv_at hl 5 rfl) ?_
    refine g_callV (rest := []) (As := []) hE hG hl.1 (c_X6_thrown l hfl D tc A w8 ad (sL d (m_la (ga_days d y1) (gb_days d y1) (gc_days d y1))) tk st hM8) z8 rfl mw4_27 mw4_28 mw4_29 mw1_4 mw4_30 rfl nm_X6_thrown ⟨⟨Nat.le_of_ble_eq_true rfl, Nat.le_of_ble_eq_true rfl⟩, (by show 100 + 40 * k + 40 + 0 + 0 ≤ 601024; omega), (by show 5000 + 400 * k + 400 + 0 + 0 ≤ 7293034; omega)⟩ rfl rfl (Nat.le_of_ble_eq_true rfl) dL_law_1079 (g_no) ?_
    intro v6 w6 H locs h6 hG
    obtain ⟨e6, f6⟩ := h6
    rw [f6] at hG; rw [e6, show (sL d (m_la (ga_days d y1) (gb_days d y1) (gc_days d y1))) 9 14 = (m_la (ga_days d y1) (gb_days d y1) (gc_days d y1)) from rfl]; clear e6 f6
    show W p l e _ s m args below meth c H locs _ _ _ (F0 m 1082 ls [.int (m_la (ga_days d y1) (gb_days d y1) (gc_days d y1))])
    refine lv_iload hx hb dL_law_1082 (lv_at hl 1 rfl) ?_
    refine lv_icmp_eq (tgt := 1089) hx hb dL_law_1084 (by decide) (fun c9 => ?_) (fun c9 => (c9 rfl).elim)
    refine lv_iload hx hb dL_law_1089 (lv_at hl 1 rfl) ?_
    refine lv_if_ne (tgt := 1106) hx hb dL_law_1091 (by decide) (fun c9 => ?_) (fun c9 => absurd c9 (la_ne hgo))
    refine lv_goto (tgt := 1825) hx hb dL_law_1106 (by decide) ?_
    refine lv_iinc (v := (nI (6 * (k + 1)))) (lv' := [(4, .int (nI (6 * (k + 1)))), (6, .int r8), (5, .int (m_la (ga_days d y1) (gb_days d y1) (gc_days d y1))), (0, .ref b), (1, .ref (ca 0)), (2, .ref (ad 0)), (3, .ref oa)]) hx hb dL_law_1825 hl (k := 2) rfl (by rw [show 6 * (k + 1) = 6 * k + 6 by omega]; exact nI_add (6 * k) 6) (by decide) rfl (fun ls hl => ?_)
    refine lv_goto (tgt := 23) hx hb dL_law_1828 (by decide) ?_
    refine W.widen (k := 100 + 40 * (k + 1)) (n := 5000 + 400 * (k + 1)) (by show 100 + 40 * k + 40 + 0 + 0 ≤ _; omega) (by show 5000 + 400 * k + 400 + 0 + 0 ≤ _; omega) ?_
    exact ih ca ad (sL d (m_la (ga_days d y1) (gb_days d y1) (gc_days d y1))) tk st of9 w8 _ _ _ hC8 hM8 hI9 h78 hG (lv_sub hl [0, 3, 4, 5, 6] rfl)
  · skip
    rw [e9]; clear e9
    have z1000 := hM9.1
    show W p l e _ s m args below meth c H locs _ _ _ (F0 m 1064 ls [.int 0])
    have hI9 : iOk (sL (gD d 9 (upd (d 9) 11 (d 9 11 + y1 - (d 9 11 + y1) / 5 * 5))) 0) (100 * (k + 1)) := by rw [show 100 * (k + 1) = 100 * k + 100 by omega]; exact I_days hI
    refine lv_istore (lv' := [(5, .int 0), (4, .int (nI (6 * k))), (0, .ref b), (1, .ref (ca 0)), (2, .ref (ad 0)), (3, .ref oa)]) hx hb dL_law_1064 hl (by decide) rfl (fun ls hl => ?_)
    refine lv_aload_n hx hb dL_law_1066 rfl (lv_at hl 4 rfl) ?_
    refine lv_aload_n hx hb dL_law_1067 rfl (lv_at hl 2 rfl) ?_
    refine lv_iload hx hb dL_law_1068 (lv_at hl 1 rfl) ?_
    refine lv_iconst (v := 1) hx hb dL_law_1070 (by decide) ?_
    refine lv_iadd hx hb dL_law_1071 ?_
    rw [show nI (6 * k) + 1 = nI (6 * k + 1) from nI_add _ _]
    refine va_sld (xs := xs) hx hb hX hbl hbA hG.2.2 (vp_in_nI (by omega) (by omega)) dL_law_1072 ?_
    rw [← ey1]
    refine g_callV (rest := []) (As := [.int y1]) hE hG hl.1 (c_X6_days l hfl D tc A w9 ad d tk st y1 hM9 hOk) z1000 rfl mw4_131 mw4_132 mw4_133 mw1_4 mw4_134 rfl nm_X6_days ⟨⟨Nat.le_of_ble_eq_true rfl, Nat.le_of_ble_eq_true rfl⟩, (by show 100 + 40 * k + 40 + 0 ≤ 601024; omega), (by show 5000 + 400 * k + 400 + 0 ≤ 7293034; omega)⟩ rfl rfl (Nat.le_of_ble_eq_true rfl) dL_law_1073 (g_no) ?_
    intro v8 w8 H locs h8 hG
    rcases h8 with ⟨hg8, -⟩ | ⟨-, e8, hM8, hF8⟩
    · exact absurd hg8 hgo
    rw [e8]; clear e8
    have hC8 : cW tc w8 ca9 (sL (gD d 9 (upd (d 9) 11 (d 9 11 + y1 - (d 9 11 + y1) / 5 * 5))) 0) tk st := cW_cg (hC9) hI9.1 (fun q h1 _ => hF8 q h1)
    have h78 := (hF8 7 (by omega)).trans h79
    have z8 := hM8.1
    show W p l e _ s m args below meth c H locs _ _ _ (F0 m 1076 ls [.int (d 9 11 + y1 - (d 9 11 + y1) / 5 * 5)])
    refine lv_istore (lv' := [(6, .int (d 9 11 + y1 - (d 9 11 + y1) / 5 * 5)), (5, .int 0), (4, .int (nI (6 * k))), (0, .ref b), (1, .ref (ca 0)), (2, .ref (ad 0)), (3, .ref oa)]) hx hb dL_law_1076 hl (by decide) rfl (fun ls hl => ?_)
    refine lv_aload_n hx hb dL_law_1078 rfl (lv_at hl 5 rfl) ?_
    refine g_callV (rest := []) (As := []) hE hG hl.1 (c_X6_thrown l hfl D tc A w8 ad (sL (gD d 9 (upd (d 9) 11 (d 9 11 + y1 - (d 9 11 + y1) / 5 * 5))) 0) tk st hM8) z8 rfl mw4_27 mw4_28 mw4_29 mw1_4 mw4_30 rfl nm_X6_thrown ⟨⟨Nat.le_of_ble_eq_true rfl, Nat.le_of_ble_eq_true rfl⟩, (by show 100 + 40 * k + 40 + 0 + 0 ≤ 601024; omega), (by show 5000 + 400 * k + 400 + 0 + 0 ≤ 7293034; omega)⟩ rfl rfl (Nat.le_of_ble_eq_true rfl) dL_law_1079 (g_no) ?_
    intro v6 w6 H locs h6 hG
    obtain ⟨e6, f6⟩ := h6
    rw [f6] at hG; rw [e6, show (sL (gD d 9 (upd (d 9) 11 (d 9 11 + y1 - (d 9 11 + y1) / 5 * 5))) 0) 9 14 = 0 from rfl]; clear e6 f6
    show W p l e _ s m args below meth c H locs _ _ _ (F0 m 1082 ls [.int 0])
    refine lv_iload hx hb dL_law_1082 (lv_at hl 1 rfl) ?_
    refine lv_icmp_eq (tgt := 1089) hx hb dL_law_1084 (by decide) (fun _ => ?_) (fun c9 => (c9 (by decide)).elim)
    refine lv_iload hx hb dL_law_1089 (lv_at hl 1 rfl) ?_
    refine lv_if_ne (tgt := 1106) hx hb dL_law_1091 (by decide) (fun c9 => (c9 (by decide)).elim) (fun _ => ?_)
    refine lv_aload_n hx hb dL_law_1094 rfl (lv_at hl 6 rfl) ?_
    refine lv_iconst (v := 0) hx hb dL_law_1095 (by decide) ?_
    refine g_lald hE hG h78 (vp_in_nI (n := 0) (N := 1) (by decide) (by decide)) dL_law_1096 ?_
    rw [show of9 (0 : Int32).toNatClampNeg = (d 9 11 + y1 - (d 9 11 + y1) / 5 * 5).toInt64 from hof]
    refine lv_iload hx hb dL_law_1097 (lv_at hl 0 rfl) ?_
    refine lv_i2l (v := (d 9 11 + y1 - (d 9 11 + y1) / 5 * 5).toInt64) hx hb dL_law_1099 rfl ?_
    refine W.lcmp hx hb dL_law_1100 ?_
    refine lv_if_eq (tgt := 1106) hx hb dL_law_1101 (by decide) (fun c9 => ?_) (fun c9 => (c9 (lg_self _)).elim)
    refine lv_goto (tgt := 1825) hx hb dL_law_1106 (by decide) ?_
    refine lv_iinc (v := (nI (6 * (k + 1)))) (lv' := [(4, .int (nI (6 * (k + 1)))), (6, .int (d 9 11 + y1 - (d 9 11 + y1) / 5 * 5)), (5, .int 0), (0, .ref b), (1, .ref (ca 0)), (2, .ref (ad 0)), (3, .ref oa)]) hx hb dL_law_1825 hl (k := 2) rfl (by rw [show 6 * (k + 1) = 6 * k + 6 by omega]; exact nI_add (6 * k) 6) (by decide) rfl (fun ls hl => ?_)
    refine lv_goto (tgt := 23) hx hb dL_law_1828 (by decide) ?_
    refine W.widen (k := 100 + 40 * (k + 1)) (n := 5000 + 400 * (k + 1)) (by show 100 + 40 * k + 40 + 0 + 0 ≤ _; omega) (by show 5000 + 400 * k + 400 + 0 + 0 ≤ _; omega) ?_
    exact ih ca9 ad (sL (gD d 9 (upd (d 9) 11 (d 9 11 + y1 - (d 9 11 + y1) / 5 * 5))) 0) tk st of9 w8 _ _ _ hC8 hM8 hI9 h78 hG (by rw [hca9]; exact lv_sub hl [0, 3, 4, 5, 6] rfl)
set_option maxHeartbeats 4000000 in
set_option maxRecDepth 100000 in
theorem lc_pitch {p : Program} {l : Launch} {e : Env} {s : State} {m : MethodId} {args : Array Value} {below : List Frame} {meth : Method} {c : Code} {Q : State → Prop} (hfl : l.stackTraces = false) {D : va_G} {tc : Nat → ClassId} {A : Nat → Prop} {b L : Nat} {xs : Nat → Int32} {oa k : Nat} (hE : gE p l s m args meth c code 8 RL D tc A) (hX : va_X b L xs s s.heap) (hbl : b < s.heap.size) (hbA : ¬ A b) (hL : L ≤ 3072) (hk : 6 * k + 6 ≤ L) (ih : gLoop p l e s m args below meth c Q D tc A b oa (k + 1)) (ca ad : Nat → Nat) (d : gDt) (tk : Int64) (st of : Nat → Int64) (w : gW) (H : Heap) (locs : List Loc) (ls : Array Slot) (hC : cW tc w ca d tk st) (hM : mW tc w ad d tk st) (hI : iOk d (100 * k)) (h7 : w 7 = some (oa, .inl (tc 1, 1, .inr (.inl of)))) (hG : gS D A s.heap w H locs) (hl : lv_has ls 8 [(4, .int (nI (6 * k))), (0, .ref b), (1, .ref (ca 0)), (2, .ref (ad 0)), (3, .ref oa)]) : W p l e room_1 s m args below meth c H locs (100 + 40 * k) (5000 + 400 * k) Q (F0 m 1109 ls []) := by
  have hx := hE.1
  have hb := hE.2.1
  obtain ⟨hOk, hF, hT, hpO, hrO, hj⟩ := id hI
  have z0 := hC.1.1
  have zm := hM.1
  obtain ⟨y1, ey1⟩ : ∃ y, y = xs (nI (6 * k + 1)).toNatClampNeg := ⟨_, rfl⟩
  obtain ⟨y2, ey2⟩ : ∃ y, y = xs (nI (6 * k + 2)).toNatClampNeg := ⟨_, rfl⟩
  obtain ⟨y3, ey3⟩ : ∃ y, y = xs (nI (6 * k + 3)).toNatClampNeg := ⟨_, rfl⟩
  obtain ⟨y4, ey4⟩ : ∃ y, y = xs (nI (6 * k + 4)).toNatClampNeg := ⟨_, rfl⟩
  obtain ⟨y5, ey5⟩ : ∃ y, y = xs (nI (6 * k + 5)).toNatClampNeg := ⟨_, rfl⟩
  refine lv_aload_n hx hb dL_law_1109 rfl (lv_at hl 2 rfl) ?_
  refine lv_aload_n hx hb dL_law_1110 rfl (lv_at hl 1 rfl) ?_
  refine lv_iload hx hb dL_law_1111 (lv_at hl 0 rfl) ?_
  refine lv_iconst (v := 1) hx hb dL_law_1113 (by decide) ?_
  refine lv_iadd hx hb dL_law_1114 ?_
  rw [show nI (6 * k) + 1 = nI (6 * k + 1) from nI_add _ _]
  refine va_sld (xs := xs) hx hb hX hbl hbA hG.2.2 (vp_in_nI (by omega) (by omega)) dL_law_1115 ?_
  rw [← ey1]
  refine lv_aload_n hx hb dL_law_1116 rfl (lv_at hl 1 rfl) ?_
  refine lv_iload hx hb dL_law_1117 (lv_at hl 0 rfl) ?_
  refine lv_iconst (v := 2) hx hb dL_law_1119 (by decide) ?_
  refine lv_iadd hx hb dL_law_1120 ?_
  rw [show nI (6 * k) + 2 = nI (6 * k + 2) from nI_add _ _]
  refine va_sld (xs := xs) hx hb hX hbl hbA hG.2.2 (vp_in_nI (by omega) (by omega)) dL_law_1121 ?_
  rw [← ey2]
  refine lv_aload_n hx hb dL_law_1122 rfl (lv_at hl 1 rfl) ?_
  refine lv_iload hx hb dL_law_1123 (lv_at hl 0 rfl) ?_
  refine lv_iconst (v := 3) hx hb dL_law_1125 (by decide) ?_
  refine lv_iadd hx hb dL_law_1126 ?_
  rw [show nI (6 * k) + 3 = nI (6 * k + 3) from nI_add _ _]
  refine va_sld (xs := xs) hx hb hX hbl hbA hG.2.2 (vp_in_nI (by omega) (by omega)) dL_law_1127 ?_
  rw [← ey3]
  refine lv_aload_n hx hb dL_law_1128 rfl (lv_at hl 4 rfl) ?_
  refine g_callSH (rest := []) (As := [.ref (ca 0), .int y1, .int y2, .int y3, .ref oa]) hE hG hl.1 (c_L_pitch l hfl D tc A w ca d tk st y1 y2 y3 oa of (100 * k) hC hI (by omega) h7) mw3_3 mw3_4 mw1_0 mw3_5 nm_L_pitch ⟨⟨Nat.le_of_ble_eq_true rfl, Nat.le_of_ble_eq_true rfl⟩, (by show 100 + 40 * k + 40 ≤ 601024; omega), (by show 5000 + 400 * k + 400 ≤ 7293034; omega)⟩ rfl rfl (Nat.le_of_ble_eq_true rfl) dL_law_1129 (g_no) ?_
  intro v9 w9 H locs h9 hG
  obtain ⟨hgl, of9, h79, hd⟩ := h9
  have hM9 := mW_cg hM hgl
  rcases hd with ⟨hgo, e9, hC9⟩ | ⟨hgo, e9, hof, ca9, hca9, hC9⟩
  · skip
    rw [e9]; clear e9
    have z1000 := hM9.1
    show W p l e _ s m args below meth c H locs _ _ _ (F0 m 1132 ls [.int (m_la (ga_pitch d y1 y2 y3) (gb_pitch d y1 y2 y3) (gc_pitch d y1 y2 y3))])
    have hI9 : iOk (sL d (m_la (ga_pitch d y1 y2 y3) (gb_pitch d y1 y2 y3) (gc_pitch d y1 y2 y3))) (100 * (k + 1)) := by rw [show 100 * (k + 1) = 100 * k + 100 by omega]; exact iOk_l hI _
    refine lv_istore (lv' := [(5, .int (m_la (ga_pitch d y1 y2 y3) (gb_pitch d y1 y2 y3) (gc_pitch d y1 y2 y3))), (4, .int (nI (6 * k))), (0, .ref b), (1, .ref (ca 0)), (2, .ref (ad 0)), (3, .ref oa)]) hx hb dL_law_1132 hl (by decide) rfl (fun ls hl => ?_)
    refine lv_aload_n hx hb dL_law_1134 rfl (lv_at hl 4 rfl) ?_
    refine lv_aload_n hx hb dL_law_1135 rfl (lv_at hl 2 rfl) ?_
    refine lv_iload hx hb dL_law_1136 (lv_at hl 1 rfl) ?_
    refine lv_iconst (v := 1) hx hb dL_law_1138 (by decide) ?_
    refine lv_iadd hx hb dL_law_1139 ?_
    rw [show nI (6 * k) + 1 = nI (6 * k + 1) from nI_add _ _]
    refine va_sld (xs := xs) hx hb hX hbl hbA hG.2.2 (vp_in_nI (by omega) (by omega)) dL_law_1140 ?_
    rw [← ey1]
    refine lv_aload_n hx hb dL_law_1141 rfl (lv_at hl 2 rfl) ?_
    refine lv_iload hx hb dL_law_1142 (lv_at hl 1 rfl) ?_
    refine lv_iconst (v := 2) hx hb dL_law_1144 (by decide) ?_
    refine lv_iadd hx hb dL_law_1145 ?_
    rw [show nI (6 * k) + 2 = nI (6 * k + 2) from nI_add _ _]
    refine va_sld (xs := xs) hx hb hX hbl hbA hG.2.2 (vp_in_nI (by omega) (by omega)) dL_law_1146 ?_
    rw [← ey2]
    refine lv_aload_n hx hb dL_law_1147 rfl (lv_at hl 2 rfl) ?_
    refine lv_iload hx hb dL_law_1148 (lv_at hl 1 rfl) ?_
    refine lv_iconst (v := 3) hx hb dL_law_1150 (by decide) ?_
    refine lv_iadd hx hb dL_law_1151 ?_
    rw [show nI (6 * k) + 3 = nI (6 * k + 3) from nI_add _ _]
    refine va_sld (xs := xs) hx hb hX hbl hbA hG.2.2 (vp_in_nI (by omega) (by omega)) dL_law_1152 ?_
    rw [← ey3]
    refine g_callV (rest := []) (As := [.int y1, .int y2, .int y3]) hE hG hl.1 (c_X6_pitch l hfl D tc A w9 ad d tk st y1 y2 y3 hM9 hOk) z1000 rfl mw4_135 mw4_136 mw4_137 mw1_4 mw4_138 rfl nm_X6_pitch ⟨⟨Nat.le_of_ble_eq_true rfl, Nat.le_of_ble_eq_true rfl⟩, (by show 100 + 40 * k + 40 + 0 ≤ 601024; omega), (by show 5000 + 400 * k + 400 + 0 ≤ 7293034; omega)⟩ rfl rfl (Nat.le_of_ble_eq_true rfl) dL_law_1153 (g_no) ?_
    intro v8 w8 H locs h8 hG
    rcases h8 with ⟨-, ⟨r8, e8⟩, hM8, hF8⟩ | ⟨hg8, -⟩
    rotate_left
    · exact absurd hgo hg8
    rw [e8]; clear e8
    have hC8 : cW tc w8 ca (sL d (m_la (ga_pitch d y1 y2 y3) (gb_pitch d y1 y2 y3) (gc_pitch d y1 y2 y3))) tk st := cW_cg (cW_l hC9 _) hI9.1 (fun q h1 _ => hF8 q h1)
    have h78 := (hF8 7 (by omega)).trans h79
    have z8 := hM8.1
    show W p l e _ s m args below meth c H locs _ _ _ (F0 m 1156 ls [.int r8])
    refine lv_istore (lv' := [(6, .int r8), (5, .int (m_la (ga_pitch d y1 y2 y3) (gb_pitch d y1 y2 y3) (gc_pitch d y1 y2 y3))), (4, .int (nI (6 * k))), (0, .ref b), (1, .ref (ca 0)), (2, .ref (ad 0)), (3, .ref oa)]) hx hb dL_law_1156 hl (by decide) rfl (fun ls hl => ?_)
    refine lv_aload_n hx hb dL_law_1158 rfl (lv_at hl 5 rfl) ?_
    refine g_callV (rest := []) (As := []) hE hG hl.1 (c_X6_thrown l hfl D tc A w8 ad (sL d (m_la (ga_pitch d y1 y2 y3) (gb_pitch d y1 y2 y3) (gc_pitch d y1 y2 y3))) tk st hM8) z8 rfl mw4_27 mw4_28 mw4_29 mw1_4 mw4_30 rfl nm_X6_thrown ⟨⟨Nat.le_of_ble_eq_true rfl, Nat.le_of_ble_eq_true rfl⟩, (by show 100 + 40 * k + 40 + 0 + 0 ≤ 601024; omega), (by show 5000 + 400 * k + 400 + 0 + 0 ≤ 7293034; omega)⟩ rfl rfl (Nat.le_of_ble_eq_true rfl) dL_law_1159 (g_no) ?_
    intro v6 w6 H locs h6 hG
    obtain ⟨e6, f6⟩ := h6
    rw [f6] at hG; rw [e6, show (sL d (m_la (ga_pitch d y1 y2 y3) (gb_pitch d y1 y2 y3) (gc_pitch d y1 y2 y3))) 9 14 = (m_la (ga_pitch d y1 y2 y3) (gb_pitch d y1 y2 y3) (gc_pitch d y1 y2 y3)) from rfl]; clear e6 f6
    show W p l e _ s m args below meth c H locs _ _ _ (F0 m 1162 ls [.int (m_la (ga_pitch d y1 y2 y3) (gb_pitch d y1 y2 y3) (gc_pitch d y1 y2 y3))])
    refine lv_iload hx hb dL_law_1162 (lv_at hl 1 rfl) ?_
    refine lv_icmp_eq (tgt := 1169) hx hb dL_law_1164 (by decide) (fun c9 => ?_) (fun c9 => (c9 rfl).elim)
    refine lv_iload hx hb dL_law_1169 (lv_at hl 1 rfl) ?_
    refine lv_if_ne (tgt := 1186) hx hb dL_law_1171 (by decide) (fun c9 => ?_) (fun c9 => absurd c9 (la_ne hgo))
    refine lv_goto (tgt := 1825) hx hb dL_law_1186 (by decide) ?_
    refine lv_iinc (v := (nI (6 * (k + 1)))) (lv' := [(4, .int (nI (6 * (k + 1)))), (6, .int r8), (5, .int (m_la (ga_pitch d y1 y2 y3) (gb_pitch d y1 y2 y3) (gc_pitch d y1 y2 y3))), (0, .ref b), (1, .ref (ca 0)), (2, .ref (ad 0)), (3, .ref oa)]) hx hb dL_law_1825 hl (k := 2) rfl (by rw [show 6 * (k + 1) = 6 * k + 6 by omega]; exact nI_add (6 * k) 6) (by decide) rfl (fun ls hl => ?_)
    refine lv_goto (tgt := 23) hx hb dL_law_1828 (by decide) ?_
    refine W.widen (k := 100 + 40 * (k + 1)) (n := 5000 + 400 * (k + 1)) (by show 100 + 40 * k + 40 + 0 + 0 ≤ _; omega) (by show 5000 + 400 * k + 400 + 0 + 0 ≤ _; omega) ?_
    exact ih ca ad (sL d (m_la (ga_pitch d y1 y2 y3) (gb_pitch d y1 y2 y3) (gc_pitch d y1 y2 y3))) tk st of9 w8 _ _ _ hC8 hM8 hI9 h78 hG (lv_sub hl [0, 3, 4, 5, 6] rfl)
  · skip
    rw [e9]; clear e9
    have z1000 := hM9.1
    show W p l e _ s m args below meth c H locs _ _ _ (F0 m 1132 ls [.int 0])
    have hI9 : iOk (sL (gD d 4 (upd (d 4) (8 * y1 + y2).toNatClampNeg y3)) 0) (100 * (k + 1)) := by rw [show 100 * (k + 1) = 100 * k + 100 by omega]; exact I_pitch hI hgo
    refine lv_istore (lv' := [(5, .int 0), (4, .int (nI (6 * k))), (0, .ref b), (1, .ref (ca 0)), (2, .ref (ad 0)), (3, .ref oa)]) hx hb dL_law_1132 hl (by decide) rfl (fun ls hl => ?_)
    refine lv_aload_n hx hb dL_law_1134 rfl (lv_at hl 4 rfl) ?_
    refine lv_aload_n hx hb dL_law_1135 rfl (lv_at hl 2 rfl) ?_
    refine lv_iload hx hb dL_law_1136 (lv_at hl 1 rfl) ?_
    refine lv_iconst (v := 1) hx hb dL_law_1138 (by decide) ?_
    refine lv_iadd hx hb dL_law_1139 ?_
    rw [show nI (6 * k) + 1 = nI (6 * k + 1) from nI_add _ _]
    refine va_sld (xs := xs) hx hb hX hbl hbA hG.2.2 (vp_in_nI (by omega) (by omega)) dL_law_1140 ?_
    rw [← ey1]
    refine lv_aload_n hx hb dL_law_1141 rfl (lv_at hl 2 rfl) ?_
    refine lv_iload hx hb dL_law_1142 (lv_at hl 1 rfl) ?_
    refine lv_iconst (v := 2) hx hb dL_law_1144 (by decide) ?_
    refine lv_iadd hx hb dL_law_1145 ?_
    rw [show nI (6 * k) + 2 = nI (6 * k + 2) from nI_add _ _]
    refine va_sld (xs := xs) hx hb hX hbl hbA hG.2.2 (vp_in_nI (by omega) (by omega)) dL_law_1146 ?_
    rw [← ey2]
    refine lv_aload_n hx hb dL_law_1147 rfl (lv_at hl 2 rfl) ?_
    refine lv_iload hx hb dL_law_1148 (lv_at hl 1 rfl) ?_
    refine lv_iconst (v := 3) hx hb dL_law_1150 (by decide) ?_
    refine lv_iadd hx hb dL_law_1151 ?_
    rw [show nI (6 * k) + 3 = nI (6 * k + 3) from nI_add _ _]
    refine va_sld (xs := xs) hx hb hX hbl hbA hG.2.2 (vp_in_nI (by omega) (by omega)) dL_law_1152 ?_
    rw [← ey3]
    refine g_callV (rest := []) (As := [.int y1, .int y2, .int y3]) hE hG hl.1 (c_X6_pitch l hfl D tc A w9 ad d tk st y1 y2 y3 hM9 hOk) z1000 rfl mw4_135 mw4_136 mw4_137 mw1_4 mw4_138 rfl nm_X6_pitch ⟨⟨Nat.le_of_ble_eq_true rfl, Nat.le_of_ble_eq_true rfl⟩, (by show 100 + 40 * k + 40 + 0 ≤ 601024; omega), (by show 5000 + 400 * k + 400 + 0 ≤ 7293034; omega)⟩ rfl rfl (Nat.le_of_ble_eq_true rfl) dL_law_1153 (g_no) ?_
    intro v8 w8 H locs h8 hG
    rcases h8 with ⟨hg8, -⟩ | ⟨-, e8, hM8, hF8⟩
    · exact absurd hg8 hgo
    rw [e8]; clear e8
    have hC8 : cW tc w8 ca9 (sL (gD d 4 (upd (d 4) (8 * y1 + y2).toNatClampNeg y3)) 0) tk st := cW_cg (hC9) hI9.1 (fun q h1 _ => hF8 q h1)
    have h78 := (hF8 7 (by omega)).trans h79
    have z8 := hM8.1
    show W p l e _ s m args below meth c H locs _ _ _ (F0 m 1156 ls [.int (d 4 (8 * y1 + y2).toNatClampNeg)])
    refine lv_istore (lv' := [(6, .int (d 4 (8 * y1 + y2).toNatClampNeg)), (5, .int 0), (4, .int (nI (6 * k))), (0, .ref b), (1, .ref (ca 0)), (2, .ref (ad 0)), (3, .ref oa)]) hx hb dL_law_1156 hl (by decide) rfl (fun ls hl => ?_)
    refine lv_aload_n hx hb dL_law_1158 rfl (lv_at hl 5 rfl) ?_
    refine g_callV (rest := []) (As := []) hE hG hl.1 (c_X6_thrown l hfl D tc A w8 ad (sL (gD d 4 (upd (d 4) (8 * y1 + y2).toNatClampNeg y3)) 0) tk st hM8) z8 rfl mw4_27 mw4_28 mw4_29 mw1_4 mw4_30 rfl nm_X6_thrown ⟨⟨Nat.le_of_ble_eq_true rfl, Nat.le_of_ble_eq_true rfl⟩, (by show 100 + 40 * k + 40 + 0 + 0 ≤ 601024; omega), (by show 5000 + 400 * k + 400 + 0 + 0 ≤ 7293034; omega)⟩ rfl rfl (Nat.le_of_ble_eq_true rfl) dL_law_1159 (g_no) ?_
    intro v6 w6 H locs h6 hG
    obtain ⟨e6, f6⟩ := h6
    rw [f6] at hG; rw [e6, show (sL (gD d 4 (upd (d 4) (8 * y1 + y2).toNatClampNeg y3)) 0) 9 14 = 0 from rfl]; clear e6 f6
    show W p l e _ s m args below meth c H locs _ _ _ (F0 m 1162 ls [.int 0])
    refine lv_iload hx hb dL_law_1162 (lv_at hl 1 rfl) ?_
    refine lv_icmp_eq (tgt := 1169) hx hb dL_law_1164 (by decide) (fun _ => ?_) (fun c9 => (c9 (by decide)).elim)
    refine lv_iload hx hb dL_law_1169 (lv_at hl 1 rfl) ?_
    refine lv_if_ne (tgt := 1186) hx hb dL_law_1171 (by decide) (fun c9 => (c9 (by decide)).elim) (fun _ => ?_)
    refine lv_aload_n hx hb dL_law_1174 rfl (lv_at hl 6 rfl) ?_
    refine lv_iconst (v := 0) hx hb dL_law_1175 (by decide) ?_
    refine g_lald hE hG h78 (vp_in_nI (n := 0) (N := 1) (by decide) (by decide)) dL_law_1176 ?_
    rw [show of9 (0 : Int32).toNatClampNeg = (d 4 (8 * y1 + y2).toNatClampNeg).toInt64 from hof]
    refine lv_iload hx hb dL_law_1177 (lv_at hl 0 rfl) ?_
    refine lv_i2l (v := (d 4 (8 * y1 + y2).toNatClampNeg).toInt64) hx hb dL_law_1179 rfl ?_
    refine W.lcmp hx hb dL_law_1180 ?_
    refine lv_if_eq (tgt := 1186) hx hb dL_law_1181 (by decide) (fun c9 => ?_) (fun c9 => (c9 (lg_self _)).elim)
    refine lv_goto (tgt := 1825) hx hb dL_law_1186 (by decide) ?_
    refine lv_iinc (v := (nI (6 * (k + 1)))) (lv' := [(4, .int (nI (6 * (k + 1)))), (6, .int (d 4 (8 * y1 + y2).toNatClampNeg)), (5, .int 0), (0, .ref b), (1, .ref (ca 0)), (2, .ref (ad 0)), (3, .ref oa)]) hx hb dL_law_1825 hl (k := 2) rfl (by rw [show 6 * (k + 1) = 6 * k + 6 by omega]; exact nI_add (6 * k) 6) (by decide) rfl (fun ls hl => ?_)
    refine lv_goto (tgt := 23) hx hb dL_law_1828 (by decide) ?_
    refine W.widen (k := 100 + 40 * (k + 1)) (n := 5000 + 400 * (k + 1)) (by show 100 + 40 * k + 40 + 0 + 0 ≤ _; omega) (by show 5000 + 400 * k + 400 + 0 + 0 ≤ _; omega) ?_
    exact ih ca9 ad (sL (gD d 4 (upd (d 4) (8 * y1 + y2).toNatClampNeg y3)) 0) tk st of9 w8 _ _ _ hC8 hM8 hI9 h78 hG (by rw [hca9]; exact lv_sub hl [0, 3, 4, 5, 6] rfl)
set_option maxHeartbeats 4000000 in
set_option maxRecDepth 100000 in
theorem lc_drift {p : Program} {l : Launch} {e : Env} {s : State} {m : MethodId} {args : Array Value} {below : List Frame} {meth : Method} {c : Code} {Q : State → Prop} (hfl : l.stackTraces = false) {D : va_G} {tc : Nat → ClassId} {A : Nat → Prop} {b L : Nat} {xs : Nat → Int32} {oa k : Nat} (hE : gE p l s m args meth c code 8 RL D tc A) (hX : va_X b L xs s s.heap) (hbl : b < s.heap.size) (hbA : ¬ A b) (hL : L ≤ 3072) (hk : 6 * k + 6 ≤ L) (ih : gLoop p l e s m args below meth c Q D tc A b oa (k + 1)) (ca ad : Nat → Nat) (d : gDt) (tk : Int64) (st of : Nat → Int64) (w : gW) (H : Heap) (locs : List Loc) (ls : Array Slot) (hC : cW tc w ca d tk st) (hM : mW tc w ad d tk st) (hI : iOk d (100 * k)) (h7 : w 7 = some (oa, .inl (tc 1, 1, .inr (.inl of)))) (hG : gS D A s.heap w H locs) (hl : lv_has ls 8 [(4, .int (nI (6 * k))), (0, .ref b), (1, .ref (ca 0)), (2, .ref (ad 0)), (3, .ref oa)]) : W p l e room_1 s m args below meth c H locs (100 + 40 * k) (5000 + 400 * k) Q (F0 m 1189 ls []) := by
  have hx := hE.1
  have hb := hE.2.1
  obtain ⟨hOk, hF, hT, hpO, hrO, hj⟩ := id hI
  have z0 := hC.1.1
  have zm := hM.1
  obtain ⟨y1, ey1⟩ : ∃ y, y = xs (nI (6 * k + 1)).toNatClampNeg := ⟨_, rfl⟩
  obtain ⟨y2, ey2⟩ : ∃ y, y = xs (nI (6 * k + 2)).toNatClampNeg := ⟨_, rfl⟩
  obtain ⟨y3, ey3⟩ : ∃ y, y = xs (nI (6 * k + 3)).toNatClampNeg := ⟨_, rfl⟩
  obtain ⟨y4, ey4⟩ : ∃ y, y = xs (nI (6 * k + 4)).toNatClampNeg := ⟨_, rfl⟩
  obtain ⟨y5, ey5⟩ : ∃ y, y = xs (nI (6 * k + 5)).toNatClampNeg := ⟨_, rfl⟩
  refine lv_aload_n hx hb dL_law_1189 rfl (lv_at hl 2 rfl) ?_
  refine lv_aload_n hx hb dL_law_1190 rfl (lv_at hl 1 rfl) ?_
  refine lv_iload hx hb dL_law_1191 (lv_at hl 0 rfl) ?_
  refine lv_iconst (v := 1) hx hb dL_law_1193 (by decide) ?_
  refine lv_iadd hx hb dL_law_1194 ?_
  rw [show nI (6 * k) + 1 = nI (6 * k + 1) from nI_add _ _]
  refine va_sld (xs := xs) hx hb hX hbl hbA hG.2.2 (vp_in_nI (by omega) (by omega)) dL_law_1195 ?_
  rw [← ey1]
  refine lv_aload_n hx hb dL_law_1196 rfl (lv_at hl 1 rfl) ?_
  refine lv_iload hx hb dL_law_1197 (lv_at hl 0 rfl) ?_
  refine lv_iconst (v := 2) hx hb dL_law_1199 (by decide) ?_
  refine lv_iadd hx hb dL_law_1200 ?_
  rw [show nI (6 * k) + 2 = nI (6 * k + 2) from nI_add _ _]
  refine va_sld (xs := xs) hx hb hX hbl hbA hG.2.2 (vp_in_nI (by omega) (by omega)) dL_law_1201 ?_
  rw [← ey2]
  refine lv_aload_n hx hb dL_law_1202 rfl (lv_at hl 4 rfl) ?_
  refine g_callSH (rest := []) (As := [.ref (ca 0), .int y1, .int y2, .ref oa]) hE hG hl.1 (c_L_drift l hfl D tc A w ca d tk st y1 y2 oa of (100 * k) hC hI (by omega) h7) mw3_29 mw3_30 mw1_0 mw3_31 nm_L_drift ⟨⟨Nat.le_of_ble_eq_true rfl, Nat.le_of_ble_eq_true rfl⟩, (by show 100 + 40 * k + 40 ≤ 601024; omega), (by show 5000 + 400 * k + 400 ≤ 7293034; omega)⟩ rfl rfl (Nat.le_of_ble_eq_true rfl) dL_law_1203 (g_no) ?_
  intro v9 w9 H locs h9 hG
  obtain ⟨hgl, of9, h79, hd⟩ := h9
  have hM9 := mW_cg hM hgl
  rcases hd with ⟨hgo, e9, hC9⟩ | ⟨hgo, e9, hof, ca9, hca9, hC9⟩
  · skip
    rw [e9]; clear e9
    have z1000 := hM9.1
    show W p l e _ s m args below meth c H locs _ _ _ (F0 m 1206 ls [.int (m_la (ga_drift d y1 y2) (gb_drift d y1 y2) (gc_drift d y1 y2))])
    have hI9 : iOk (sL d (m_la (ga_drift d y1 y2) (gb_drift d y1 y2) (gc_drift d y1 y2))) (100 * (k + 1)) := by rw [show 100 * (k + 1) = 100 * k + 100 by omega]; exact iOk_l hI _
    refine lv_istore (lv' := [(5, .int (m_la (ga_drift d y1 y2) (gb_drift d y1 y2) (gc_drift d y1 y2))), (4, .int (nI (6 * k))), (0, .ref b), (1, .ref (ca 0)), (2, .ref (ad 0)), (3, .ref oa)]) hx hb dL_law_1206 hl (by decide) rfl (fun ls hl => ?_)
    refine lv_aload_n hx hb dL_law_1208 rfl (lv_at hl 4 rfl) ?_
    refine lv_aload_n hx hb dL_law_1209 rfl (lv_at hl 2 rfl) ?_
    refine lv_iload hx hb dL_law_1210 (lv_at hl 1 rfl) ?_
    refine lv_iconst (v := 1) hx hb dL_law_1212 (by decide) ?_
    refine lv_iadd hx hb dL_law_1213 ?_
    rw [show nI (6 * k) + 1 = nI (6 * k + 1) from nI_add _ _]
    refine va_sld (xs := xs) hx hb hX hbl hbA hG.2.2 (vp_in_nI (by omega) (by omega)) dL_law_1214 ?_
    rw [← ey1]
    refine lv_aload_n hx hb dL_law_1215 rfl (lv_at hl 2 rfl) ?_
    refine lv_iload hx hb dL_law_1216 (lv_at hl 1 rfl) ?_
    refine lv_iconst (v := 2) hx hb dL_law_1218 (by decide) ?_
    refine lv_iadd hx hb dL_law_1219 ?_
    rw [show nI (6 * k) + 2 = nI (6 * k + 2) from nI_add _ _]
    refine va_sld (xs := xs) hx hb hX hbl hbA hG.2.2 (vp_in_nI (by omega) (by omega)) dL_law_1220 ?_
    rw [← ey2]
    refine g_callV (rest := []) (As := [.int y1, .int y2]) hE hG hl.1 (c_X6_drift l hfl D tc A w9 ad d tk st y1 y2 hM9 hOk) z1000 rfl mw4_143 mw4_144 mw4_145 mw1_4 mw4_146 rfl nm_X6_drift ⟨⟨Nat.le_of_ble_eq_true rfl, Nat.le_of_ble_eq_true rfl⟩, (by show 100 + 40 * k + 40 + 0 ≤ 601024; omega), (by show 5000 + 400 * k + 400 + 0 ≤ 7293034; omega)⟩ rfl rfl (Nat.le_of_ble_eq_true rfl) dL_law_1221 (g_no) ?_
    intro v8 w8 H locs h8 hG
    rcases h8 with ⟨-, ⟨r8, e8⟩, hM8, hF8⟩ | ⟨hg8, -⟩
    rotate_left
    · exact absurd hgo hg8
    rw [e8]; clear e8
    have hC8 : cW tc w8 ca (sL d (m_la (ga_drift d y1 y2) (gb_drift d y1 y2) (gc_drift d y1 y2))) tk st := cW_cg (cW_l hC9 _) hI9.1 (fun q h1 _ => hF8 q h1)
    have h78 := (hF8 7 (by omega)).trans h79
    have z8 := hM8.1
    show W p l e _ s m args below meth c H locs _ _ _ (F0 m 1224 ls [.int r8])
    refine lv_istore (lv' := [(6, .int r8), (5, .int (m_la (ga_drift d y1 y2) (gb_drift d y1 y2) (gc_drift d y1 y2))), (4, .int (nI (6 * k))), (0, .ref b), (1, .ref (ca 0)), (2, .ref (ad 0)), (3, .ref oa)]) hx hb dL_law_1224 hl (by decide) rfl (fun ls hl => ?_)
    refine lv_aload_n hx hb dL_law_1226 rfl (lv_at hl 5 rfl) ?_
    refine g_callV (rest := []) (As := []) hE hG hl.1 (c_X6_thrown l hfl D tc A w8 ad (sL d (m_la (ga_drift d y1 y2) (gb_drift d y1 y2) (gc_drift d y1 y2))) tk st hM8) z8 rfl mw4_27 mw4_28 mw4_29 mw1_4 mw4_30 rfl nm_X6_thrown ⟨⟨Nat.le_of_ble_eq_true rfl, Nat.le_of_ble_eq_true rfl⟩, (by show 100 + 40 * k + 40 + 0 + 0 ≤ 601024; omega), (by show 5000 + 400 * k + 400 + 0 + 0 ≤ 7293034; omega)⟩ rfl rfl (Nat.le_of_ble_eq_true rfl) dL_law_1227 (g_no) ?_
    intro v6 w6 H locs h6 hG
    obtain ⟨e6, f6⟩ := h6
    rw [f6] at hG; rw [e6, show (sL d (m_la (ga_drift d y1 y2) (gb_drift d y1 y2) (gc_drift d y1 y2))) 9 14 = (m_la (ga_drift d y1 y2) (gb_drift d y1 y2) (gc_drift d y1 y2)) from rfl]; clear e6 f6
    show W p l e _ s m args below meth c H locs _ _ _ (F0 m 1230 ls [.int (m_la (ga_drift d y1 y2) (gb_drift d y1 y2) (gc_drift d y1 y2))])
    refine lv_iload hx hb dL_law_1230 (lv_at hl 1 rfl) ?_
    refine lv_icmp_eq (tgt := 1237) hx hb dL_law_1232 (by decide) (fun c9 => ?_) (fun c9 => (c9 rfl).elim)
    refine lv_iload hx hb dL_law_1237 (lv_at hl 1 rfl) ?_
    refine lv_if_ne (tgt := 1254) hx hb dL_law_1239 (by decide) (fun c9 => ?_) (fun c9 => absurd c9 (la_ne hgo))
    refine lv_goto (tgt := 1825) hx hb dL_law_1254 (by decide) ?_
    refine lv_iinc (v := (nI (6 * (k + 1)))) (lv' := [(4, .int (nI (6 * (k + 1)))), (6, .int r8), (5, .int (m_la (ga_drift d y1 y2) (gb_drift d y1 y2) (gc_drift d y1 y2))), (0, .ref b), (1, .ref (ca 0)), (2, .ref (ad 0)), (3, .ref oa)]) hx hb dL_law_1825 hl (k := 2) rfl (by rw [show 6 * (k + 1) = 6 * k + 6 by omega]; exact nI_add (6 * k) 6) (by decide) rfl (fun ls hl => ?_)
    refine lv_goto (tgt := 23) hx hb dL_law_1828 (by decide) ?_
    refine W.widen (k := 100 + 40 * (k + 1)) (n := 5000 + 400 * (k + 1)) (by show 100 + 40 * k + 40 + 0 + 0 ≤ _; omega) (by show 5000 + 400 * k + 400 + 0 + 0 ≤ _; omega) ?_
    exact ih ca ad (sL d (m_la (ga_drift d y1 y2) (gb_drift d y1 y2) (gc_drift d y1 y2))) tk st of9 w8 _ _ _ hC8 hM8 hI9 h78 hG (lv_sub hl [0, 3, 4, 5, 6] rfl)
  · skip
    rw [e9]; clear e9
    have z1000 := hM9.1
    show W p l e _ s m args below meth c H locs _ _ _ (F0 m 1206 ls [.int 0])
    have hI9 : iOk (sL (gD d 5 (upd (d 5) y1.toNatClampNeg y2)) 0) (100 * (k + 1)) := by rw [show 100 * (k + 1) = 100 * k + 100 by omega]; exact I_drift hI hgo
    refine lv_istore (lv' := [(5, .int 0), (4, .int (nI (6 * k))), (0, .ref b), (1, .ref (ca 0)), (2, .ref (ad 0)), (3, .ref oa)]) hx hb dL_law_1206 hl (by decide) rfl (fun ls hl => ?_)
    refine lv_aload_n hx hb dL_law_1208 rfl (lv_at hl 4 rfl) ?_
    refine lv_aload_n hx hb dL_law_1209 rfl (lv_at hl 2 rfl) ?_
    refine lv_iload hx hb dL_law_1210 (lv_at hl 1 rfl) ?_
    refine lv_iconst (v := 1) hx hb dL_law_1212 (by decide) ?_
    refine lv_iadd hx hb dL_law_1213 ?_
    rw [show nI (6 * k) + 1 = nI (6 * k + 1) from nI_add _ _]
    refine va_sld (xs := xs) hx hb hX hbl hbA hG.2.2 (vp_in_nI (by omega) (by omega)) dL_law_1214 ?_
    rw [← ey1]
    refine lv_aload_n hx hb dL_law_1215 rfl (lv_at hl 2 rfl) ?_
    refine lv_iload hx hb dL_law_1216 (lv_at hl 1 rfl) ?_
    refine lv_iconst (v := 2) hx hb dL_law_1218 (by decide) ?_
    refine lv_iadd hx hb dL_law_1219 ?_
    rw [show nI (6 * k) + 2 = nI (6 * k + 2) from nI_add _ _]
    refine va_sld (xs := xs) hx hb hX hbl hbA hG.2.2 (vp_in_nI (by omega) (by omega)) dL_law_1220 ?_
    rw [← ey2]
    refine g_callV (rest := []) (As := [.int y1, .int y2]) hE hG hl.1 (c_X6_drift l hfl D tc A w9 ad d tk st y1 y2 hM9 hOk) z1000 rfl mw4_143 mw4_144 mw4_145 mw1_4 mw4_146 rfl nm_X6_drift ⟨⟨Nat.le_of_ble_eq_true rfl, Nat.le_of_ble_eq_true rfl⟩, (by show 100 + 40 * k + 40 + 0 ≤ 601024; omega), (by show 5000 + 400 * k + 400 + 0 ≤ 7293034; omega)⟩ rfl rfl (Nat.le_of_ble_eq_true rfl) dL_law_1221 (g_no) ?_
    intro v8 w8 H locs h8 hG
    rcases h8 with ⟨hg8, -⟩ | ⟨-, e8, hM8, hF8⟩
    · exact absurd hg8 hgo
    rw [e8]; clear e8
    have hC8 : cW tc w8 ca9 (sL (gD d 5 (upd (d 5) y1.toNatClampNeg y2)) 0) tk st := cW_cg (hC9) hI9.1 (fun q h1 _ => hF8 q h1)
    have h78 := (hF8 7 (by omega)).trans h79
    have z8 := hM8.1
    show W p l e _ s m args below meth c H locs _ _ _ (F0 m 1224 ls [.int (d 5 y1.toNatClampNeg)])
    refine lv_istore (lv' := [(6, .int (d 5 y1.toNatClampNeg)), (5, .int 0), (4, .int (nI (6 * k))), (0, .ref b), (1, .ref (ca 0)), (2, .ref (ad 0)), (3, .ref oa)]) hx hb dL_law_1224 hl (by decide) rfl (fun ls hl => ?_)
    refine lv_aload_n hx hb dL_law_1226 rfl (lv_at hl 5 rfl) ?_
    refine g_callV (rest := []) (As := []) hE hG hl.1 (c_X6_thrown l hfl D tc A w8 ad (sL (gD d 5 (upd (d 5) y1.toNatClampNeg y2)) 0) tk st hM8) z8 rfl mw4_27 mw4_28 mw4_29 mw1_4 mw4_30 rfl nm_X6_thrown ⟨⟨Nat.le_of_ble_eq_true rfl, Nat.le_of_ble_eq_true rfl⟩, (by show 100 + 40 * k + 40 + 0 + 0 ≤ 601024; omega), (by show 5000 + 400 * k + 400 + 0 + 0 ≤ 7293034; omega)⟩ rfl rfl (Nat.le_of_ble_eq_true rfl) dL_law_1227 (g_no) ?_
    intro v6 w6 H locs h6 hG
    obtain ⟨e6, f6⟩ := h6
    rw [f6] at hG; rw [e6, show (sL (gD d 5 (upd (d 5) y1.toNatClampNeg y2)) 0) 9 14 = 0 from rfl]; clear e6 f6
    show W p l e _ s m args below meth c H locs _ _ _ (F0 m 1230 ls [.int 0])
    refine lv_iload hx hb dL_law_1230 (lv_at hl 1 rfl) ?_
    refine lv_icmp_eq (tgt := 1237) hx hb dL_law_1232 (by decide) (fun _ => ?_) (fun c9 => (c9 (by decide)).elim)
    refine lv_iload hx hb dL_law_1237 (lv_at hl 1 rfl) ?_
    refine lv_if_ne (tgt := 1254) hx hb dL_law_1239 (by decide) (fun c9 => (c9 (by decide)).elim) (fun _ => ?_)
    refine lv_aload_n hx hb dL_law_1242 rfl (lv_at hl 6 rfl) ?_
    refine lv_iconst (v := 0) hx hb dL_law_1243 (by decide) ?_
    refine g_lald hE hG h78 (vp_in_nI (n := 0) (N := 1) (by decide) (by decide)) dL_law_1244 ?_
    rw [show of9 (0 : Int32).toNatClampNeg = (d 5 y1.toNatClampNeg).toInt64 from hof]
    refine lv_iload hx hb dL_law_1245 (lv_at hl 0 rfl) ?_
    refine lv_i2l (v := (d 5 y1.toNatClampNeg).toInt64) hx hb dL_law_1247 rfl ?_
    refine W.lcmp hx hb dL_law_1248 ?_
    refine lv_if_eq (tgt := 1254) hx hb dL_law_1249 (by decide) (fun c9 => ?_) (fun c9 => (c9 (lg_self _)).elim)
    refine lv_goto (tgt := 1825) hx hb dL_law_1254 (by decide) ?_
    refine lv_iinc (v := (nI (6 * (k + 1)))) (lv' := [(4, .int (nI (6 * (k + 1)))), (6, .int (d 5 y1.toNatClampNeg)), (5, .int 0), (0, .ref b), (1, .ref (ca 0)), (2, .ref (ad 0)), (3, .ref oa)]) hx hb dL_law_1825 hl (k := 2) rfl (by rw [show 6 * (k + 1) = 6 * k + 6 by omega]; exact nI_add (6 * k) 6) (by decide) rfl (fun ls hl => ?_)
    refine lv_goto (tgt := 23) hx hb dL_law_1828 (by decide) ?_
    refine W.widen (k := 100 + 40 * (k + 1)) (n := 5000 + 400 * (k + 1)) (by show 100 + 40 * k + 40 + 0 + 0 ≤ _; omega) (by show 5000 + 400 * k + 400 + 0 + 0 ≤ _; omega) ?_
    exact ih ca9 ad (sL (gD d 5 (upd (d 5) y1.toNatClampNeg y2)) 0) tk st of9 w8 _ _ _ hC8 hM8 hI9 h78 hG (by rw [hca9]; exact lv_sub hl [0, 3, 4, 5, 6] rfl)
set_option maxHeartbeats 4000000 in
set_option maxRecDepth 100000 in
theorem lc_years {p : Program} {l : Launch} {e : Env} {s : State} {m : MethodId} {args : Array Value} {below : List Frame} {meth : Method} {c : Code} {Q : State → Prop} (hfl : l.stackTraces = false) {D : va_G} {tc : Nat → ClassId} {A : Nat → Prop} {b L : Nat} {xs : Nat → Int32} {oa k : Nat} (hE : gE p l s m args meth c code 8 RL D tc A) (hX : va_X b L xs s s.heap) (hbl : b < s.heap.size) (hbA : ¬ A b) (hL : L ≤ 3072) (hk : 6 * k + 6 ≤ L) (ih : gLoop p l e s m args below meth c Q D tc A b oa (k + 1)) (ca ad : Nat → Nat) (d : gDt) (tk : Int64) (st of : Nat → Int64) (w : gW) (H : Heap) (locs : List Loc) (ls : Array Slot) (hC : cW tc w ca d tk st) (hM : mW tc w ad d tk st) (hI : iOk d (100 * k)) (h7 : w 7 = some (oa, .inl (tc 1, 1, .inr (.inl of)))) (hG : gS D A s.heap w H locs) (hl : lv_has ls 8 [(4, .int (nI (6 * k))), (0, .ref b), (1, .ref (ca 0)), (2, .ref (ad 0)), (3, .ref oa)]) : W p l e room_1 s m args below meth c H locs (100 + 40 * k) (5000 + 400 * k) Q (F0 m 1257 ls []) := by
  have hx := hE.1
  have hb := hE.2.1
  obtain ⟨hOk, hF, hT, hpO, hrO, hj⟩ := id hI
  have z0 := hC.1.1
  have zm := hM.1
  obtain ⟨y1, ey1⟩ : ∃ y, y = xs (nI (6 * k + 1)).toNatClampNeg := ⟨_, rfl⟩
  obtain ⟨y2, ey2⟩ : ∃ y, y = xs (nI (6 * k + 2)).toNatClampNeg := ⟨_, rfl⟩
  obtain ⟨y3, ey3⟩ : ∃ y, y = xs (nI (6 * k + 3)).toNatClampNeg := ⟨_, rfl⟩
  obtain ⟨y4, ey4⟩ : ∃ y, y = xs (nI (6 * k + 4)).toNatClampNeg := ⟨_, rfl⟩
  obtain ⟨y5, ey5⟩ : ∃ y, y = xs (nI (6 * k + 5)).toNatClampNeg := ⟨_, rfl⟩
  refine lv_aload_n hx hb dL_law_1257 rfl (lv_at hl 2 rfl) ?_
  refine lv_aload_n hx hb dL_law_1258 rfl (lv_at hl 1 rfl) ?_
  refine lv_iload hx hb dL_law_1259 (lv_at hl 0 rfl) ?_
  refine lv_iconst (v := 1) hx hb dL_law_1261 (by decide) ?_
  refine lv_iadd hx hb dL_law_1262 ?_
  rw [show nI (6 * k) + 1 = nI (6 * k + 1) from nI_add _ _]
  refine va_sld (xs := xs) hx hb hX hbl hbA hG.2.2 (vp_in_nI (by omega) (by omega)) dL_law_1263 ?_
  rw [← ey1]
  refine lv_aload_n hx hb dL_law_1264 rfl (lv_at hl 4 rfl) ?_
  refine g_callSH (rest := []) (As := [.ref (ca 0), .int y1, .ref oa]) hE hG hl.1 (c_L_years l hfl D tc A w ca d tk st y1 oa of (100 * k) hC hI (by omega) h7) mw3_37 mw3_38 mw1_0 mw3_39 nm_L_years ⟨⟨Nat.le_of_ble_eq_true rfl, Nat.le_of_ble_eq_true rfl⟩, (by show 100 + 40 * k + 40 ≤ 601024; omega), (by show 5000 + 400 * k + 400 ≤ 7293034; omega)⟩ rfl rfl (Nat.le_of_ble_eq_true rfl) dL_law_1265 (g_no) ?_
  intro v9 w9 H locs h9 hG
  obtain ⟨hgl, of9, h79, hd⟩ := h9
  have hM9 := mW_cg hM hgl
  rcases hd with ⟨hgo, e9, hC9⟩ | ⟨hgo, e9, hof, ca9, hca9, hC9⟩
  · skip
    rw [e9]; clear e9
    have z1000 := hM9.1
    show W p l e _ s m args below meth c H locs _ _ _ (F0 m 1268 ls [.int (m_la (ga_years d y1) (gb_years d y1) (gc_years d y1))])
    have hI9 : iOk (sL d (m_la (ga_years d y1) (gb_years d y1) (gc_years d y1))) (100 * (k + 1)) := by rw [show 100 * (k + 1) = 100 * k + 100 by omega]; exact iOk_l hI _
    refine lv_istore (lv' := [(5, .int (m_la (ga_years d y1) (gb_years d y1) (gc_years d y1))), (4, .int (nI (6 * k))), (0, .ref b), (1, .ref (ca 0)), (2, .ref (ad 0)), (3, .ref oa)]) hx hb dL_law_1268 hl (by decide) rfl (fun ls hl => ?_)
    refine lv_aload_n hx hb dL_law_1270 rfl (lv_at hl 4 rfl) ?_
    refine lv_aload_n hx hb dL_law_1271 rfl (lv_at hl 2 rfl) ?_
    refine lv_iload hx hb dL_law_1272 (lv_at hl 1 rfl) ?_
    refine lv_iconst (v := 1) hx hb dL_law_1274 (by decide) ?_
    refine lv_iadd hx hb dL_law_1275 ?_
    rw [show nI (6 * k) + 1 = nI (6 * k + 1) from nI_add _ _]
    refine va_sld (xs := xs) hx hb hX hbl hbA hG.2.2 (vp_in_nI (by omega) (by omega)) dL_law_1276 ?_
    rw [← ey1]
    refine g_callV (rest := []) (As := [.int y1]) hE hG hl.1 (c_X6_years l hfl D tc A w9 ad d tk st y1 hM9 hOk) z1000 rfl mw4_147 mw4_148 mw4_149 mw1_4 mw4_150 rfl nm_X6_years ⟨⟨Nat.le_of_ble_eq_true rfl, Nat.le_of_ble_eq_true rfl⟩, (by show 100 + 40 * k + 40 + 0 ≤ 601024; omega), (by show 5000 + 400 * k + 400 + 0 ≤ 7293034; omega)⟩ rfl rfl (Nat.le_of_ble_eq_true rfl) dL_law_1277 (g_no) ?_
    intro v8 w8 H locs h8 hG
    rcases h8 with ⟨-, ⟨r8, e8⟩, hM8, hF8⟩ | ⟨hg8, -⟩
    rotate_left
    · exact absurd hgo hg8
    rw [e8]; clear e8
    have hC8 : cW tc w8 ca (sL d (m_la (ga_years d y1) (gb_years d y1) (gc_years d y1))) tk st := cW_cg (cW_l hC9 _) hI9.1 (fun q h1 _ => hF8 q h1)
    have h78 := (hF8 7 (by omega)).trans h79
    have z8 := hM8.1
    show W p l e _ s m args below meth c H locs _ _ _ (F0 m 1280 ls [.int r8])
    refine lv_istore (lv' := [(6, .int r8), (5, .int (m_la (ga_years d y1) (gb_years d y1) (gc_years d y1))), (4, .int (nI (6 * k))), (0, .ref b), (1, .ref (ca 0)), (2, .ref (ad 0)), (3, .ref oa)]) hx hb dL_law_1280 hl (by decide) rfl (fun ls hl => ?_)
    refine lv_aload_n hx hb dL_law_1282 rfl (lv_at hl 5 rfl) ?_
    refine g_callV (rest := []) (As := []) hE hG hl.1 (c_X6_thrown l hfl D tc A w8 ad (sL d (m_la (ga_years d y1) (gb_years d y1) (gc_years d y1))) tk st hM8) z8 rfl mw4_27 mw4_28 mw4_29 mw1_4 mw4_30 rfl nm_X6_thrown ⟨⟨Nat.le_of_ble_eq_true rfl, Nat.le_of_ble_eq_true rfl⟩, (by show 100 + 40 * k + 40 + 0 + 0 ≤ 601024; omega), (by show 5000 + 400 * k + 400 + 0 + 0 ≤ 7293034; omega)⟩ rfl rfl (Nat.le_of_ble_eq_true rfl) dL_law_1283 (g_no) ?_
    intro v6 w6 H locs h6 hG
    obtain ⟨e6, f6⟩ := h6
    rw [f6] at hG; rw [e6, show (sL d (m_la (ga_years d y1) (gb_years d y1) (gc_years d y1))) 9 14 = (m_la (ga_years d y1) (gb_years d y1) (gc_years d y1)) from rfl]; clear e6 f6
    show W p l e _ s m args below meth c H locs _ _ _ (F0 m 1286 ls [.int (m_la (ga_years d y1) (gb_years d y1) (gc_years d y1))])
    refine lv_iload hx hb dL_law_1286 (lv_at hl 1 rfl) ?_
    refine lv_icmp_eq (tgt := 1293) hx hb dL_law_1288 (by decide) (fun c9 => ?_) (fun c9 => (c9 rfl).elim)
    refine lv_iload hx hb dL_law_1293 (lv_at hl 1 rfl) ?_
    refine lv_if_ne (tgt := 1310) hx hb dL_law_1295 (by decide) (fun c9 => ?_) (fun c9 => absurd c9 (la_ne hgo))
    refine lv_goto (tgt := 1825) hx hb dL_law_1310 (by decide) ?_
    refine lv_iinc (v := (nI (6 * (k + 1)))) (lv' := [(4, .int (nI (6 * (k + 1)))), (6, .int r8), (5, .int (m_la (ga_years d y1) (gb_years d y1) (gc_years d y1))), (0, .ref b), (1, .ref (ca 0)), (2, .ref (ad 0)), (3, .ref oa)]) hx hb dL_law_1825 hl (k := 2) rfl (by rw [show 6 * (k + 1) = 6 * k + 6 by omega]; exact nI_add (6 * k) 6) (by decide) rfl (fun ls hl => ?_)
    refine lv_goto (tgt := 23) hx hb dL_law_1828 (by decide) ?_
    refine W.widen (k := 100 + 40 * (k + 1)) (n := 5000 + 400 * (k + 1)) (by show 100 + 40 * k + 40 + 0 + 0 ≤ _; omega) (by show 5000 + 400 * k + 400 + 0 + 0 ≤ _; omega) ?_
    exact ih ca ad (sL d (m_la (ga_years d y1) (gb_years d y1) (gc_years d y1))) tk st of9 w8 _ _ _ hC8 hM8 hI9 h78 hG (lv_sub hl [0, 3, 4, 5, 6] rfl)
  · skip
    rw [e9]; clear e9
    have z1000 := hM9.1
    show W p l e _ s m args below meth c H locs _ _ _ (F0 m 1268 ls [.int 0])
    have hI9 : iOk (sL (gD (gD d 4 (m_yrs d y1.toNatClampNeg)) 9 (upd (d 9) 12 (d 9 12 + y1))) 0) (100 * (k + 1)) := by rw [show 100 * (k + 1) = 100 * k + 100 by omega]; exact I_years hI
    refine lv_istore (lv' := [(5, .int 0), (4, .int (nI (6 * k))), (0, .ref b), (1, .ref (ca 0)), (2, .ref (ad 0)), (3, .ref oa)]) hx hb dL_law_1268 hl (by decide) rfl (fun ls hl => ?_)
    refine lv_aload_n hx hb dL_law_1270 rfl (lv_at hl 4 rfl) ?_
    refine lv_aload_n hx hb dL_law_1271 rfl (lv_at hl 2 rfl) ?_
    refine lv_iload hx hb dL_law_1272 (lv_at hl 1 rfl) ?_
    refine lv_iconst (v := 1) hx hb dL_law_1274 (by decide) ?_
    refine lv_iadd hx hb dL_law_1275 ?_
    rw [show nI (6 * k) + 1 = nI (6 * k + 1) from nI_add _ _]
    refine va_sld (xs := xs) hx hb hX hbl hbA hG.2.2 (vp_in_nI (by omega) (by omega)) dL_law_1276 ?_
    rw [← ey1]
    refine g_callV (rest := []) (As := [.int y1]) hE hG hl.1 (c_X6_years l hfl D tc A w9 ad d tk st y1 hM9 hOk) z1000 rfl mw4_147 mw4_148 mw4_149 mw1_4 mw4_150 rfl nm_X6_years ⟨⟨Nat.le_of_ble_eq_true rfl, Nat.le_of_ble_eq_true rfl⟩, (by show 100 + 40 * k + 40 + 0 ≤ 601024; omega), (by show 5000 + 400 * k + 400 + 0 ≤ 7293034; omega)⟩ rfl rfl (Nat.le_of_ble_eq_true rfl) dL_law_1277 (g_no) ?_
    intro v8 w8 H locs h8 hG
    rcases h8 with ⟨hg8, -⟩ | ⟨-, e8, hM8, hF8⟩
    · exact absurd hg8 hgo
    rw [e8]; clear e8
    have hC8 : cW tc w8 ca9 (sL (gD (gD d 4 (m_yrs d y1.toNatClampNeg)) 9 (upd (d 9) 12 (d 9 12 + y1))) 0) tk st := cW_cg (hC9) hI9.1 (fun q h1 _ => hF8 q h1)
    have h78 := (hF8 7 (by omega)).trans h79
    have z8 := hM8.1
    show W p l e _ s m args below meth c H locs _ _ _ (F0 m 1280 ls [.int (d 9 12 + y1)])
    refine lv_istore (lv' := [(6, .int (d 9 12 + y1)), (5, .int 0), (4, .int (nI (6 * k))), (0, .ref b), (1, .ref (ca 0)), (2, .ref (ad 0)), (3, .ref oa)]) hx hb dL_law_1280 hl (by decide) rfl (fun ls hl => ?_)
    refine lv_aload_n hx hb dL_law_1282 rfl (lv_at hl 5 rfl) ?_
    refine g_callV (rest := []) (As := []) hE hG hl.1 (c_X6_thrown l hfl D tc A w8 ad (sL (gD (gD d 4 (m_yrs d y1.toNatClampNeg)) 9 (upd (d 9) 12 (d 9 12 + y1))) 0) tk st hM8) z8 rfl mw4_27 mw4_28 mw4_29 mw1_4 mw4_30 rfl nm_X6_thrown ⟨⟨Nat.le_of_ble_eq_true rfl, Nat.le_of_ble_eq_true rfl⟩, (by show 100 + 40 * k + 40 + 0 + 0 ≤ 601024; omega), (by show 5000 + 400 * k + 400 + 0 + 0 ≤ 7293034; omega)⟩ rfl rfl (Nat.le_of_ble_eq_true rfl) dL_law_1283 (g_no) ?_
    intro v6 w6 H locs h6 hG
    obtain ⟨e6, f6⟩ := h6
    rw [f6] at hG; rw [e6, show (sL (gD (gD d 4 (m_yrs d y1.toNatClampNeg)) 9 (upd (d 9) 12 (d 9 12 + y1))) 0) 9 14 = 0 from rfl]; clear e6 f6
    show W p l e _ s m args below meth c H locs _ _ _ (F0 m 1286 ls [.int 0])
    refine lv_iload hx hb dL_law_1286 (lv_at hl 1 rfl) ?_
    refine lv_icmp_eq (tgt := 1293) hx hb dL_law_1288 (by decide) (fun _ => ?_) (fun c9 => (c9 (by decide)).elim)
    refine lv_iload hx hb dL_law_1293 (lv_at hl 1 rfl) ?_
    refine lv_if_ne (tgt := 1310) hx hb dL_law_1295 (by decide) (fun c9 => (c9 (by decide)).elim) (fun _ => ?_)
    refine lv_aload_n hx hb dL_law_1298 rfl (lv_at hl 6 rfl) ?_
    refine lv_iconst (v := 0) hx hb dL_law_1299 (by decide) ?_
    refine g_lald hE hG h78 (vp_in_nI (n := 0) (N := 1) (by decide) (by decide)) dL_law_1300 ?_
    rw [show of9 (0 : Int32).toNatClampNeg = (d 9 12 + y1).toInt64 from hof]
    refine lv_iload hx hb dL_law_1301 (lv_at hl 0 rfl) ?_
    refine lv_i2l (v := (d 9 12 + y1).toInt64) hx hb dL_law_1303 rfl ?_
    refine W.lcmp hx hb dL_law_1304 ?_
    refine lv_if_eq (tgt := 1310) hx hb dL_law_1305 (by decide) (fun c9 => ?_) (fun c9 => (c9 (lg_self _)).elim)
    refine lv_goto (tgt := 1825) hx hb dL_law_1310 (by decide) ?_
    refine lv_iinc (v := (nI (6 * (k + 1)))) (lv' := [(4, .int (nI (6 * (k + 1)))), (6, .int (d 9 12 + y1)), (5, .int 0), (0, .ref b), (1, .ref (ca 0)), (2, .ref (ad 0)), (3, .ref oa)]) hx hb dL_law_1825 hl (k := 2) rfl (by rw [show 6 * (k + 1) = 6 * k + 6 by omega]; exact nI_add (6 * k) 6) (by decide) rfl (fun ls hl => ?_)
    refine lv_goto (tgt := 23) hx hb dL_law_1828 (by decide) ?_
    refine W.widen (k := 100 + 40 * (k + 1)) (n := 5000 + 400 * (k + 1)) (by show 100 + 40 * k + 40 + 0 + 0 ≤ _; omega) (by show 5000 + 400 * k + 400 + 0 + 0 ≤ _; omega) ?_
    exact ih ca9 ad (sL (gD (gD d 4 (m_yrs d y1.toNatClampNeg)) 9 (upd (d 9) 12 (d 9 12 + y1))) 0) tk st of9 w8 _ _ _ hC8 hM8 hI9 h78 hG (by rw [hca9]; exact lv_sub hl [0, 3, 4, 5, 6] rfl)
set_option maxHeartbeats 4000000 in
set_option maxRecDepth 100000 in
theorem lc_tune {p : Program} {l : Launch} {e : Env} {s : State} {m : MethodId} {args : Array Value} {below : List Frame} {meth : Method} {c : Code} {Q : State → Prop} (hfl : l.stackTraces = false) {D : va_G} {tc : Nat → ClassId} {A : Nat → Prop} {b L : Nat} {xs : Nat → Int32} {oa k : Nat} (hE : gE p l s m args meth c code 8 RL D tc A) (hX : va_X b L xs s s.heap) (hbl : b < s.heap.size) (hbA : ¬ A b) (hL : L ≤ 3072) (hk : 6 * k + 6 ≤ L) (ih : gLoop p l e s m args below meth c Q D tc A b oa (k + 1)) (ca ad : Nat → Nat) (d : gDt) (tk : Int64) (st of : Nat → Int64) (w : gW) (H : Heap) (locs : List Loc) (ls : Array Slot) (hC : cW tc w ca d tk st) (hM : mW tc w ad d tk st) (hI : iOk d (100 * k)) (h7 : w 7 = some (oa, .inl (tc 1, 1, .inr (.inl of)))) (hG : gS D A s.heap w H locs) (hl : lv_has ls 8 [(4, .int (nI (6 * k))), (0, .ref b), (1, .ref (ca 0)), (2, .ref (ad 0)), (3, .ref oa)]) : W p l e room_1 s m args below meth c H locs (100 + 40 * k) (5000 + 400 * k) Q (F0 m 1313 ls []) := by
  have hx := hE.1
  have hb := hE.2.1
  obtain ⟨hOk, hF, hT, hpO, hrO, hj⟩ := id hI
  have z0 := hC.1.1
  have zm := hM.1
  obtain ⟨y1, ey1⟩ : ∃ y, y = xs (nI (6 * k + 1)).toNatClampNeg := ⟨_, rfl⟩
  obtain ⟨y2, ey2⟩ : ∃ y, y = xs (nI (6 * k + 2)).toNatClampNeg := ⟨_, rfl⟩
  obtain ⟨y3, ey3⟩ : ∃ y, y = xs (nI (6 * k + 3)).toNatClampNeg := ⟨_, rfl⟩
  obtain ⟨y4, ey4⟩ : ∃ y, y = xs (nI (6 * k + 4)).toNatClampNeg := ⟨_, rfl⟩
  obtain ⟨y5, ey5⟩ : ∃ y, y = xs (nI (6 * k + 5)).toNatClampNeg := ⟨_, rfl⟩
  refine lv_aload_n hx hb dL_law_1313 rfl (lv_at hl 2 rfl) ?_
  refine lv_aload_n hx hb dL_law_1314 rfl (lv_at hl 1 rfl) ?_
  refine lv_iload hx hb dL_law_1315 (lv_at hl 0 rfl) ?_
  refine lv_iconst (v := 1) hx hb dL_law_1317 (by decide) ?_
  refine lv_iadd hx hb dL_law_1318 ?_
  rw [show nI (6 * k) + 1 = nI (6 * k + 1) from nI_add _ _]
  refine va_sld (xs := xs) hx hb hX hbl hbA hG.2.2 (vp_in_nI (by omega) (by omega)) dL_law_1319 ?_
  rw [← ey1]
  refine lv_aload_n hx hb dL_law_1320 rfl (lv_at hl 1 rfl) ?_
  refine lv_iload hx hb dL_law_1321 (lv_at hl 0 rfl) ?_
  refine lv_iconst (v := 2) hx hb dL_law_1323 (by decide) ?_
  refine lv_iadd hx hb dL_law_1324 ?_
  rw [show nI (6 * k) + 2 = nI (6 * k + 2) from nI_add _ _]
  refine va_sld (xs := xs) hx hb hX hbl hbA hG.2.2 (vp_in_nI (by omega) (by omega)) dL_law_1325 ?_
  rw [← ey2]
  refine lv_aload_n hx hb dL_law_1326 rfl (lv_at hl 4 rfl) ?_
  refine g_callSH (rest := []) (As := [.ref (ca 0), .int y1, .int y2, .ref oa]) hE hG hl.1 (c_L_tune l hfl D tc A w ca d tk st y1 y2 oa of (100 * k) hC hI (by omega) h7) mw3_51 mw3_52 mw1_0 mw3_53 nm_L_tune ⟨⟨Nat.le_of_ble_eq_true rfl, Nat.le_of_ble_eq_true rfl⟩, (by show 100 + 40 * k + 40 ≤ 601024; omega), (by show 5000 + 400 * k + 400 ≤ 7293034; omega)⟩ rfl rfl (Nat.le_of_ble_eq_true rfl) dL_law_1327 (g_no) ?_
  intro v9 w9 H locs h9 hG
  obtain ⟨hgl, of9, h79, hd⟩ := h9
  have hM9 := mW_cg hM hgl
  rcases hd with ⟨hgo, e9, hC9⟩ | ⟨hgo, e9, hof, ca9, hca9, hC9⟩
  · skip
    rw [e9]; clear e9
    have z1000 := hM9.1
    show W p l e _ s m args below meth c H locs _ _ _ (F0 m 1330 ls [.int (m_la (ga_tune d y1 y2) (gb_tune d y1 y2) (gc_tune d y1 y2))])
    have hI9 : iOk (sL d (m_la (ga_tune d y1 y2) (gb_tune d y1 y2) (gc_tune d y1 y2))) (100 * (k + 1)) := by rw [show 100 * (k + 1) = 100 * k + 100 by omega]; exact iOk_l hI _
    refine lv_istore (lv' := [(5, .int (m_la (ga_tune d y1 y2) (gb_tune d y1 y2) (gc_tune d y1 y2))), (4, .int (nI (6 * k))), (0, .ref b), (1, .ref (ca 0)), (2, .ref (ad 0)), (3, .ref oa)]) hx hb dL_law_1330 hl (by decide) rfl (fun ls hl => ?_)
    refine lv_aload_n hx hb dL_law_1332 rfl (lv_at hl 4 rfl) ?_
    refine lv_aload_n hx hb dL_law_1333 rfl (lv_at hl 2 rfl) ?_
    refine lv_iload hx hb dL_law_1334 (lv_at hl 1 rfl) ?_
    refine lv_iconst (v := 1) hx hb dL_law_1336 (by decide) ?_
    refine lv_iadd hx hb dL_law_1337 ?_
    rw [show nI (6 * k) + 1 = nI (6 * k + 1) from nI_add _ _]
    refine va_sld (xs := xs) hx hb hX hbl hbA hG.2.2 (vp_in_nI (by omega) (by omega)) dL_law_1338 ?_
    rw [← ey1]
    refine lv_aload_n hx hb dL_law_1339 rfl (lv_at hl 2 rfl) ?_
    refine lv_iload hx hb dL_law_1340 (lv_at hl 1 rfl) ?_
    refine lv_iconst (v := 2) hx hb dL_law_1342 (by decide) ?_
    refine lv_iadd hx hb dL_law_1343 ?_
    rw [show nI (6 * k) + 2 = nI (6 * k + 2) from nI_add _ _]
    refine va_sld (xs := xs) hx hb hX hbl hbA hG.2.2 (vp_in_nI (by omega) (by omega)) dL_law_1344 ?_
    rw [← ey2]
    refine g_callV (rest := []) (As := [.int y1, .int y2]) hE hG hl.1 (c_X6_tune l hfl D tc A w9 ad d tk st y1 y2 hM9 hOk hpO) z1000 rfl mw4_151 mw4_152 mw4_153 mw1_4 mw4_154 rfl nm_X6_tune ⟨⟨Nat.le_of_ble_eq_true rfl, Nat.le_of_ble_eq_true rfl⟩, (by show 100 + 40 * k + 40 + 0 ≤ 601024; omega), (by show 5000 + 400 * k + 400 + 0 ≤ 7293034; omega)⟩ rfl rfl (Nat.le_of_ble_eq_true rfl) dL_law_1345 (g_no) ?_
    intro v8 w8 H locs h8 hG
    rcases h8 with ⟨-, ⟨r8, e8⟩, hM8, hF8⟩ | ⟨hg8, -⟩
    rotate_left
    · exact absurd hgo hg8
    rw [e8]; clear e8
    have hC8 : cW tc w8 ca (sL d (m_la (ga_tune d y1 y2) (gb_tune d y1 y2) (gc_tune d y1 y2))) tk st := cW_cg (cW_l hC9 _) hI9.1 (fun q h1 _ => hF8 q h1)
    have h78 := (hF8 7 (by omega)).trans h79
    have z8 := hM8.1
    show W p l e _ s m args below meth c H locs _ _ _ (F0 m 1348 ls [.int r8])
    refine lv_istore (lv' := [(6, .int r8), (5, .int (m_la (ga_tune d y1 y2) (gb_tune d y1 y2) (gc_tune d y1 y2))), (4, .int (nI (6 * k))), (0, .ref b), (1, .ref (ca 0)), (2, .ref (ad 0)), (3, .ref oa)]) hx hb dL_law_1348 hl (by decide) rfl (fun ls hl => ?_)
    refine lv_aload_n hx hb dL_law_1350 rfl (lv_at hl 5 rfl) ?_
    refine g_callV (rest := []) (As := []) hE hG hl.1 (c_X6_thrown l hfl D tc A w8 ad (sL d (m_la (ga_tune d y1 y2) (gb_tune d y1 y2) (gc_tune d y1 y2))) tk st hM8) z8 rfl mw4_27 mw4_28 mw4_29 mw1_4 mw4_30 rfl nm_X6_thrown ⟨⟨Nat.le_of_ble_eq_true rfl, Nat.le_of_ble_eq_true rfl⟩, (by show 100 + 40 * k + 40 + 0 + 0 ≤ 601024; omega), (by show 5000 + 400 * k + 400 + 0 + 0 ≤ 7293034; omega)⟩ rfl rfl (Nat.le_of_ble_eq_true rfl) dL_law_1351 (g_no) ?_
    intro v6 w6 H locs h6 hG
    obtain ⟨e6, f6⟩ := h6
    rw [f6] at hG; rw [e6, show (sL d (m_la (ga_tune d y1 y2) (gb_tune d y1 y2) (gc_tune d y1 y2))) 9 14 = (m_la (ga_tune d y1 y2) (gb_tune d y1 y2) (gc_tune d y1 y2)) from rfl]; clear e6 f6
    show W p l e _ s m args below meth c H locs _ _ _ (F0 m 1354 ls [.int (m_la (ga_tune d y1 y2) (gb_tune d y1 y2) (gc_tune d y1 y2))])
    refine lv_iload hx hb dL_law_1354 (lv_at hl 1 rfl) ?_
    refine lv_icmp_eq (tgt := 1361) hx hb dL_law_1356 (by decide) (fun c9 => ?_) (fun c9 => (c9 rfl).elim)
    refine lv_iload hx hb dL_law_1361 (lv_at hl 1 rfl) ?_
    refine lv_if_ne (tgt := 1378) hx hb dL_law_1363 (by decide) (fun c9 => ?_) (fun c9 => absurd c9 (la_ne hgo))
    refine lv_goto (tgt := 1825) hx hb dL_law_1378 (by decide) ?_
    refine lv_iinc (v := (nI (6 * (k + 1)))) (lv' := [(4, .int (nI (6 * (k + 1)))), (6, .int r8), (5, .int (m_la (ga_tune d y1 y2) (gb_tune d y1 y2) (gc_tune d y1 y2))), (0, .ref b), (1, .ref (ca 0)), (2, .ref (ad 0)), (3, .ref oa)]) hx hb dL_law_1825 hl (k := 2) rfl (by rw [show 6 * (k + 1) = 6 * k + 6 by omega]; exact nI_add (6 * k) 6) (by decide) rfl (fun ls hl => ?_)
    refine lv_goto (tgt := 23) hx hb dL_law_1828 (by decide) ?_
    refine W.widen (k := 100 + 40 * (k + 1)) (n := 5000 + 400 * (k + 1)) (by show 100 + 40 * k + 40 + 0 + 0 ≤ _; omega) (by show 5000 + 400 * k + 400 + 0 + 0 ≤ _; omega) ?_
    exact ih ca ad (sL d (m_la (ga_tune d y1 y2) (gb_tune d y1 y2) (gc_tune d y1 y2))) tk st of9 w8 _ _ _ hC8 hM8 hI9 h78 hG (lv_sub hl [0, 3, 4, 5, 6] rfl)
  · skip
    rw [e9]; clear e9
    have z1000 := hM9.1
    show W p l e _ s m args below meth c H locs _ _ _ (F0 m 1330 ls [.int 0])
    have hI9 : iOk (sL (gD d 4 (m_tunD d y1 y2)) 0) (100 * (k + 1)) := by rw [show 100 * (k + 1) = 100 * k + 100 by omega]; exact I_tune hI
    refine lv_istore (lv' := [(5, .int 0), (4, .int (nI (6 * k))), (0, .ref b), (1, .ref (ca 0)), (2, .ref (ad 0)), (3, .ref oa)]) hx hb dL_law_1330 hl (by decide) rfl (fun ls hl => ?_)
    refine lv_aload_n hx hb dL_law_1332 rfl (lv_at hl 4 rfl) ?_
    refine lv_aload_n hx hb dL_law_1333 rfl (lv_at hl 2 rfl) ?_
    refine lv_iload hx hb dL_law_1334 (lv_at hl 1 rfl) ?_
    refine lv_iconst (v := 1) hx hb dL_law_1336 (by decide) ?_
    refine lv_iadd hx hb dL_law_1337 ?_
    rw [show nI (6 * k) + 1 = nI (6 * k + 1) from nI_add _ _]
    refine va_sld (xs := xs) hx hb hX hbl hbA hG.2.2 (vp_in_nI (by omega) (by omega)) dL_law_1338 ?_
    rw [← ey1]
    refine lv_aload_n hx hb dL_law_1339 rfl (lv_at hl 2 rfl) ?_
    refine lv_iload hx hb dL_law_1340 (lv_at hl 1 rfl) ?_
    refine lv_iconst (v := 2) hx hb dL_law_1342 (by decide) ?_
    refine lv_iadd hx hb dL_law_1343 ?_
    rw [show nI (6 * k) + 2 = nI (6 * k + 2) from nI_add _ _]
    refine va_sld (xs := xs) hx hb hX hbl hbA hG.2.2 (vp_in_nI (by omega) (by omega)) dL_law_1344 ?_
    rw [← ey2]
    refine g_callV (rest := []) (As := [.int y1, .int y2]) hE hG hl.1 (c_X6_tune l hfl D tc A w9 ad d tk st y1 y2 hM9 hOk hpO) z1000 rfl mw4_151 mw4_152 mw4_153 mw1_4 mw4_154 rfl nm_X6_tune ⟨⟨Nat.le_of_ble_eq_true rfl, Nat.le_of_ble_eq_true rfl⟩, (by show 100 + 40 * k + 40 + 0 ≤ 601024; omega), (by show 5000 + 400 * k + 400 + 0 ≤ 7293034; omega)⟩ rfl rfl (Nat.le_of_ble_eq_true rfl) dL_law_1345 (g_no) ?_
    intro v8 w8 H locs h8 hG
    rcases h8 with ⟨hg8, -⟩ | ⟨-, e8, hM8, hF8⟩
    · exact absurd hg8 hgo
    rw [e8]; clear e8
    have hC8 : cW tc w8 ca9 (sL (gD d 4 (m_tunD d y1 y2)) 0) tk st := cW_cg (hC9) hI9.1 (fun q h1 _ => hF8 q h1)
    have h78 := (hF8 7 (by omega)).trans h79
    have z8 := hM8.1
    show W p l e _ s m args below meth c H locs _ _ _ (F0 m 1348 ls [.int ((m_tunD d y1 y2) (8 * y1 + 1).toNatClampNeg)])
    refine lv_istore (lv' := [(6, .int ((m_tunD d y1 y2) (8 * y1 + 1).toNatClampNeg)), (5, .int 0), (4, .int (nI (6 * k))), (0, .ref b), (1, .ref (ca 0)), (2, .ref (ad 0)), (3, .ref oa)]) hx hb dL_law_1348 hl (by decide) rfl (fun ls hl => ?_)
    refine lv_aload_n hx hb dL_law_1350 rfl (lv_at hl 5 rfl) ?_
    refine g_callV (rest := []) (As := []) hE hG hl.1 (c_X6_thrown l hfl D tc A w8 ad (sL (gD d 4 (m_tunD d y1 y2)) 0) tk st hM8) z8 rfl mw4_27 mw4_28 mw4_29 mw1_4 mw4_30 rfl nm_X6_thrown ⟨⟨Nat.le_of_ble_eq_true rfl, Nat.le_of_ble_eq_true rfl⟩, (by show 100 + 40 * k + 40 + 0 + 0 ≤ 601024; omega), (by show 5000 + 400 * k + 400 + 0 + 0 ≤ 7293034; omega)⟩ rfl rfl (Nat.le_of_ble_eq_true rfl) dL_law_1351 (g_no) ?_
    intro v6 w6 H locs h6 hG
    obtain ⟨e6, f6⟩ := h6
    rw [f6] at hG; rw [e6, show (sL (gD d 4 (m_tunD d y1 y2)) 0) 9 14 = 0 from rfl]; clear e6 f6
    show W p l e _ s m args below meth c H locs _ _ _ (F0 m 1354 ls [.int 0])
    refine lv_iload hx hb dL_law_1354 (lv_at hl 1 rfl) ?_
    refine lv_icmp_eq (tgt := 1361) hx hb dL_law_1356 (by decide) (fun _ => ?_) (fun c9 => (c9 (by decide)).elim)
    refine lv_iload hx hb dL_law_1361 (lv_at hl 1 rfl) ?_
    refine lv_if_ne (tgt := 1378) hx hb dL_law_1363 (by decide) (fun c9 => (c9 (by decide)).elim) (fun _ => ?_)
    refine lv_aload_n hx hb dL_law_1366 rfl (lv_at hl 6 rfl) ?_
    refine lv_iconst (v := 0) hx hb dL_law_1367 (by decide) ?_
    refine g_lald hE hG h78 (vp_in_nI (n := 0) (N := 1) (by decide) (by decide)) dL_law_1368 ?_
    rw [show of9 (0 : Int32).toNatClampNeg = ((m_tunD d y1 y2) (8 * y1 + 1).toNatClampNeg).toInt64 from hof]
    refine lv_iload hx hb dL_law_1369 (lv_at hl 0 rfl) ?_
    refine lv_i2l (v := ((m_tunD d y1 y2) (8 * y1 + 1).toNatClampNeg).toInt64) hx hb dL_law_1371 rfl ?_
    refine W.lcmp hx hb dL_law_1372 ?_
    refine lv_if_eq (tgt := 1378) hx hb dL_law_1373 (by decide) (fun c9 => ?_) (fun c9 => (c9 (lg_self _)).elim)
    refine lv_goto (tgt := 1825) hx hb dL_law_1378 (by decide) ?_
    refine lv_iinc (v := (nI (6 * (k + 1)))) (lv' := [(4, .int (nI (6 * (k + 1)))), (6, .int ((m_tunD d y1 y2) (8 * y1 + 1).toNatClampNeg)), (5, .int 0), (0, .ref b), (1, .ref (ca 0)), (2, .ref (ad 0)), (3, .ref oa)]) hx hb dL_law_1825 hl (k := 2) rfl (by rw [show 6 * (k + 1) = 6 * k + 6 by omega]; exact nI_add (6 * k) 6) (by decide) rfl (fun ls hl => ?_)
    refine lv_goto (tgt := 23) hx hb dL_law_1828 (by decide) ?_
    refine W.widen (k := 100 + 40 * (k + 1)) (n := 5000 + 400 * (k + 1)) (by show 100 + 40 * k + 40 + 0 + 0 ≤ _; omega) (by show 5000 + 400 * k + 400 + 0 + 0 ≤ _; omega) ?_
    exact ih ca9 ad (sL (gD d 4 (m_tunD d y1 y2)) 0) tk st of9 w8 _ _ _ hC8 hM8 hI9 h78 hG (by rw [hca9]; exact lv_sub hl [0, 3, 4, 5, 6] rfl)
set_option maxHeartbeats 4000000 in
set_option maxRecDepth 100000 in
theorem lc_beat {p : Program} {l : Launch} {e : Env} {s : State} {m : MethodId} {args : Array Value} {below : List Frame} {meth : Method} {c : Code} {Q : State → Prop} (hfl : l.stackTraces = false) {D : va_G} {tc : Nat → ClassId} {A : Nat → Prop} {b L : Nat} {xs : Nat → Int32} {oa k : Nat} (hE : gE p l s m args meth c code 8 RL D tc A) (hX : va_X b L xs s s.heap) (hbl : b < s.heap.size) (hbA : ¬ A b) (hL : L ≤ 3072) (hk : 6 * k + 6 ≤ L) (ih : gLoop p l e s m args below meth c Q D tc A b oa (k + 1)) (ca ad : Nat → Nat) (d : gDt) (tk : Int64) (st of : Nat → Int64) (w : gW) (H : Heap) (locs : List Loc) (ls : Array Slot) (hC : cW tc w ca d tk st) (hM : mW tc w ad d tk st) (hI : iOk d (100 * k)) (h7 : w 7 = some (oa, .inl (tc 1, 1, .inr (.inl of)))) (hG : gS D A s.heap w H locs) (hl : lv_has ls 8 [(4, .int (nI (6 * k))), (0, .ref b), (1, .ref (ca 0)), (2, .ref (ad 0)), (3, .ref oa)]) : W p l e room_1 s m args below meth c H locs (100 + 40 * k) (5000 + 400 * k) Q (F0 m 1381 ls []) := by
  have hx := hE.1
  have hb := hE.2.1
  obtain ⟨hOk, hF, hT, hpO, hrO, hj⟩ := id hI
  have z0 := hC.1.1
  have zm := hM.1
  obtain ⟨y1, ey1⟩ : ∃ y, y = xs (nI (6 * k + 1)).toNatClampNeg := ⟨_, rfl⟩
  obtain ⟨y2, ey2⟩ : ∃ y, y = xs (nI (6 * k + 2)).toNatClampNeg := ⟨_, rfl⟩
  obtain ⟨y3, ey3⟩ : ∃ y, y = xs (nI (6 * k + 3)).toNatClampNeg := ⟨_, rfl⟩
  obtain ⟨y4, ey4⟩ : ∃ y, y = xs (nI (6 * k + 4)).toNatClampNeg := ⟨_, rfl⟩
  obtain ⟨y5, ey5⟩ : ∃ y, y = xs (nI (6 * k + 5)).toNatClampNeg := ⟨_, rfl⟩
  refine lv_aload_n hx hb dL_law_1381 rfl (lv_at hl 2 rfl) ?_
  refine lv_aload_n hx hb dL_law_1382 rfl (lv_at hl 1 rfl) ?_
  refine lv_iload hx hb dL_law_1383 (lv_at hl 0 rfl) ?_
  refine lv_iconst (v := 1) hx hb dL_law_1385 (by decide) ?_
  refine lv_iadd hx hb dL_law_1386 ?_
  rw [show nI (6 * k) + 1 = nI (6 * k + 1) from nI_add _ _]
  refine va_sld (xs := xs) hx hb hX hbl hbA hG.2.2 (vp_in_nI (by omega) (by omega)) dL_law_1387 ?_
  rw [← ey1]
  refine lv_aload_n hx hb dL_law_1388 rfl (lv_at hl 1 rfl) ?_
  refine lv_iload hx hb dL_law_1389 (lv_at hl 0 rfl) ?_
  refine lv_iconst (v := 2) hx hb dL_law_1391 (by decide) ?_
  refine lv_iadd hx hb dL_law_1392 ?_
  rw [show nI (6 * k) + 2 = nI (6 * k + 2) from nI_add _ _]
  refine va_sld (xs := xs) hx hb hX hbl hbA hG.2.2 (vp_in_nI (by omega) (by omega)) dL_law_1393 ?_
  rw [← ey2]
  refine lv_aload_n hx hb dL_law_1394 rfl (lv_at hl 1 rfl) ?_
  refine lv_iload hx hb dL_law_1395 (lv_at hl 0 rfl) ?_
  refine lv_iconst (v := 3) hx hb dL_law_1397 (by decide) ?_
  refine lv_iadd hx hb dL_law_1398 ?_
  rw [show nI (6 * k) + 3 = nI (6 * k + 3) from nI_add _ _]
  refine va_sld (xs := xs) hx hb hX hbl hbA hG.2.2 (vp_in_nI (by omega) (by omega)) dL_law_1399 ?_
  rw [← ey3]
  refine lv_aload_n hx hb dL_law_1400 rfl (lv_at hl 4 rfl) ?_
  refine g_callSH (rest := []) (As := [.ref (ca 0), .int y1, .int y2, .int y3, .ref oa]) hE hG hl.1 (c_L_beat l hfl D tc A w ca d tk st y1 y2 y3 oa of (100 * k) hC hI (by omega) h7) mw3_72 mw3_73 mw1_0 mw3_74 nm_L_beat ⟨⟨Nat.le_of_ble_eq_true rfl, Nat.le_of_ble_eq_true rfl⟩, (by show 100 + 40 * k + 40 ≤ 601024; omega), (by show 5000 + 400 * k + 400 ≤ 7293034; omega)⟩ rfl rfl (Nat.le_of_ble_eq_true rfl) dL_law_1401 (g_no) ?_
  intro v9 w9 H locs h9 hG
  obtain ⟨hgl, of9, h79, hd⟩ := h9
  have hM9 := mW_cg hM hgl
  rcases hd with ⟨hgo, e9, hC9⟩ | ⟨hgo, e9, hof, ca9, hca9, hC9⟩
  · skip
    rw [e9]; clear e9
    have z1000 := hM9.1
    show W p l e _ s m args below meth c H locs _ _ _ (F0 m 1404 ls [.int (m_la (ga_beat d y1 y2 y3) (gb_beat d y1 y2 y3) (gc_beat d y1 y2 y3))])
    have hI9 : iOk (sL d (m_la (ga_beat d y1 y2 y3) (gb_beat d y1 y2 y3) (gc_beat d y1 y2 y3))) (100 * (k + 1)) := by rw [show 100 * (k + 1) = 100 * k + 100 by omega]; exact iOk_l hI _
    refine lv_istore (lv' := [(5, .int (m_la (ga_beat d y1 y2 y3) (gb_beat d y1 y2 y3) (gc_beat d y1 y2 y3))), (4, .int (nI (6 * k))), (0, .ref b), (1, .ref (ca 0)), (2, .ref (ad 0)), (3, .ref oa)]) hx hb dL_law_1404 hl (by decide) rfl (fun ls hl => ?_)
    refine lv_aload_n hx hb dL_law_1406 rfl (lv_at hl 4 rfl) ?_
    refine lv_aload_n hx hb dL_law_1407 rfl (lv_at hl 2 rfl) ?_
    refine lv_iload hx hb dL_law_1408 (lv_at hl 1 rfl) ?_
    refine lv_iconst (v := 1) hx hb dL_law_1410 (by decide) ?_
    refine lv_iadd hx hb dL_law_1411 ?_
    rw [show nI (6 * k) + 1 = nI (6 * k + 1) from nI_add _ _]
    refine va_sld (xs := xs) hx hb hX hbl hbA hG.2.2 (vp_in_nI (by omega) (by omega)) dL_law_1412 ?_
    rw [← ey1]
    refine lv_aload_n hx hb dL_law_1413 rfl (lv_at hl 2 rfl) ?_
    refine lv_iload hx hb dL_law_1414 (lv_at hl 1 rfl) ?_
    refine lv_iconst (v := 2) hx hb dL_law_1416 (by decide) ?_
    refine lv_iadd hx hb dL_law_1417 ?_
    rw [show nI (6 * k) + 2 = nI (6 * k + 2) from nI_add _ _]
    refine va_sld (xs := xs) hx hb hX hbl hbA hG.2.2 (vp_in_nI (by omega) (by omega)) dL_law_1418 ?_
    rw [← ey2]
    refine lv_aload_n hx hb dL_law_1419 rfl (lv_at hl 2 rfl) ?_
    refine lv_iload hx hb dL_law_1420 (lv_at hl 1 rfl) ?_
    refine lv_iconst (v := 3) hx hb dL_law_1422 (by decide) ?_
    refine lv_iadd hx hb dL_law_1423 ?_
    rw [show nI (6 * k) + 3 = nI (6 * k + 3) from nI_add _ _]
    refine va_sld (xs := xs) hx hb hX hbl hbA hG.2.2 (vp_in_nI (by omega) (by omega)) dL_law_1424 ?_
    rw [← ey3]
    refine g_callV (rest := []) (As := [.int y1, .int y2, .int y3]) hE hG hl.1 (c_X6_beat l hfl D tc A w9 ad d tk st y1 y2 y3 hM9 hOk) z1000 rfl mw4_157 mw4_158 mw4_159 mw1_4 mw4_160 rfl nm_X6_beat ⟨⟨Nat.le_of_ble_eq_true rfl, Nat.le_of_ble_eq_true rfl⟩, (by show 100 + 40 * k + 40 + 0 ≤ 601024; omega), (by show 5000 + 400 * k + 400 + 0 ≤ 7293034; omega)⟩ rfl rfl (Nat.le_of_ble_eq_true rfl) dL_law_1425 (g_no) ?_
    intro v8 w8 H locs h8 hG
    rcases h8 with ⟨-, ⟨r8, e8⟩, hM8, hF8⟩ | ⟨hg8, -⟩
    rotate_left
    · exact absurd hgo hg8
    rw [e8]; clear e8
    have hC8 : cW tc w8 ca (sL d (m_la (ga_beat d y1 y2 y3) (gb_beat d y1 y2 y3) (gc_beat d y1 y2 y3))) tk st := cW_cg (cW_l hC9 _) hI9.1 (fun q h1 _ => hF8 q h1)
    have h78 := (hF8 7 (by omega)).trans h79
    have z8 := hM8.1
    show W p l e _ s m args below meth c H locs _ _ _ (F0 m 1428 ls [.int r8])
    refine lv_istore (lv' := [(6, .int r8), (5, .int (m_la (ga_beat d y1 y2 y3) (gb_beat d y1 y2 y3) (gc_beat d y1 y2 y3))), (4, .int (nI (6 * k))), (0, .ref b), (1, .ref (ca 0)), (2, .ref (ad 0)), (3, .ref oa)]) hx hb dL_law_1428 hl (by decide) rfl (fun ls hl => ?_)
    refine lv_aload_n hx hb dL_law_1430 rfl (lv_at hl 5 rfl) ?_
    refine g_callV (rest := []) (As := []) hE hG hl.1 (c_X6_thrown l hfl D tc A w8 ad (sL d (m_la (ga_beat d y1 y2 y3) (gb_beat d y1 y2 y3) (gc_beat d y1 y2 y3))) tk st hM8) z8 rfl mw4_27 mw4_28 mw4_29 mw1_4 mw4_30 rfl nm_X6_thrown ⟨⟨Nat.le_of_ble_eq_true rfl, Nat.le_of_ble_eq_true rfl⟩, (by show 100 + 40 * k + 40 + 0 + 0 ≤ 601024; omega), (by show 5000 + 400 * k + 400 + 0 + 0 ≤ 7293034; omega)⟩ rfl rfl (Nat.le_of_ble_eq_true rfl) dL_law_1431 (g_no) ?_
    intro v6 w6 H locs h6 hG
    obtain ⟨e6, f6⟩ := h6
    rw [f6] at hG; rw [e6, show (sL d (m_la (ga_beat d y1 y2 y3) (gb_beat d y1 y2 y3) (gc_beat d y1 y2 y3))) 9 14 = (m_la (ga_beat d y1 y2 y3) (gb_beat d y1 y2 y3) (gc_beat d y1 y2 y3)) from rfl]; clear e6 f6
    show W p l e _ s m args below meth c H locs _ _ _ (F0 m 1434 ls [.int (m_la (ga_beat d y1 y2 y3) (gb_beat d y1 y2 y3) (gc_beat d y1 y2 y3))])
    refine lv_iload hx hb dL_law_1434 (lv_at hl 1 rfl) ?_
    refine lv_icmp_eq (tgt := 1441) hx hb dL_law_1436 (by decide) (fun c9 => ?_) (fun c9 => (c9 rfl).elim)
    refine lv_iload hx hb dL_law_1441 (lv_at hl 1 rfl) ?_
    refine lv_if_ne (tgt := 1458) hx hb dL_law_1443 (by decide) (fun c9 => ?_) (fun c9 => absurd c9 (la_ne hgo))
    refine lv_goto (tgt := 1825) hx hb dL_law_1458 (by decide) ?_
    refine lv_iinc (v := (nI (6 * (k + 1)))) (lv' := [(4, .int (nI (6 * (k + 1)))), (6, .int r8), (5, .int (m_la (ga_beat d y1 y2 y3) (gb_beat d y1 y2 y3) (gc_beat d y1 y2 y3))), (0, .ref b), (1, .ref (ca 0)), (2, .ref (ad 0)), (3, .ref oa)]) hx hb dL_law_1825 hl (k := 2) rfl (by rw [show 6 * (k + 1) = 6 * k + 6 by omega]; exact nI_add (6 * k) 6) (by decide) rfl (fun ls hl => ?_)
    refine lv_goto (tgt := 23) hx hb dL_law_1828 (by decide) ?_
    refine W.widen (k := 100 + 40 * (k + 1)) (n := 5000 + 400 * (k + 1)) (by show 100 + 40 * k + 40 + 0 + 0 ≤ _; omega) (by show 5000 + 400 * k + 400 + 0 + 0 ≤ _; omega) ?_
    exact ih ca ad (sL d (m_la (ga_beat d y1 y2 y3) (gb_beat d y1 y2 y3) (gc_beat d y1 y2 y3))) tk st of9 w8 _ _ _ hC8 hM8 hI9 h78 hG (lv_sub hl [0, 3, 4, 5, 6] rfl)
  · skip
    rw [e9]; clear e9
    have z1000 := hM9.1
    show W p l e _ s m args below meth c H locs _ _ _ (F0 m 1404 ls [.int 0])
    have hI9 : iOk (sL d 0) (100 * (k + 1)) := by rw [show 100 * (k + 1) = 100 * k + 100 by omega]; exact iOk_l hI 0
    refine lv_istore (lv' := [(5, .int 0), (4, .int (nI (6 * k))), (0, .ref b), (1, .ref (ca 0)), (2, .ref (ad 0)), (3, .ref oa)]) hx hb dL_law_1404 hl (by decide) rfl (fun ls hl => ?_)
    refine lv_aload_n hx hb dL_law_1406 rfl (lv_at hl 4 rfl) ?_
    refine lv_aload_n hx hb dL_law_1407 rfl (lv_at hl 2 rfl) ?_
    refine lv_iload hx hb dL_law_1408 (lv_at hl 1 rfl) ?_
    refine lv_iconst (v := 1) hx hb dL_law_1410 (by decide) ?_
    refine lv_iadd hx hb dL_law_1411 ?_
    rw [show nI (6 * k) + 1 = nI (6 * k + 1) from nI_add _ _]
    refine va_sld (xs := xs) hx hb hX hbl hbA hG.2.2 (vp_in_nI (by omega) (by omega)) dL_law_1412 ?_
    rw [← ey1]
    refine lv_aload_n hx hb dL_law_1413 rfl (lv_at hl 2 rfl) ?_
    refine lv_iload hx hb dL_law_1414 (lv_at hl 1 rfl) ?_
    refine lv_iconst (v := 2) hx hb dL_law_1416 (by decide) ?_
    refine lv_iadd hx hb dL_law_1417 ?_
    rw [show nI (6 * k) + 2 = nI (6 * k + 2) from nI_add _ _]
    refine va_sld (xs := xs) hx hb hX hbl hbA hG.2.2 (vp_in_nI (by omega) (by omega)) dL_law_1418 ?_
    rw [← ey2]
    refine lv_aload_n hx hb dL_law_1419 rfl (lv_at hl 2 rfl) ?_
    refine lv_iload hx hb dL_law_1420 (lv_at hl 1 rfl) ?_
    refine lv_iconst (v := 3) hx hb dL_law_1422 (by decide) ?_
    refine lv_iadd hx hb dL_law_1423 ?_
    rw [show nI (6 * k) + 3 = nI (6 * k + 3) from nI_add _ _]
    refine va_sld (xs := xs) hx hb hX hbl hbA hG.2.2 (vp_in_nI (by omega) (by omega)) dL_law_1424 ?_
    rw [← ey3]
    refine g_callV (rest := []) (As := [.int y1, .int y2, .int y3]) hE hG hl.1 (c_X6_beat l hfl D tc A w9 ad d tk st y1 y2 y3 hM9 hOk) z1000 rfl mw4_157 mw4_158 mw4_159 mw1_4 mw4_160 rfl nm_X6_beat ⟨⟨Nat.le_of_ble_eq_true rfl, Nat.le_of_ble_eq_true rfl⟩, (by show 100 + 40 * k + 40 + 0 ≤ 601024; omega), (by show 5000 + 400 * k + 400 + 0 ≤ 7293034; omega)⟩ rfl rfl (Nat.le_of_ble_eq_true rfl) dL_law_1425 (g_no) ?_
    intro v8 w8 H locs h8 hG
    rcases h8 with ⟨hg8, -⟩ | ⟨-, e8, hM8, hF8⟩
    · exact absurd hg8 hgo
    rw [e8]; clear e8
    have hC8 : cW tc w8 ca9 (sL d 0) tk st := cW_cg (hC9) hI9.1 (fun q h1 _ => hF8 q h1)
    have h78 := (hF8 7 (by omega)).trans h79
    have z8 := hM8.1
    show W p l e _ s m args below meth c H locs _ _ _ (F0 m 1428 ls [.int (m_beat d y1 y2 y3)])
    refine lv_istore (lv' := [(6, .int (m_beat d y1 y2 y3)), (5, .int 0), (4, .int (nI (6 * k))), (0, .ref b), (1, .ref (ca 0)), (2, .ref (ad 0)), (3, .ref oa)]) hx hb dL_law_1428 hl (by decide) rfl (fun ls hl => ?_)
    refine lv_aload_n hx hb dL_law_1430 rfl (lv_at hl 5 rfl) ?_
    refine g_callV (rest := []) (As := []) hE hG hl.1 (c_X6_thrown l hfl D tc A w8 ad (sL d 0) tk st hM8) z8 rfl mw4_27 mw4_28 mw4_29 mw1_4 mw4_30 rfl nm_X6_thrown ⟨⟨Nat.le_of_ble_eq_true rfl, Nat.le_of_ble_eq_true rfl⟩, (by show 100 + 40 * k + 40 + 0 + 0 ≤ 601024; omega), (by show 5000 + 400 * k + 400 + 0 + 0 ≤ 7293034; omega)⟩ rfl rfl (Nat.le_of_ble_eq_true rfl) dL_law_1431 (g_no) ?_
    intro v6 w6 H locs h6 hG
    obtain ⟨e6, f6⟩ := h6
    rw [f6] at hG; rw [e6, show (sL d 0) 9 14 = 0 from rfl]; clear e6 f6
    show W p l e _ s m args below meth c H locs _ _ _ (F0 m 1434 ls [.int 0])
    refine lv_iload hx hb dL_law_1434 (lv_at hl 1 rfl) ?_
    refine lv_icmp_eq (tgt := 1441) hx hb dL_law_1436 (by decide) (fun _ => ?_) (fun c9 => (c9 (by decide)).elim)
    refine lv_iload hx hb dL_law_1441 (lv_at hl 1 rfl) ?_
    refine lv_if_ne (tgt := 1458) hx hb dL_law_1443 (by decide) (fun c9 => (c9 (by decide)).elim) (fun _ => ?_)
    refine lv_aload_n hx hb dL_law_1446 rfl (lv_at hl 6 rfl) ?_
    refine lv_iconst (v := 0) hx hb dL_law_1447 (by decide) ?_
    refine g_lald hE hG h78 (vp_in_nI (n := 0) (N := 1) (by decide) (by decide)) dL_law_1448 ?_
    rw [show of9 (0 : Int32).toNatClampNeg = (m_beat d y1 y2 y3).toInt64 from hof]
    refine lv_iload hx hb dL_law_1449 (lv_at hl 0 rfl) ?_
    refine lv_i2l (v := (m_beat d y1 y2 y3).toInt64) hx hb dL_law_1451 rfl ?_
    refine W.lcmp hx hb dL_law_1452 ?_
    refine lv_if_eq (tgt := 1458) hx hb dL_law_1453 (by decide) (fun c9 => ?_) (fun c9 => (c9 (lg_self _)).elim)
    refine lv_goto (tgt := 1825) hx hb dL_law_1458 (by decide) ?_
    refine lv_iinc (v := (nI (6 * (k + 1)))) (lv' := [(4, .int (nI (6 * (k + 1)))), (6, .int (m_beat d y1 y2 y3)), (5, .int 0), (0, .ref b), (1, .ref (ca 0)), (2, .ref (ad 0)), (3, .ref oa)]) hx hb dL_law_1825 hl (k := 2) rfl (by rw [show 6 * (k + 1) = 6 * k + 6 by omega]; exact nI_add (6 * k) 6) (by decide) rfl (fun ls hl => ?_)
    refine lv_goto (tgt := 23) hx hb dL_law_1828 (by decide) ?_
    refine W.widen (k := 100 + 40 * (k + 1)) (n := 5000 + 400 * (k + 1)) (by show 100 + 40 * k + 40 + 0 + 0 ≤ _; omega) (by show 5000 + 400 * k + 400 + 0 + 0 ≤ _; omega) ?_
    exact ih ca9 ad (sL d 0) tk st of9 w8 _ _ _ hC8 hM8 hI9 h78 hG (by rw [hca9]; exact lv_sub hl [0, 3, 4, 5, 6] rfl)
set_option maxHeartbeats 4000000 in
set_option maxRecDepth 100000 in
theorem lc_player {p : Program} {l : Launch} {e : Env} {s : State} {m : MethodId} {args : Array Value} {below : List Frame} {meth : Method} {c : Code} {Q : State → Prop} (hfl : l.stackTraces = false) {D : va_G} {tc : Nat → ClassId} {A : Nat → Prop} {b L : Nat} {xs : Nat → Int32} {oa k : Nat} (hE : gE p l s m args meth c code 8 RL D tc A) (hX : va_X b L xs s s.heap) (hbl : b < s.heap.size) (hbA : ¬ A b) (hL : L ≤ 3072) (hk : 6 * k + 6 ≤ L) (ih : gLoop p l e s m args below meth c Q D tc A b oa (k + 1)) (ca ad : Nat → Nat) (d : gDt) (tk : Int64) (st of : Nat → Int64) (w : gW) (H : Heap) (locs : List Loc) (ls : Array Slot) (hC : cW tc w ca d tk st) (hM : mW tc w ad d tk st) (hI : iOk d (100 * k)) (h7 : w 7 = some (oa, .inl (tc 1, 1, .inr (.inl of)))) (hG : gS D A s.heap w H locs) (hl : lv_has ls 8 [(4, .int (nI (6 * k))), (0, .ref b), (1, .ref (ca 0)), (2, .ref (ad 0)), (3, .ref oa)]) : W p l e room_1 s m args below meth c H locs (100 + 40 * k) (5000 + 400 * k) Q (F0 m 1461 ls []) := by
  have hx := hE.1
  have hb := hE.2.1
  obtain ⟨hOk, hF, hT, hpO, hrO, hj⟩ := id hI
  have z0 := hC.1.1
  have zm := hM.1
  obtain ⟨y1, ey1⟩ : ∃ y, y = xs (nI (6 * k + 1)).toNatClampNeg := ⟨_, rfl⟩
  obtain ⟨y2, ey2⟩ : ∃ y, y = xs (nI (6 * k + 2)).toNatClampNeg := ⟨_, rfl⟩
  obtain ⟨y3, ey3⟩ : ∃ y, y = xs (nI (6 * k + 3)).toNatClampNeg := ⟨_, rfl⟩
  obtain ⟨y4, ey4⟩ : ∃ y, y = xs (nI (6 * k + 4)).toNatClampNeg := ⟨_, rfl⟩
  obtain ⟨y5, ey5⟩ : ∃ y, y = xs (nI (6 * k + 5)).toNatClampNeg := ⟨_, rfl⟩
  refine lv_aload_n hx hb dL_law_1461 rfl (lv_at hl 2 rfl) ?_
  refine lv_aload_n hx hb dL_law_1462 rfl (lv_at hl 1 rfl) ?_
  refine lv_iload hx hb dL_law_1463 (lv_at hl 0 rfl) ?_
  refine lv_iconst (v := 1) hx hb dL_law_1465 (by decide) ?_
  refine lv_iadd hx hb dL_law_1466 ?_
  rw [show nI (6 * k) + 1 = nI (6 * k + 1) from nI_add _ _]
  refine va_sld (xs := xs) hx hb hX hbl hbA hG.2.2 (vp_in_nI (by omega) (by omega)) dL_law_1467 ?_
  rw [← ey1]
  refine lv_aload_n hx hb dL_law_1468 rfl (lv_at hl 4 rfl) ?_
  refine g_callSH (rest := []) (As := [.ref (ca 0), .int y1, .ref oa]) hE hG hl.1 (c_L_player l hfl D tc A w ca d tk st y1 oa of (100 * k) hC hI (by omega) h7) mw3_79 mw3_80 mw1_0 mw3_81 nm_L_player ⟨⟨Nat.le_of_ble_eq_true rfl, Nat.le_of_ble_eq_true rfl⟩, (by show 100 + 40 * k + 40 ≤ 601024; omega), (by show 5000 + 400 * k + 400 ≤ 7293034; omega)⟩ rfl rfl (Nat.le_of_ble_eq_true rfl) dL_law_1469 (g_no) ?_
  intro v9 w9 H locs h9 hG
  obtain ⟨hgl, of9, h79, hd⟩ := h9
  have hM9 := mW_cg hM hgl
  rcases hd with ⟨hgo, e9, hC9⟩ | ⟨hgo, e9, hof, ca9, hca9, hC9⟩
  · skip
    rw [e9]; clear e9
    have z1000 := hM9.1
    show W p l e _ s m args below meth c H locs _ _ _ (F0 m 1472 ls [.int (m_la (ga_player d y1) (gb_player d y1) (gc_player d y1))])
    have hI9 : iOk (sL d (m_la (ga_player d y1) (gb_player d y1) (gc_player d y1))) (100 * (k + 1)) := by rw [show 100 * (k + 1) = 100 * k + 100 by omega]; exact iOk_l hI _
    refine lv_istore (lv' := [(5, .int (m_la (ga_player d y1) (gb_player d y1) (gc_player d y1))), (4, .int (nI (6 * k))), (0, .ref b), (1, .ref (ca 0)), (2, .ref (ad 0)), (3, .ref oa)]) hx hb dL_law_1472 hl (by decide) rfl (fun ls hl => ?_)
    refine lv_aload_n hx hb dL_law_1474 rfl (lv_at hl 4 rfl) ?_
    refine lv_aload_n hx hb dL_law_1475 rfl (lv_at hl 2 rfl) ?_
    refine lv_iload hx hb dL_law_1476 (lv_at hl 1 rfl) ?_
    refine lv_iconst (v := 1) hx hb dL_law_1478 (by decide) ?_
    refine lv_iadd hx hb dL_law_1479 ?_
    rw [show nI (6 * k) + 1 = nI (6 * k + 1) from nI_add _ _]
    refine va_sld (xs := xs) hx hb hX hbl hbA hG.2.2 (vp_in_nI (by omega) (by omega)) dL_law_1480 ?_
    rw [← ey1]
    refine g_callV (rest := []) (As := [.int y1]) hE hG hl.1 (c_X6_player l hfl D tc A w9 ad d tk st y1 hM9 hOk) z1000 rfl mw4_161 mw4_162 mw4_163 mw1_4 mw4_164 rfl nm_X6_player ⟨⟨Nat.le_of_ble_eq_true rfl, Nat.le_of_ble_eq_true rfl⟩, (by show 100 + 40 * k + 40 + 0 ≤ 601024; omega), (by show 5000 + 400 * k + 400 + 0 ≤ 7293034; omega)⟩ rfl rfl (Nat.le_of_ble_eq_true rfl) dL_law_1481 (g_no) ?_
    intro v8 w8 H locs h8 hG
    rcases h8 with ⟨-, ⟨r8, e8⟩, hM8, hF8⟩ | ⟨hg8, -⟩
    rotate_left
    · exact absurd hgo hg8
    rw [e8]; clear e8
    have hC8 : cW tc w8 ca (sL d (m_la (ga_player d y1) (gb_player d y1) (gc_player d y1))) tk st := cW_cg (cW_l hC9 _) hI9.1 (fun q h1 _ => hF8 q h1)
    have h78 := (hF8 7 (by omega)).trans h79
    have z8 := hM8.1
    show W p l e _ s m args below meth c H locs _ _ _ (F0 m 1484 ls [.int r8])
    refine lv_istore (lv' := [(6, .int r8), (5, .int (m_la (ga_player d y1) (gb_player d y1) (gc_player d y1))), (4, .int (nI (6 * k))), (0, .ref b), (1, .ref (ca 0)), (2, .ref (ad 0)), (3, .ref oa)]) hx hb dL_law_1484 hl (by decide) rfl (fun ls hl => ?_)
    refine lv_aload_n hx hb dL_law_1486 rfl (lv_at hl 5 rfl) ?_
    refine g_callV (rest := []) (As := []) hE hG hl.1 (c_X6_thrown l hfl D tc A w8 ad (sL d (m_la (ga_player d y1) (gb_player d y1) (gc_player d y1))) tk st hM8) z8 rfl mw4_27 mw4_28 mw4_29 mw1_4 mw4_30 rfl nm_X6_thrown ⟨⟨Nat.le_of_ble_eq_true rfl, Nat.le_of_ble_eq_true rfl⟩, (by show 100 + 40 * k + 40 + 0 + 0 ≤ 601024; omega), (by show 5000 + 400 * k + 400 + 0 + 0 ≤ 7293034; omega)⟩ rfl rfl (Nat.le_of_ble_eq_true rfl) dL_law_1487 (g_no) ?_
    intro v6 w6 H locs h6 hG
    obtain ⟨e6, f6⟩ := h6
    rw [f6] at hG; rw [e6, show (sL d (m_la (ga_player d y1) (gb_player d y1) (gc_player d y1))) 9 14 = (m_la (ga_player d y1) (gb_player d y1) (gc_player d y1)) from rfl]; clear e6 f6
    show W p l e _ s m args below meth c H locs _ _ _ (F0 m 1490 ls [.int (m_la (ga_player d y1) (gb_player d y1) (gc_player d y1))])
    refine lv_iload hx hb dL_law_1490 (lv_at hl 1 rfl) ?_
    refine lv_icmp_eq (tgt := 1497) hx hb dL_law_1492 (by decide) (fun c9 => ?_) (fun c9 => (c9 rfl).elim)
    refine lv_iload hx hb dL_law_1497 (lv_at hl 1 rfl) ?_
    refine lv_if_ne (tgt := 1514) hx hb dL_law_1499 (by decide) (fun c9 => ?_) (fun c9 => absurd c9 (la_ne hgo))
    refine lv_goto (tgt := 1825) hx hb dL_law_1514 (by decide) ?_
    refine lv_iinc (v := (nI (6 * (k + 1)))) (lv' := [(4, .int (nI (6 * (k + 1)))), (6, .int r8), (5, .int (m_la (ga_player d y1) (gb_player d y1) (gc_player d y1))), (0, .ref b), (1, .ref (ca 0)), (2, .ref (ad 0)), (3, .ref oa)]) hx hb dL_law_1825 hl (k := 2) rfl (by rw [show 6 * (k + 1) = 6 * k + 6 by omega]; exact nI_add (6 * k) 6) (by decide) rfl (fun ls hl => ?_)
    refine lv_goto (tgt := 23) hx hb dL_law_1828 (by decide) ?_
    refine W.widen (k := 100 + 40 * (k + 1)) (n := 5000 + 400 * (k + 1)) (by show 100 + 40 * k + 40 + 0 + 0 ≤ _; omega) (by show 5000 + 400 * k + 400 + 0 + 0 ≤ _; omega) ?_
    exact ih ca ad (sL d (m_la (ga_player d y1) (gb_player d y1) (gc_player d y1))) tk st of9 w8 _ _ _ hC8 hM8 hI9 h78 hG (lv_sub hl [0, 3, 4, 5, 6] rfl)
  · skip
    rw [e9]; clear e9
    have z1000 := hM9.1
    show W p l e _ s m args below meth c H locs _ _ _ (F0 m 1472 ls [.int 0])
    have hI9 : iOk (sL (gD (gD d 6 (upd (d 6) (d 9 13).toNatClampNeg y1)) 9 (upd (d 9) 13 (d 9 13 + 1))) 0) (100 * (k + 1)) := by rw [show 100 * (k + 1) = 100 * k + 100 by omega]; exact I_player hI hgo
    refine lv_istore (lv' := [(5, .int 0), (4, .int (nI (6 * k))), (0, .ref b), (1, .ref (ca 0)), (2, .ref (ad 0)), (3, .ref oa)]) hx hb dL_law_1472 hl (by decide) rfl (fun ls hl => ?_)
    refine lv_aload_n hx hb dL_law_1474 rfl (lv_at hl 4 rfl) ?_
    refine lv_aload_n hx hb dL_law_1475 rfl (lv_at hl 2 rfl) ?_
    refine lv_iload hx hb dL_law_1476 (lv_at hl 1 rfl) ?_
    refine lv_iconst (v := 1) hx hb dL_law_1478 (by decide) ?_
    refine lv_iadd hx hb dL_law_1479 ?_
    rw [show nI (6 * k) + 1 = nI (6 * k + 1) from nI_add _ _]
    refine va_sld (xs := xs) hx hb hX hbl hbA hG.2.2 (vp_in_nI (by omega) (by omega)) dL_law_1480 ?_
    rw [← ey1]
    refine g_callV (rest := []) (As := [.int y1]) hE hG hl.1 (c_X6_player l hfl D tc A w9 ad d tk st y1 hM9 hOk) z1000 rfl mw4_161 mw4_162 mw4_163 mw1_4 mw4_164 rfl nm_X6_player ⟨⟨Nat.le_of_ble_eq_true rfl, Nat.le_of_ble_eq_true rfl⟩, (by show 100 + 40 * k + 40 + 0 ≤ 601024; omega), (by show 5000 + 400 * k + 400 + 0 ≤ 7293034; omega)⟩ rfl rfl (Nat.le_of_ble_eq_true rfl) dL_law_1481 (g_no) ?_
    intro v8 w8 H locs h8 hG
    rcases h8 with ⟨hg8, -⟩ | ⟨-, e8, hM8, hF8⟩
    · exact absurd hg8 hgo
    rw [e8]; clear e8
    have hC8 : cW tc w8 ca9 (sL (gD (gD d 6 (upd (d 6) (d 9 13).toNatClampNeg y1)) 9 (upd (d 9) 13 (d 9 13 + 1))) 0) tk st := cW_cg (hC9) hI9.1 (fun q h1 _ => hF8 q h1)
    have h78 := (hF8 7 (by omega)).trans h79
    have z8 := hM8.1
    show W p l e _ s m args below meth c H locs _ _ _ (F0 m 1484 ls [.int (d 9 13 + 1 - 1)])
    refine lv_istore (lv' := [(6, .int (d 9 13 + 1 - 1)), (5, .int 0), (4, .int (nI (6 * k))), (0, .ref b), (1, .ref (ca 0)), (2, .ref (ad 0)), (3, .ref oa)]) hx hb dL_law_1484 hl (by decide) rfl (fun ls hl => ?_)
    refine lv_aload_n hx hb dL_law_1486 rfl (lv_at hl 5 rfl) ?_
    refine g_callV (rest := []) (As := []) hE hG hl.1 (c_X6_thrown l hfl D tc A w8 ad (sL (gD (gD d 6 (upd (d 6) (d 9 13).toNatClampNeg y1)) 9 (upd (d 9) 13 (d 9 13 + 1))) 0) tk st hM8) z8 rfl mw4_27 mw4_28 mw4_29 mw1_4 mw4_30 rfl nm_X6_thrown ⟨⟨Nat.le_of_ble_eq_true rfl, Nat.le_of_ble_eq_true rfl⟩, (by show 100 + 40 * k + 40 + 0 + 0 ≤ 601024; omega), (by show 5000 + 400 * k + 400 + 0 + 0 ≤ 7293034; omega)⟩ rfl rfl (Nat.le_of_ble_eq_true rfl) dL_law_1487 (g_no) ?_
    intro v6 w6 H locs h6 hG
    obtain ⟨e6, f6⟩ := h6
    rw [f6] at hG; rw [e6, show (sL (gD (gD d 6 (upd (d 6) (d 9 13).toNatClampNeg y1)) 9 (upd (d 9) 13 (d 9 13 + 1))) 0) 9 14 = 0 from rfl]; clear e6 f6
    show W p l e _ s m args below meth c H locs _ _ _ (F0 m 1490 ls [.int 0])
    refine lv_iload hx hb dL_law_1490 (lv_at hl 1 rfl) ?_
    refine lv_icmp_eq (tgt := 1497) hx hb dL_law_1492 (by decide) (fun _ => ?_) (fun c9 => (c9 (by decide)).elim)
    refine lv_iload hx hb dL_law_1497 (lv_at hl 1 rfl) ?_
    refine lv_if_ne (tgt := 1514) hx hb dL_law_1499 (by decide) (fun c9 => (c9 (by decide)).elim) (fun _ => ?_)
    refine lv_aload_n hx hb dL_law_1502 rfl (lv_at hl 6 rfl) ?_
    refine lv_iconst (v := 0) hx hb dL_law_1503 (by decide) ?_
    refine g_lald hE hG h78 (vp_in_nI (n := 0) (N := 1) (by decide) (by decide)) dL_law_1504 ?_
    rw [show of9 (0 : Int32).toNatClampNeg = (d 9 13 + 1 - 1).toInt64 from hof]
    refine lv_iload hx hb dL_law_1505 (lv_at hl 0 rfl) ?_
    refine lv_i2l (v := (d 9 13 + 1 - 1).toInt64) hx hb dL_law_1507 rfl ?_
    refine W.lcmp hx hb dL_law_1508 ?_
    refine lv_if_eq (tgt := 1514) hx hb dL_law_1509 (by decide) (fun c9 => ?_) (fun c9 => (c9 (lg_self _)).elim)
    refine lv_goto (tgt := 1825) hx hb dL_law_1514 (by decide) ?_
    refine lv_iinc (v := (nI (6 * (k + 1)))) (lv' := [(4, .int (nI (6 * (k + 1)))), (6, .int (d 9 13 + 1 - 1)), (5, .int 0), (0, .ref b), (1, .ref (ca 0)), (2, .ref (ad 0)), (3, .ref oa)]) hx hb dL_law_1825 hl (k := 2) rfl (by rw [show 6 * (k + 1) = 6 * k + 6 by omega]; exact nI_add (6 * k) 6) (by decide) rfl (fun ls hl => ?_)
    refine lv_goto (tgt := 23) hx hb dL_law_1828 (by decide) ?_
    refine W.widen (k := 100 + 40 * (k + 1)) (n := 5000 + 400 * (k + 1)) (by show 100 + 40 * k + 40 + 0 + 0 ≤ _; omega) (by show 5000 + 400 * k + 400 + 0 + 0 ≤ _; omega) ?_
    exact ih ca9 ad (sL (gD (gD d 6 (upd (d 6) (d 9 13).toNatClampNeg y1)) 9 (upd (d 9) 13 (d 9 13 + 1))) 0) tk st of9 w8 _ _ _ hC8 hM8 hI9 h78 hG (by rw [hca9]; exact lv_sub hl [0, 3, 4, 5, 6] rfl)
set_option maxHeartbeats 4000000 in
set_option maxRecDepth 100000 in
theorem lc_learn {p : Program} {l : Launch} {e : Env} {s : State} {m : MethodId} {args : Array Value} {below : List Frame} {meth : Method} {c : Code} {Q : State → Prop} (hfl : l.stackTraces = false) {D : va_G} {tc : Nat → ClassId} {A : Nat → Prop} {b L : Nat} {xs : Nat → Int32} {oa k : Nat} (hE : gE p l s m args meth c code 8 RL D tc A) (hX : va_X b L xs s s.heap) (hbl : b < s.heap.size) (hbA : ¬ A b) (hL : L ≤ 3072) (hk : 6 * k + 6 ≤ L) (ih : gLoop p l e s m args below meth c Q D tc A b oa (k + 1)) (ca ad : Nat → Nat) (d : gDt) (tk : Int64) (st of : Nat → Int64) (w : gW) (H : Heap) (locs : List Loc) (ls : Array Slot) (hC : cW tc w ca d tk st) (hM : mW tc w ad d tk st) (hI : iOk d (100 * k)) (h7 : w 7 = some (oa, .inl (tc 1, 1, .inr (.inl of)))) (hG : gS D A s.heap w H locs) (hl : lv_has ls 8 [(4, .int (nI (6 * k))), (0, .ref b), (1, .ref (ca 0)), (2, .ref (ad 0)), (3, .ref oa)]) : W p l e room_1 s m args below meth c H locs (100 + 40 * k) (5000 + 400 * k) Q (F0 m 1517 ls []) := by
  have hx := hE.1
  have hb := hE.2.1
  obtain ⟨hOk, hF, hT, hpO, hrO, hj⟩ := id hI
  have z0 := hC.1.1
  have zm := hM.1
  obtain ⟨y1, ey1⟩ : ∃ y, y = xs (nI (6 * k + 1)).toNatClampNeg := ⟨_, rfl⟩
  obtain ⟨y2, ey2⟩ : ∃ y, y = xs (nI (6 * k + 2)).toNatClampNeg := ⟨_, rfl⟩
  obtain ⟨y3, ey3⟩ : ∃ y, y = xs (nI (6 * k + 3)).toNatClampNeg := ⟨_, rfl⟩
  obtain ⟨y4, ey4⟩ : ∃ y, y = xs (nI (6 * k + 4)).toNatClampNeg := ⟨_, rfl⟩
  obtain ⟨y5, ey5⟩ : ∃ y, y = xs (nI (6 * k + 5)).toNatClampNeg := ⟨_, rfl⟩
  refine lv_aload_n hx hb dL_law_1517 rfl (lv_at hl 2 rfl) ?_
  refine lv_aload_n hx hb dL_law_1518 rfl (lv_at hl 1 rfl) ?_
  refine lv_iload hx hb dL_law_1519 (lv_at hl 0 rfl) ?_
  refine lv_iconst (v := 1) hx hb dL_law_1521 (by decide) ?_
  refine lv_iadd hx hb dL_law_1522 ?_
  rw [show nI (6 * k) + 1 = nI (6 * k + 1) from nI_add _ _]
  refine va_sld (xs := xs) hx hb hX hbl hbA hG.2.2 (vp_in_nI (by omega) (by omega)) dL_law_1523 ?_
  rw [← ey1]
  refine lv_aload_n hx hb dL_law_1524 rfl (lv_at hl 1 rfl) ?_
  refine lv_iload hx hb dL_law_1525 (lv_at hl 0 rfl) ?_
  refine lv_iconst (v := 2) hx hb dL_law_1527 (by decide) ?_
  refine lv_iadd hx hb dL_law_1528 ?_
  rw [show nI (6 * k) + 2 = nI (6 * k + 2) from nI_add _ _]
  refine va_sld (xs := xs) hx hb hX hbl hbA hG.2.2 (vp_in_nI (by omega) (by omega)) dL_law_1529 ?_
  rw [← ey2]
  refine lv_aload_n hx hb dL_law_1530 rfl (lv_at hl 1 rfl) ?_
  refine lv_iload hx hb dL_law_1531 (lv_at hl 0 rfl) ?_
  refine lv_iconst (v := 3) hx hb dL_law_1533 (by decide) ?_
  refine lv_iadd hx hb dL_law_1534 ?_
  rw [show nI (6 * k) + 3 = nI (6 * k + 3) from nI_add _ _]
  refine va_sld (xs := xs) hx hb hX hbl hbA hG.2.2 (vp_in_nI (by omega) (by omega)) dL_law_1535 ?_
  rw [← ey3]
  refine lv_aload_n hx hb dL_law_1536 rfl (lv_at hl 4 rfl) ?_
  refine g_callSH (rest := []) (As := [.ref (ca 0), .int y1, .int y2, .int y3, .ref oa]) hE hG hl.1 (c_L_learn l hfl D tc A w ca d tk st y1 y2 y3 oa of (100 * k) hC hI (by omega) h7) mw3_103 mw3_104 mw1_0 mw3_105 nm_L_learn ⟨⟨Nat.le_of_ble_eq_true rfl, Nat.le_of_ble_eq_true rfl⟩, (by show 100 + 40 * k + 40 ≤ 601024; omega), (by show 5000 + 400 * k + 400 ≤ 7293034; omega)⟩ rfl rfl (Nat.le_of_ble_eq_true rfl) dL_law_1537 (g_no) ?_
  intro v9 w9 H locs h9 hG
  obtain ⟨hgl, of9, h79, hd⟩ := h9
  have hM9 := mW_cg hM hgl
  rcases hd with ⟨hgo, e9, hC9⟩ | ⟨hgo, e9, hof, ca9, hca9, hC9⟩
  · skip
    rw [e9]; clear e9
    have z1000 := hM9.1
    show W p l e _ s m args below meth c H locs _ _ _ (F0 m 1540 ls [.int (m_la (ga_learn d y1 y2 y3) (gb_learn d y1 y2 y3) (gc_learn d y1 y2 y3))])
    have hI9 : iOk (sL d (m_la (ga_learn d y1 y2 y3) (gb_learn d y1 y2 y3) (gc_learn d y1 y2 y3))) (100 * (k + 1)) := by rw [show 100 * (k + 1) = 100 * k + 100 by omega]; exact iOk_l hI _
    refine lv_istore (lv' := [(5, .int (m_la (ga_learn d y1 y2 y3) (gb_learn d y1 y2 y3) (gc_learn d y1 y2 y3))), (4, .int (nI (6 * k))), (0, .ref b), (1, .ref (ca 0)), (2, .ref (ad 0)), (3, .ref oa)]) hx hb dL_law_1540 hl (by decide) rfl (fun ls hl => ?_)
    refine lv_aload_n hx hb dL_law_1542 rfl (lv_at hl 4 rfl) ?_
    refine lv_aload_n hx hb dL_law_1543 rfl (lv_at hl 2 rfl) ?_
    refine lv_iload hx hb dL_law_1544 (lv_at hl 1 rfl) ?_
    refine lv_iconst (v := 1) hx hb dL_law_1546 (by decide) ?_
    refine lv_iadd hx hb dL_law_1547 ?_
    rw [show nI (6 * k) + 1 = nI (6 * k + 1) from nI_add _ _]
    refine va_sld (xs := xs) hx hb hX hbl hbA hG.2.2 (vp_in_nI (by omega) (by omega)) dL_law_1548 ?_
    rw [← ey1]
    refine lv_aload_n hx hb dL_law_1549 rfl (lv_at hl 2 rfl) ?_
    refine lv_iload hx hb dL_law_1550 (lv_at hl 1 rfl) ?_
    refine lv_iconst (v := 2) hx hb dL_law_1552 (by decide) ?_
    refine lv_iadd hx hb dL_law_1553 ?_
    rw [show nI (6 * k) + 2 = nI (6 * k + 2) from nI_add _ _]
    refine va_sld (xs := xs) hx hb hX hbl hbA hG.2.2 (vp_in_nI (by omega) (by omega)) dL_law_1554 ?_
    rw [← ey2]
    refine lv_aload_n hx hb dL_law_1555 rfl (lv_at hl 2 rfl) ?_
    refine lv_iload hx hb dL_law_1556 (lv_at hl 1 rfl) ?_
    refine lv_iconst (v := 3) hx hb dL_law_1558 (by decide) ?_
    refine lv_iadd hx hb dL_law_1559 ?_
    rw [show nI (6 * k) + 3 = nI (6 * k + 3) from nI_add _ _]
    refine va_sld (xs := xs) hx hb hX hbl hbA hG.2.2 (vp_in_nI (by omega) (by omega)) dL_law_1560 ?_
    rw [← ey3]
    refine g_callV (rest := []) (As := [.int y1, .int y2, .int y3]) hE hG hl.1 (c_X6_learn l hfl D tc A w9 ad d tk st y1 y2 y3 hM9 hOk) z1000 rfl mw4_165 mw4_166 mw4_167 mw1_4 mw4_168 rfl nm_X6_learn ⟨⟨Nat.le_of_ble_eq_true rfl, Nat.le_of_ble_eq_true rfl⟩, (by show 100 + 40 * k + 40 + 0 ≤ 601024; omega), (by show 5000 + 400 * k + 400 + 0 ≤ 7293034; omega)⟩ rfl rfl (Nat.le_of_ble_eq_true rfl) dL_law_1561 (g_no) ?_
    intro v8 w8 H locs h8 hG
    rcases h8 with ⟨-, ⟨r8, e8⟩, hM8, hF8⟩ | ⟨hg8, -⟩
    rotate_left
    · exact absurd hgo hg8
    rw [e8]; clear e8
    have hC8 : cW tc w8 ca (sL d (m_la (ga_learn d y1 y2 y3) (gb_learn d y1 y2 y3) (gc_learn d y1 y2 y3))) tk st := cW_cg (cW_l hC9 _) hI9.1 (fun q h1 _ => hF8 q h1)
    have h78 := (hF8 7 (by omega)).trans h79
    have z8 := hM8.1
    show W p l e _ s m args below meth c H locs _ _ _ (F0 m 1564 ls [.int r8])
    refine lv_istore (lv' := [(6, .int r8), (5, .int (m_la (ga_learn d y1 y2 y3) (gb_learn d y1 y2 y3) (gc_learn d y1 y2 y3))), (4, .int (nI (6 * k))), (0, .ref b), (1, .ref (ca 0)), (2, .ref (ad 0)), (3, .ref oa)]) hx hb dL_law_1564 hl (by decide) rfl (fun ls hl => ?_)
    refine lv_aload_n hx hb dL_law_1566 rfl (lv_at hl 5 rfl) ?_
    refine g_callV (rest := []) (As := []) hE hG hl.1 (c_X6_thrown l hfl D tc A w8 ad (sL d (m_la (ga_learn d y1 y2 y3) (gb_learn d y1 y2 y3) (gc_learn d y1 y2 y3))) tk st hM8) z8 rfl mw4_27 mw4_28 mw4_29 mw1_4 mw4_30 rfl nm_X6_thrown ⟨⟨Nat.le_of_ble_eq_true rfl, Nat.le_of_ble_eq_true rfl⟩, (by show 100 + 40 * k + 40 + 0 + 0 ≤ 601024; omega), (by show 5000 + 400 * k + 400 + 0 + 0 ≤ 7293034; omega)⟩ rfl rfl (Nat.le_of_ble_eq_true rfl) dL_law_1567 (g_no) ?_
    intro v6 w6 H locs h6 hG
    obtain ⟨e6, f6⟩ := h6
    rw [f6] at hG; rw [e6, show (sL d (m_la (ga_learn d y1 y2 y3) (gb_learn d y1 y2 y3) (gc_learn d y1 y2 y3))) 9 14 = (m_la (ga_learn d y1 y2 y3) (gb_learn d y1 y2 y3) (gc_learn d y1 y2 y3)) from rfl]; clear e6 f6
    show W p l e _ s m args below meth c H locs _ _ _ (F0 m 1570 ls [.int (m_la (ga_learn d y1 y2 y3) (gb_learn d y1 y2 y3) (gc_learn d y1 y2 y3))])
    refine lv_iload hx hb dL_law_1570 (lv_at hl 1 rfl) ?_
    refine lv_icmp_eq (tgt := 1577) hx hb dL_law_1572 (by decide) (fun c9 => ?_) (fun c9 => (c9 rfl).elim)
    refine lv_iload hx hb dL_law_1577 (lv_at hl 1 rfl) ?_
    refine lv_if_ne (tgt := 1594) hx hb dL_law_1579 (by decide) (fun c9 => ?_) (fun c9 => absurd c9 (la_ne hgo))
    refine lv_goto (tgt := 1825) hx hb dL_law_1594 (by decide) ?_
    refine lv_iinc (v := (nI (6 * (k + 1)))) (lv' := [(4, .int (nI (6 * (k + 1)))), (6, .int r8), (5, .int (m_la (ga_learn d y1 y2 y3) (gb_learn d y1 y2 y3) (gc_learn d y1 y2 y3))), (0, .ref b), (1, .ref (ca 0)), (2, .ref (ad 0)), (3, .ref oa)]) hx hb dL_law_1825 hl (k := 2) rfl (by rw [show 6 * (k + 1) = 6 * k + 6 by omega]; exact nI_add (6 * k) 6) (by decide) rfl (fun ls hl => ?_)
    refine lv_goto (tgt := 23) hx hb dL_law_1828 (by decide) ?_
    refine W.widen (k := 100 + 40 * (k + 1)) (n := 5000 + 400 * (k + 1)) (by show 100 + 40 * k + 40 + 0 + 0 ≤ _; omega) (by show 5000 + 400 * k + 400 + 0 + 0 ≤ _; omega) ?_
    exact ih ca ad (sL d (m_la (ga_learn d y1 y2 y3) (gb_learn d y1 y2 y3) (gc_learn d y1 y2 y3))) tk st of9 w8 _ _ _ hC8 hM8 hI9 h78 hG (lv_sub hl [0, 3, 4, 5, 6] rfl)
  · skip
    rw [e9]; clear e9
    have z1000 := hM9.1
    show W p l e _ s m args below meth c H locs _ _ _ (F0 m 1540 ls [.int 0])
    have hI9 : iOk (sL (m_lrn d y1 y2 y3) 0) (100 * (k + 1)) := by rw [show 100 * (k + 1) = 100 * k + 100 by omega]; exact I_learn hI
    refine lv_istore (lv' := [(5, .int 0), (4, .int (nI (6 * k))), (0, .ref b), (1, .ref (ca 0)), (2, .ref (ad 0)), (3, .ref oa)]) hx hb dL_law_1540 hl (by decide) rfl (fun ls hl => ?_)
    refine lv_aload_n hx hb dL_law_1542 rfl (lv_at hl 4 rfl) ?_
    refine lv_aload_n hx hb dL_law_1543 rfl (lv_at hl 2 rfl) ?_
    refine lv_iload hx hb dL_law_1544 (lv_at hl 1 rfl) ?_
    refine lv_iconst (v := 1) hx hb dL_law_1546 (by decide) ?_
    refine lv_iadd hx hb dL_law_1547 ?_
    rw [show nI (6 * k) + 1 = nI (6 * k + 1) from nI_add _ _]
    refine va_sld (xs := xs) hx hb hX hbl hbA hG.2.2 (vp_in_nI (by omega) (by omega)) dL_law_1548 ?_
    rw [← ey1]
    refine lv_aload_n hx hb dL_law_1549 rfl (lv_at hl 2 rfl) ?_
    refine lv_iload hx hb dL_law_1550 (lv_at hl 1 rfl) ?_
    refine lv_iconst (v := 2) hx hb dL_law_1552 (by decide) ?_
    refine lv_iadd hx hb dL_law_1553 ?_
    rw [show nI (6 * k) + 2 = nI (6 * k + 2) from nI_add _ _]
    refine va_sld (xs := xs) hx hb hX hbl hbA hG.2.2 (vp_in_nI (by omega) (by omega)) dL_law_1554 ?_
    rw [← ey2]
    refine lv_aload_n hx hb dL_law_1555 rfl (lv_at hl 2 rfl) ?_
    refine lv_iload hx hb dL_law_1556 (lv_at hl 1 rfl) ?_
    refine lv_iconst (v := 3) hx hb dL_law_1558 (by decide) ?_
    refine lv_iadd hx hb dL_law_1559 ?_
    rw [show nI (6 * k) + 3 = nI (6 * k + 3) from nI_add _ _]
    refine va_sld (xs := xs) hx hb hX hbl hbA hG.2.2 (vp_in_nI (by omega) (by omega)) dL_law_1560 ?_
    rw [← ey3]
    refine g_callV (rest := []) (As := [.int y1, .int y2, .int y3]) hE hG hl.1 (c_X6_learn l hfl D tc A w9 ad d tk st y1 y2 y3 hM9 hOk) z1000 rfl mw4_165 mw4_166 mw4_167 mw1_4 mw4_168 rfl nm_X6_learn ⟨⟨Nat.le_of_ble_eq_true rfl, Nat.le_of_ble_eq_true rfl⟩, (by show 100 + 40 * k + 40 + 0 ≤ 601024; omega), (by show 5000 + 400 * k + 400 + 0 ≤ 7293034; omega)⟩ rfl rfl (Nat.le_of_ble_eq_true rfl) dL_law_1561 (g_no) ?_
    intro v8 w8 H locs h8 hG
    rcases h8 with ⟨hg8, -⟩ | ⟨-, e8, hM8, hF8⟩
    · exact absurd hg8 hgo
    rw [e8]; clear e8
    have hC8 : cW tc w8 ca9 (sL (m_lrn d y1 y2 y3) 0) tk st := cW_cg (hC9) hI9.1 (fun q h1 _ => hF8 q h1)
    have h78 := (hF8 7 (by omega)).trans h79
    have z8 := hM8.1
    show W p l e _ s m args below meth c H locs _ _ _ (F0 m 1564 ls [.int (nI (m_knc (upd (d 7) (6 * y1 + y2).toNatClampNeg 1) y2.toNatClampNeg (nU d)))])
    refine lv_istore (lv' := [(6, .int (nI (m_knc (upd (d 7) (6 * y1 + y2).toNatClampNeg 1) y2.toNatClampNeg (nU d)))), (5, .int 0), (4, .int (nI (6 * k))), (0, .ref b), (1, .ref (ca 0)), (2, .ref (ad 0)), (3, .ref oa)]) hx hb dL_law_1564 hl (by decide) rfl (fun ls hl => ?_)
    refine lv_aload_n hx hb dL_law_1566 rfl (lv_at hl 5 rfl) ?_
    refine g_callV (rest := []) (As := []) hE hG hl.1 (c_X6_thrown l hfl D tc A w8 ad (sL (m_lrn d y1 y2 y3) 0) tk st hM8) z8 rfl mw4_27 mw4_28 mw4_29 mw1_4 mw4_30 rfl nm_X6_thrown ⟨⟨Nat.le_of_ble_eq_true rfl, Nat.le_of_ble_eq_true rfl⟩, (by show 100 + 40 * k + 40 + 0 + 0 ≤ 601024; omega), (by show 5000 + 400 * k + 400 + 0 + 0 ≤ 7293034; omega)⟩ rfl rfl (Nat.le_of_ble_eq_true rfl) dL_law_1567 (g_no) ?_
    intro v6 w6 H locs h6 hG
    obtain ⟨e6, f6⟩ := h6
    rw [f6] at hG; rw [e6, show (sL (m_lrn d y1 y2 y3) 0) 9 14 = 0 from rfl]; clear e6 f6
    show W p l e _ s m args below meth c H locs _ _ _ (F0 m 1570 ls [.int 0])
    refine lv_iload hx hb dL_law_1570 (lv_at hl 1 rfl) ?_
    refine lv_icmp_eq (tgt := 1577) hx hb dL_law_1572 (by decide) (fun _ => ?_) (fun c9 => (c9 (by decide)).elim)
    refine lv_iload hx hb dL_law_1577 (lv_at hl 1 rfl) ?_
    refine lv_if_ne (tgt := 1594) hx hb dL_law_1579 (by decide) (fun c9 => (c9 (by decide)).elim) (fun _ => ?_)
    refine lv_aload_n hx hb dL_law_1582 rfl (lv_at hl 6 rfl) ?_
    refine lv_iconst (v := 0) hx hb dL_law_1583 (by decide) ?_
    refine g_lald hE hG h78 (vp_in_nI (n := 0) (N := 1) (by decide) (by decide)) dL_law_1584 ?_
    rw [show of9 (0 : Int32).toNatClampNeg = (nI (m_knc (upd (d 7) (6 * y1 + y2).toNatClampNeg 1) y2.toNatClampNeg (nU d))).toInt64 from hof]
    refine lv_iload hx hb dL_law_1585 (lv_at hl 0 rfl) ?_
    refine lv_i2l (v := (nI (m_knc (upd (d 7) (6 * y1 + y2).toNatClampNeg 1) y2.toNatClampNeg (nU d))).toInt64) hx hb dL_law_1587 rfl ?_
    refine W.lcmp hx hb dL_law_1588 ?_
    refine lv_if_eq (tgt := 1594) hx hb dL_law_1589 (by decide) (fun c9 => ?_) (fun c9 => (c9 (lg_self _)).elim)
    refine lv_goto (tgt := 1825) hx hb dL_law_1594 (by decide) ?_
    refine lv_iinc (v := (nI (6 * (k + 1)))) (lv' := [(4, .int (nI (6 * (k + 1)))), (6, .int (nI (m_knc (upd (d 7) (6 * y1 + y2).toNatClampNeg 1) y2.toNatClampNeg (nU d)))), (5, .int 0), (0, .ref b), (1, .ref (ca 0)), (2, .ref (ad 0)), (3, .ref oa)]) hx hb dL_law_1825 hl (k := 2) rfl (by rw [show 6 * (k + 1) = 6 * k + 6 by omega]; exact nI_add (6 * k) 6) (by decide) rfl (fun ls hl => ?_)
    refine lv_goto (tgt := 23) hx hb dL_law_1828 (by decide) ?_
    refine W.widen (k := 100 + 40 * (k + 1)) (n := 5000 + 400 * (k + 1)) (by show 100 + 40 * k + 40 + 0 + 0 ≤ _; omega) (by show 5000 + 400 * k + 400 + 0 + 0 ≤ _; omega) ?_
    exact ih ca9 ad (sL (m_lrn d y1 y2 y3) 0) tk st of9 w8 _ _ _ hC8 hM8 hI9 h78 hG (by rw [hca9]; exact lv_sub hl [0, 3, 4, 5, 6] rfl)
set_option maxHeartbeats 4000000 in
set_option maxRecDepth 100000 in
theorem lc_slip {p : Program} {l : Launch} {e : Env} {s : State} {m : MethodId} {args : Array Value} {below : List Frame} {meth : Method} {c : Code} {Q : State → Prop} (hfl : l.stackTraces = false) {D : va_G} {tc : Nat → ClassId} {A : Nat → Prop} {b L : Nat} {xs : Nat → Int32} {oa k : Nat} (hE : gE p l s m args meth c code 8 RL D tc A) (hX : va_X b L xs s s.heap) (hbl : b < s.heap.size) (hbA : ¬ A b) (hL : L ≤ 3072) (hk : 6 * k + 6 ≤ L) (ih : gLoop p l e s m args below meth c Q D tc A b oa (k + 1)) (ca ad : Nat → Nat) (d : gDt) (tk : Int64) (st of : Nat → Int64) (w : gW) (H : Heap) (locs : List Loc) (ls : Array Slot) (hC : cW tc w ca d tk st) (hM : mW tc w ad d tk st) (hI : iOk d (100 * k)) (h7 : w 7 = some (oa, .inl (tc 1, 1, .inr (.inl of)))) (hG : gS D A s.heap w H locs) (hl : lv_has ls 8 [(4, .int (nI (6 * k))), (0, .ref b), (1, .ref (ca 0)), (2, .ref (ad 0)), (3, .ref oa)]) : W p l e room_1 s m args below meth c H locs (100 + 40 * k) (5000 + 400 * k) Q (F0 m 1597 ls []) := by
  have hx := hE.1
  have hb := hE.2.1
  obtain ⟨hOk, hF, hT, hpO, hrO, hj⟩ := id hI
  have z0 := hC.1.1
  have zm := hM.1
  obtain ⟨y1, ey1⟩ : ∃ y, y = xs (nI (6 * k + 1)).toNatClampNeg := ⟨_, rfl⟩
  obtain ⟨y2, ey2⟩ : ∃ y, y = xs (nI (6 * k + 2)).toNatClampNeg := ⟨_, rfl⟩
  obtain ⟨y3, ey3⟩ : ∃ y, y = xs (nI (6 * k + 3)).toNatClampNeg := ⟨_, rfl⟩
  obtain ⟨y4, ey4⟩ : ∃ y, y = xs (nI (6 * k + 4)).toNatClampNeg := ⟨_, rfl⟩
  obtain ⟨y5, ey5⟩ : ∃ y, y = xs (nI (6 * k + 5)).toNatClampNeg := ⟨_, rfl⟩
  refine lv_aload_n hx hb dL_law_1597 rfl (lv_at hl 2 rfl) ?_
  refine lv_aload_n hx hb dL_law_1598 rfl (lv_at hl 1 rfl) ?_
  refine lv_iload hx hb dL_law_1599 (lv_at hl 0 rfl) ?_
  refine lv_iconst (v := 1) hx hb dL_law_1601 (by decide) ?_
  refine lv_iadd hx hb dL_law_1602 ?_
  rw [show nI (6 * k) + 1 = nI (6 * k + 1) from nI_add _ _]
  refine va_sld (xs := xs) hx hb hX hbl hbA hG.2.2 (vp_in_nI (by omega) (by omega)) dL_law_1603 ?_
  rw [← ey1]
  refine lv_aload_n hx hb dL_law_1604 rfl (lv_at hl 1 rfl) ?_
  refine lv_iload hx hb dL_law_1605 (lv_at hl 0 rfl) ?_
  refine lv_iconst (v := 2) hx hb dL_law_1607 (by decide) ?_
  refine lv_iadd hx hb dL_law_1608 ?_
  rw [show nI (6 * k) + 2 = nI (6 * k + 2) from nI_add _ _]
  refine va_sld (xs := xs) hx hb hX hbl hbA hG.2.2 (vp_in_nI (by omega) (by omega)) dL_law_1609 ?_
  rw [← ey2]
  refine lv_aload_n hx hb dL_law_1610 rfl (lv_at hl 1 rfl) ?_
  refine lv_iload hx hb dL_law_1611 (lv_at hl 0 rfl) ?_
  refine lv_iconst (v := 3) hx hb dL_law_1613 (by decide) ?_
  refine lv_iadd hx hb dL_law_1614 ?_
  rw [show nI (6 * k) + 3 = nI (6 * k + 3) from nI_add _ _]
  refine va_sld (xs := xs) hx hb hX hbl hbA hG.2.2 (vp_in_nI (by omega) (by omega)) dL_law_1615 ?_
  rw [← ey3]
  refine lv_aload_n hx hb dL_law_1616 rfl (lv_at hl 1 rfl) ?_
  refine lv_iload hx hb dL_law_1617 (lv_at hl 0 rfl) ?_
  refine lv_iconst (v := 4) hx hb dL_law_1619 (by decide) ?_
  refine lv_iadd hx hb dL_law_1620 ?_
  rw [show nI (6 * k) + 4 = nI (6 * k + 4) from nI_add _ _]
  refine va_sld (xs := xs) hx hb hX hbl hbA hG.2.2 (vp_in_nI (by omega) (by omega)) dL_law_1621 ?_
  rw [← ey4]
  refine lv_aload_n hx hb dL_law_1622 rfl (lv_at hl 4 rfl) ?_
  refine g_callSH (rest := []) (As := [.ref (ca 0), .int y1, .int y2, .int y3, .int y4, .ref oa]) hE hG hl.1 (c_L_slip l hfl D tc A w ca d tk st y1 y2 y3 y4 oa of (100 * k) hC hI (by omega) h7) mw3_141 mw3_142 mw1_0 mw3_143 nm_L_slip ⟨⟨Nat.le_of_ble_eq_true rfl, Nat.le_of_ble_eq_true rfl⟩, (by show 100 + 40 * k + 40 ≤ 601024; omega), (by show 5000 + 400 * k + 400 ≤ 7293034; omega)⟩ rfl rfl (Nat.le_of_ble_eq_true rfl) dL_law_1623 (g_no) ?_
  intro v9 w9 H locs h9 hG
  obtain ⟨hgl, of9, h79, hd⟩ := h9
  have hM9 := mW_cg hM hgl
  rcases hd with ⟨hgo, e9, hC9⟩ | ⟨hgo, e9, hof, ca9, hca9, hC9⟩
  · skip
    rw [e9]; clear e9
    have z1000 := hM9.1
    show W p l e _ s m args below meth c H locs _ _ _ (F0 m 1626 ls [.int (m_la (ga_slip d y1 y2 y3 y4) (gb_slip d y1 y2 y3 y4) (gc_slip d y1 y2 y3 y4))])
    have hI9 : iOk (sL d (m_la (ga_slip d y1 y2 y3 y4) (gb_slip d y1 y2 y3 y4) (gc_slip d y1 y2 y3 y4))) (100 * (k + 1)) := by rw [show 100 * (k + 1) = 100 * k + 100 by omega]; exact iOk_l hI _
    refine lv_istore (lv' := [(5, .int (m_la (ga_slip d y1 y2 y3 y4) (gb_slip d y1 y2 y3 y4) (gc_slip d y1 y2 y3 y4))), (4, .int (nI (6 * k))), (0, .ref b), (1, .ref (ca 0)), (2, .ref (ad 0)), (3, .ref oa)]) hx hb dL_law_1626 hl (by decide) rfl (fun ls hl => ?_)
    refine lv_aload_n hx hb dL_law_1628 rfl (lv_at hl 4 rfl) ?_
    refine lv_aload_n hx hb dL_law_1629 rfl (lv_at hl 2 rfl) ?_
    refine lv_iload hx hb dL_law_1630 (lv_at hl 1 rfl) ?_
    refine lv_iconst (v := 1) hx hb dL_law_1632 (by decide) ?_
    refine lv_iadd hx hb dL_law_1633 ?_
    rw [show nI (6 * k) + 1 = nI (6 * k + 1) from nI_add _ _]
    refine va_sld (xs := xs) hx hb hX hbl hbA hG.2.2 (vp_in_nI (by omega) (by omega)) dL_law_1634 ?_
    rw [← ey1]
    refine lv_aload_n hx hb dL_law_1635 rfl (lv_at hl 2 rfl) ?_
    refine lv_iload hx hb dL_law_1636 (lv_at hl 1 rfl) ?_
    refine lv_iconst (v := 2) hx hb dL_law_1638 (by decide) ?_
    refine lv_iadd hx hb dL_law_1639 ?_
    rw [show nI (6 * k) + 2 = nI (6 * k + 2) from nI_add _ _]
    refine va_sld (xs := xs) hx hb hX hbl hbA hG.2.2 (vp_in_nI (by omega) (by omega)) dL_law_1640 ?_
    rw [← ey2]
    refine lv_aload_n hx hb dL_law_1641 rfl (lv_at hl 2 rfl) ?_
    refine lv_iload hx hb dL_law_1642 (lv_at hl 1 rfl) ?_
    refine lv_iconst (v := 3) hx hb dL_law_1644 (by decide) ?_
    refine lv_iadd hx hb dL_law_1645 ?_
    rw [show nI (6 * k) + 3 = nI (6 * k + 3) from nI_add _ _]
    refine va_sld (xs := xs) hx hb hX hbl hbA hG.2.2 (vp_in_nI (by omega) (by omega)) dL_law_1646 ?_
    rw [← ey3]
    refine lv_aload_n hx hb dL_law_1647 rfl (lv_at hl 2 rfl) ?_
    refine lv_iload hx hb dL_law_1648 (lv_at hl 1 rfl) ?_
    refine lv_iconst (v := 4) hx hb dL_law_1650 (by decide) ?_
    refine lv_iadd hx hb dL_law_1651 ?_
    rw [show nI (6 * k) + 4 = nI (6 * k + 4) from nI_add _ _]
    refine va_sld (xs := xs) hx hb hX hbl hbA hG.2.2 (vp_in_nI (by omega) (by omega)) dL_law_1652 ?_
    rw [← ey4]
    refine g_callV (rest := []) (As := [.int y1, .int y2, .int y3, .int y4]) hE hG hl.1 (c_X6_slip l hfl D tc A w9 ad d tk st y1 y2 y3 y4 hM9 hOk) z1000 rfl mw4_181 mw4_182 mw4_183 mw1_4 mw4_184 rfl nm_X6_slip ⟨⟨Nat.le_of_ble_eq_true rfl, Nat.le_of_ble_eq_true rfl⟩, (by show 100 + 40 * k + 40 + 0 ≤ 601024; omega), (by show 5000 + 400 * k + 400 + 0 ≤ 7293034; omega)⟩ rfl rfl (Nat.le_of_ble_eq_true rfl) dL_law_1653 (g_no) ?_
    intro v8 w8 H locs h8 hG
    rcases h8 with ⟨-, ⟨r8, e8⟩, hM8, hF8⟩ | ⟨hg8, -⟩
    rotate_left
    · exact absurd hgo hg8
    rw [e8]; clear e8
    have hC8 : cW tc w8 ca (sL d (m_la (ga_slip d y1 y2 y3 y4) (gb_slip d y1 y2 y3 y4) (gc_slip d y1 y2 y3 y4))) tk st := cW_cg (cW_l hC9 _) hI9.1 (fun q h1 _ => hF8 q h1)
    have h78 := (hF8 7 (by omega)).trans h79
    have z8 := hM8.1
    show W p l e _ s m args below meth c H locs _ _ _ (F0 m 1656 ls [.int r8])
    refine lv_istore (lv' := [(6, .int r8), (5, .int (m_la (ga_slip d y1 y2 y3 y4) (gb_slip d y1 y2 y3 y4) (gc_slip d y1 y2 y3 y4))), (4, .int (nI (6 * k))), (0, .ref b), (1, .ref (ca 0)), (2, .ref (ad 0)), (3, .ref oa)]) hx hb dL_law_1656 hl (by decide) rfl (fun ls hl => ?_)
    refine lv_aload_n hx hb dL_law_1658 rfl (lv_at hl 5 rfl) ?_
    refine g_callV (rest := []) (As := []) hE hG hl.1 (c_X6_thrown l hfl D tc A w8 ad (sL d (m_la (ga_slip d y1 y2 y3 y4) (gb_slip d y1 y2 y3 y4) (gc_slip d y1 y2 y3 y4))) tk st hM8) z8 rfl mw4_27 mw4_28 mw4_29 mw1_4 mw4_30 rfl nm_X6_thrown ⟨⟨Nat.le_of_ble_eq_true rfl, Nat.le_of_ble_eq_true rfl⟩, (by show 100 + 40 * k + 40 + 0 + 0 ≤ 601024; omega), (by show 5000 + 400 * k + 400 + 0 + 0 ≤ 7293034; omega)⟩ rfl rfl (Nat.le_of_ble_eq_true rfl) dL_law_1659 (g_no) ?_
    intro v6 w6 H locs h6 hG
    obtain ⟨e6, f6⟩ := h6
    rw [f6] at hG; rw [e6, show (sL d (m_la (ga_slip d y1 y2 y3 y4) (gb_slip d y1 y2 y3 y4) (gc_slip d y1 y2 y3 y4))) 9 14 = (m_la (ga_slip d y1 y2 y3 y4) (gb_slip d y1 y2 y3 y4) (gc_slip d y1 y2 y3 y4)) from rfl]; clear e6 f6
    show W p l e _ s m args below meth c H locs _ _ _ (F0 m 1662 ls [.int (m_la (ga_slip d y1 y2 y3 y4) (gb_slip d y1 y2 y3 y4) (gc_slip d y1 y2 y3 y4))])
    refine lv_iload hx hb dL_law_1662 (lv_at hl 1 rfl) ?_
    refine lv_icmp_eq (tgt := 1669) hx hb dL_law_1664 (by decide) (fun c9 => ?_) (fun c9 => (c9 rfl).elim)
    refine lv_iload hx hb dL_law_1669 (lv_at hl 1 rfl) ?_
    refine lv_if_ne (tgt := 1686) hx hb dL_law_1671 (by decide) (fun c9 => ?_) (fun c9 => absurd c9 (la_ne hgo))
    refine lv_goto (tgt := 1825) hx hb dL_law_1686 (by decide) ?_
    refine lv_iinc (v := (nI (6 * (k + 1)))) (lv' := [(4, .int (nI (6 * (k + 1)))), (6, .int r8), (5, .int (m_la (ga_slip d y1 y2 y3 y4) (gb_slip d y1 y2 y3 y4) (gc_slip d y1 y2 y3 y4))), (0, .ref b), (1, .ref (ca 0)), (2, .ref (ad 0)), (3, .ref oa)]) hx hb dL_law_1825 hl (k := 2) rfl (by rw [show 6 * (k + 1) = 6 * k + 6 by omega]; exact nI_add (6 * k) 6) (by decide) rfl (fun ls hl => ?_)
    refine lv_goto (tgt := 23) hx hb dL_law_1828 (by decide) ?_
    refine W.widen (k := 100 + 40 * (k + 1)) (n := 5000 + 400 * (k + 1)) (by show 100 + 40 * k + 40 + 0 + 0 ≤ _; omega) (by show 5000 + 400 * k + 400 + 0 + 0 ≤ _; omega) ?_
    exact ih ca ad (sL d (m_la (ga_slip d y1 y2 y3 y4) (gb_slip d y1 y2 y3 y4) (gc_slip d y1 y2 y3 y4))) tk st of9 w8 _ _ _ hC8 hM8 hI9 h78 hG (lv_sub hl [0, 3, 4, 5, 6] rfl)
  · skip
    rw [e9]; clear e9
    have z1000 := hM9.1
    show W p l e _ s m args below meth c H locs _ _ _ (F0 m 1626 ls [.int 0])
    have hI9 : iOk (sL (gD d 8 (upd (d 8) (65 * (6 * y1 + y2) + y3).toNatClampNeg y4)) 0) (100 * (k + 1)) := by rw [show 100 * (k + 1) = 100 * k + 100 by omega]; exact I_slip hI
    refine lv_istore (lv' := [(5, .int 0), (4, .int (nI (6 * k))), (0, .ref b), (1, .ref (ca 0)), (2, .ref (ad 0)), (3, .ref oa)]) hx hb dL_law_1626 hl (by decide) rfl (fun ls hl => ?_)
    refine lv_aload_n hx hb dL_law_1628 rfl (lv_at hl 4 rfl) ?_
    refine lv_aload_n hx hb dL_law_1629 rfl (lv_at hl 2 rfl) ?_
    refine lv_iload hx hb dL_law_1630 (lv_at hl 1 rfl) ?_
    refine lv_iconst (v := 1) hx hb dL_law_1632 (by decide) ?_
    refine lv_iadd hx hb dL_law_1633 ?_
    rw [show nI (6 * k) + 1 = nI (6 * k + 1) from nI_add _ _]
    refine va_sld (xs := xs) hx hb hX hbl hbA hG.2.2 (vp_in_nI (by omega) (by omega)) dL_law_1634 ?_
    rw [← ey1]
    refine lv_aload_n hx hb dL_law_1635 rfl (lv_at hl 2 rfl) ?_
    refine lv_iload hx hb dL_law_1636 (lv_at hl 1 rfl) ?_
    refine lv_iconst (v := 2) hx hb dL_law_1638 (by decide) ?_
    refine lv_iadd hx hb dL_law_1639 ?_
    rw [show nI (6 * k) + 2 = nI (6 * k + 2) from nI_add _ _]
    refine va_sld (xs := xs) hx hb hX hbl hbA hG.2.2 (vp_in_nI (by omega) (by omega)) dL_law_1640 ?_
    rw [← ey2]
    refine lv_aload_n hx hb dL_law_1641 rfl (lv_at hl 2 rfl) ?_
    refine lv_iload hx hb dL_law_1642 (lv_at hl 1 rfl) ?_
    refine lv_iconst (v := 3) hx hb dL_law_1644 (by decide) ?_
    refine lv_iadd hx hb dL_law_1645 ?_
    rw [show nI (6 * k) + 3 = nI (6 * k + 3) from nI_add _ _]
    refine va_sld (xs := xs) hx hb hX hbl hbA hG.2.2 (vp_in_nI (by omega) (by omega)) dL_law_1646 ?_
    rw [← ey3]
    refine lv_aload_n hx hb dL_law_1647 rfl (lv_at hl 2 rfl) ?_
    refine lv_iload hx hb dL_law_1648 (lv_at hl 1 rfl) ?_
    refine lv_iconst (v := 4) hx hb dL_law_1650 (by decide) ?_
    refine lv_iadd hx hb dL_law_1651 ?_
    rw [show nI (6 * k) + 4 = nI (6 * k + 4) from nI_add _ _]
    refine va_sld (xs := xs) hx hb hX hbl hbA hG.2.2 (vp_in_nI (by omega) (by omega)) dL_law_1652 ?_
    rw [← ey4]
    refine g_callV (rest := []) (As := [.int y1, .int y2, .int y3, .int y4]) hE hG hl.1 (c_X6_slip l hfl D tc A w9 ad d tk st y1 y2 y3 y4 hM9 hOk) z1000 rfl mw4_181 mw4_182 mw4_183 mw1_4 mw4_184 rfl nm_X6_slip ⟨⟨Nat.le_of_ble_eq_true rfl, Nat.le_of_ble_eq_true rfl⟩, (by show 100 + 40 * k + 40 + 0 ≤ 601024; omega), (by show 5000 + 400 * k + 400 + 0 ≤ 7293034; omega)⟩ rfl rfl (Nat.le_of_ble_eq_true rfl) dL_law_1653 (g_no) ?_
    intro v8 w8 H locs h8 hG
    rcases h8 with ⟨hg8, -⟩ | ⟨-, e8, hM8, hF8⟩
    · exact absurd hg8 hgo
    rw [e8]; clear e8
    have hC8 : cW tc w8 ca9 (sL (gD d 8 (upd (d 8) (65 * (6 * y1 + y2) + y3).toNatClampNeg y4)) 0) tk st := cW_cg (hC9) hI9.1 (fun q h1 _ => hF8 q h1)
    have h78 := (hF8 7 (by omega)).trans h79
    have z8 := hM8.1
    show W p l e _ s m args below meth c H locs _ _ _ (F0 m 1656 ls [.int (d 8 (65 * (6 * y1 + y2) + y3).toNatClampNeg)])
    refine lv_istore (lv' := [(6, .int (d 8 (65 * (6 * y1 + y2) + y3).toNatClampNeg)), (5, .int 0), (4, .int (nI (6 * k))), (0, .ref b), (1, .ref (ca 0)), (2, .ref (ad 0)), (3, .ref oa)]) hx hb dL_law_1656 hl (by decide) rfl (fun ls hl => ?_)
    refine lv_aload_n hx hb dL_law_1658 rfl (lv_at hl 5 rfl) ?_
    refine g_callV (rest := []) (As := []) hE hG hl.1 (c_X6_thrown l hfl D tc A w8 ad (sL (gD d 8 (upd (d 8) (65 * (6 * y1 + y2) + y3).toNatClampNeg y4)) 0) tk st hM8) z8 rfl mw4_27 mw4_28 mw4_29 mw1_4 mw4_30 rfl nm_X6_thrown ⟨⟨Nat.le_of_ble_eq_true rfl, Nat.le_of_ble_eq_true rfl⟩, (by show 100 + 40 * k + 40 + 0 + 0 ≤ 601024; omega), (by show 5000 + 400 * k + 400 + 0 + 0 ≤ 7293034; omega)⟩ rfl rfl (Nat.le_of_ble_eq_true rfl) dL_law_1659 (g_no) ?_
    intro v6 w6 H locs h6 hG
    obtain ⟨e6, f6⟩ := h6
    rw [f6] at hG; rw [e6, show (sL (gD d 8 (upd (d 8) (65 * (6 * y1 + y2) + y3).toNatClampNeg y4)) 0) 9 14 = 0 from rfl]; clear e6 f6
    show W p l e _ s m args below meth c H locs _ _ _ (F0 m 1662 ls [.int 0])
    refine lv_iload hx hb dL_law_1662 (lv_at hl 1 rfl) ?_
    refine lv_icmp_eq (tgt := 1669) hx hb dL_law_1664 (by decide) (fun _ => ?_) (fun c9 => (c9 (by decide)).elim)
    refine lv_iload hx hb dL_law_1669 (lv_at hl 1 rfl) ?_
    refine lv_if_ne (tgt := 1686) hx hb dL_law_1671 (by decide) (fun c9 => (c9 (by decide)).elim) (fun _ => ?_)
    refine lv_aload_n hx hb dL_law_1674 rfl (lv_at hl 6 rfl) ?_
    refine lv_iconst (v := 0) hx hb dL_law_1675 (by decide) ?_
    refine g_lald hE hG h78 (vp_in_nI (n := 0) (N := 1) (by decide) (by decide)) dL_law_1676 ?_
    rw [show of9 (0 : Int32).toNatClampNeg = (d 8 (65 * (6 * y1 + y2) + y3).toNatClampNeg).toInt64 from hof]
    refine lv_iload hx hb dL_law_1677 (lv_at hl 0 rfl) ?_
    refine lv_i2l (v := (d 8 (65 * (6 * y1 + y2) + y3).toNatClampNeg).toInt64) hx hb dL_law_1679 rfl ?_
    refine W.lcmp hx hb dL_law_1680 ?_
    refine lv_if_eq (tgt := 1686) hx hb dL_law_1681 (by decide) (fun c9 => ?_) (fun c9 => (c9 (lg_self _)).elim)
    refine lv_goto (tgt := 1825) hx hb dL_law_1686 (by decide) ?_
    refine lv_iinc (v := (nI (6 * (k + 1)))) (lv' := [(4, .int (nI (6 * (k + 1)))), (6, .int (d 8 (65 * (6 * y1 + y2) + y3).toNatClampNeg)), (5, .int 0), (0, .ref b), (1, .ref (ca 0)), (2, .ref (ad 0)), (3, .ref oa)]) hx hb dL_law_1825 hl (k := 2) rfl (by rw [show 6 * (k + 1) = 6 * k + 6 by omega]; exact nI_add (6 * k) 6) (by decide) rfl (fun ls hl => ?_)
    refine lv_goto (tgt := 23) hx hb dL_law_1828 (by decide) ?_
    refine W.widen (k := 100 + 40 * (k + 1)) (n := 5000 + 400 * (k + 1)) (by show 100 + 40 * k + 40 + 0 + 0 ≤ _; omega) (by show 5000 + 400 * k + 400 + 0 + 0 ≤ _; omega) ?_
    exact ih ca9 ad (sL (gD d 8 (upd (d 8) (65 * (6 * y1 + y2) + y3).toNatClampNeg y4)) 0) tk st of9 w8 _ _ _ hC8 hM8 hI9 h78 hG (by rw [hca9]; exact lv_sub hl [0, 3, 4, 5, 6] rfl)
set_option maxHeartbeats 4000000 in
set_option maxRecDepth 100000 in
theorem lc_unlike {p : Program} {l : Launch} {e : Env} {s : State} {m : MethodId} {args : Array Value} {below : List Frame} {meth : Method} {c : Code} {Q : State → Prop} (hfl : l.stackTraces = false) {D : va_G} {tc : Nat → ClassId} {A : Nat → Prop} {b L : Nat} {xs : Nat → Int32} {oa k : Nat} (hE : gE p l s m args meth c code 8 RL D tc A) (hX : va_X b L xs s s.heap) (hbl : b < s.heap.size) (hbA : ¬ A b) (hL : L ≤ 3072) (hk : 6 * k + 6 ≤ L) (ih : gLoop p l e s m args below meth c Q D tc A b oa (k + 1)) (ca ad : Nat → Nat) (d : gDt) (tk : Int64) (st of : Nat → Int64) (w : gW) (H : Heap) (locs : List Loc) (ls : Array Slot) (hC : cW tc w ca d tk st) (hM : mW tc w ad d tk st) (hI : iOk d (100 * k)) (h7 : w 7 = some (oa, .inl (tc 1, 1, .inr (.inl of)))) (hG : gS D A s.heap w H locs) (hl : lv_has ls 8 [(4, .int (nI (6 * k))), (0, .ref b), (1, .ref (ca 0)), (2, .ref (ad 0)), (3, .ref oa)]) : W p l e room_1 s m args below meth c H locs (100 + 40 * k) (5000 + 400 * k) Q (F0 m 1689 ls []) := by
  have hx := hE.1
  have hb := hE.2.1
  obtain ⟨hOk, hF, hT, hpO, hrO, hj⟩ := id hI
  have z0 := hC.1.1
  have zm := hM.1
  obtain ⟨y1, ey1⟩ : ∃ y, y = xs (nI (6 * k + 1)).toNatClampNeg := ⟨_, rfl⟩
  obtain ⟨y2, ey2⟩ : ∃ y, y = xs (nI (6 * k + 2)).toNatClampNeg := ⟨_, rfl⟩
  obtain ⟨y3, ey3⟩ : ∃ y, y = xs (nI (6 * k + 3)).toNatClampNeg := ⟨_, rfl⟩
  obtain ⟨y4, ey4⟩ : ∃ y, y = xs (nI (6 * k + 4)).toNatClampNeg := ⟨_, rfl⟩
  obtain ⟨y5, ey5⟩ : ∃ y, y = xs (nI (6 * k + 5)).toNatClampNeg := ⟨_, rfl⟩
  refine lv_aload_n hx hb dL_law_1689 rfl (lv_at hl 2 rfl) ?_
  refine lv_aload_n hx hb dL_law_1690 rfl (lv_at hl 1 rfl) ?_
  refine lv_iload hx hb dL_law_1691 (lv_at hl 0 rfl) ?_
  refine lv_iconst (v := 1) hx hb dL_law_1693 (by decide) ?_
  refine lv_iadd hx hb dL_law_1694 ?_
  rw [show nI (6 * k) + 1 = nI (6 * k + 1) from nI_add _ _]
  refine va_sld (xs := xs) hx hb hX hbl hbA hG.2.2 (vp_in_nI (by omega) (by omega)) dL_law_1695 ?_
  rw [← ey1]
  refine lv_aload_n hx hb dL_law_1696 rfl (lv_at hl 1 rfl) ?_
  refine lv_iload hx hb dL_law_1697 (lv_at hl 0 rfl) ?_
  refine lv_iconst (v := 2) hx hb dL_law_1699 (by decide) ?_
  refine lv_iadd hx hb dL_law_1700 ?_
  rw [show nI (6 * k) + 2 = nI (6 * k + 2) from nI_add _ _]
  refine va_sld (xs := xs) hx hb hX hbl hbA hG.2.2 (vp_in_nI (by omega) (by omega)) dL_law_1701 ?_
  rw [← ey2]
  refine lv_aload_n hx hb dL_law_1702 rfl (lv_at hl 1 rfl) ?_
  refine lv_iload hx hb dL_law_1703 (lv_at hl 0 rfl) ?_
  refine lv_iconst (v := 3) hx hb dL_law_1705 (by decide) ?_
  refine lv_iadd hx hb dL_law_1706 ?_
  rw [show nI (6 * k) + 3 = nI (6 * k + 3) from nI_add _ _]
  refine va_sld (xs := xs) hx hb hX hbl hbA hG.2.2 (vp_in_nI (by omega) (by omega)) dL_law_1707 ?_
  rw [← ey3]
  refine lv_aload_n hx hb dL_law_1708 rfl (lv_at hl 4 rfl) ?_
  refine g_callSH (rest := []) (As := [.ref (ca 0), .int y1, .int y2, .int y3, .ref oa]) hE hG hl.1 (c_L_unlike l hfl D tc A w ca d tk st y1 y2 y3 oa of (100 * k) hC hI (by omega) h7) mw3_149 mw3_150 mw1_0 mw3_151 nm_L_unlike ⟨⟨Nat.le_of_ble_eq_true rfl, Nat.le_of_ble_eq_true rfl⟩, (by show 100 + 40 * k + 40 ≤ 601024; omega), (by show 5000 + 400 * k + 400 ≤ 7293034; omega)⟩ rfl rfl (Nat.le_of_ble_eq_true rfl) dL_law_1709 (g_no) ?_
  intro v9 w9 H locs h9 hG
  obtain ⟨hgl, of9, h79, hd⟩ := h9
  have hM9 := mW_cg hM hgl
  rcases hd with ⟨hgo, e9, hC9⟩ | ⟨hgo, e9, hof, ca9, hca9, hC9⟩
  · skip
    rw [e9]; clear e9
    have z1000 := hM9.1
    show W p l e _ s m args below meth c H locs _ _ _ (F0 m 1712 ls [.int (m_la (ga_unlike d y1 y2 y3) (gb_unlike d y1 y2 y3) (gc_unlike d y1 y2 y3))])
    have hI9 : iOk (sL d (m_la (ga_unlike d y1 y2 y3) (gb_unlike d y1 y2 y3) (gc_unlike d y1 y2 y3))) (100 * (k + 1)) := by rw [show 100 * (k + 1) = 100 * k + 100 by omega]; exact iOk_l hI _
    refine lv_istore (lv' := [(5, .int (m_la (ga_unlike d y1 y2 y3) (gb_unlike d y1 y2 y3) (gc_unlike d y1 y2 y3))), (4, .int (nI (6 * k))), (0, .ref b), (1, .ref (ca 0)), (2, .ref (ad 0)), (3, .ref oa)]) hx hb dL_law_1712 hl (by decide) rfl (fun ls hl => ?_)
    refine lv_aload_n hx hb dL_law_1714 rfl (lv_at hl 4 rfl) ?_
    refine lv_aload_n hx hb dL_law_1715 rfl (lv_at hl 2 rfl) ?_
    refine lv_iload hx hb dL_law_1716 (lv_at hl 1 rfl) ?_
    refine lv_iconst (v := 1) hx hb dL_law_1718 (by decide) ?_
    refine lv_iadd hx hb dL_law_1719 ?_
    rw [show nI (6 * k) + 1 = nI (6 * k + 1) from nI_add _ _]
    refine va_sld (xs := xs) hx hb hX hbl hbA hG.2.2 (vp_in_nI (by omega) (by omega)) dL_law_1720 ?_
    rw [← ey1]
    refine lv_aload_n hx hb dL_law_1721 rfl (lv_at hl 2 rfl) ?_
    refine lv_iload hx hb dL_law_1722 (lv_at hl 1 rfl) ?_
    refine lv_iconst (v := 2) hx hb dL_law_1724 (by decide) ?_
    refine lv_iadd hx hb dL_law_1725 ?_
    rw [show nI (6 * k) + 2 = nI (6 * k + 2) from nI_add _ _]
    refine va_sld (xs := xs) hx hb hX hbl hbA hG.2.2 (vp_in_nI (by omega) (by omega)) dL_law_1726 ?_
    rw [← ey2]
    refine lv_aload_n hx hb dL_law_1727 rfl (lv_at hl 2 rfl) ?_
    refine lv_iload hx hb dL_law_1728 (lv_at hl 1 rfl) ?_
    refine lv_iconst (v := 3) hx hb dL_law_1730 (by decide) ?_
    refine lv_iadd hx hb dL_law_1731 ?_
    rw [show nI (6 * k) + 3 = nI (6 * k + 3) from nI_add _ _]
    refine va_sld (xs := xs) hx hb hX hbl hbA hG.2.2 (vp_in_nI (by omega) (by omega)) dL_law_1732 ?_
    rw [← ey3]
    refine g_callV (rest := []) (As := [.int y1, .int y2, .int y3]) hE hG hl.1 (c_X6_unlike l hfl D tc A w9 ad d tk st y1 y2 y3 hM9 hOk) z1000 rfl mw4_185 mw4_186 mw4_187 mw1_4 mw4_188 rfl nm_X6_unlike ⟨⟨Nat.le_of_ble_eq_true rfl, Nat.le_of_ble_eq_true rfl⟩, (by show 100 + 40 * k + 40 + 0 ≤ 601024; omega), (by show 5000 + 400 * k + 400 + 0 ≤ 7293034; omega)⟩ rfl rfl (Nat.le_of_ble_eq_true rfl) dL_law_1733 (g_no) ?_
    intro v8 w8 H locs h8 hG
    rcases h8 with ⟨-, ⟨r8, e8⟩, hM8, hF8⟩ | ⟨hg8, -⟩
    rotate_left
    · exact absurd hgo hg8
    rw [e8]; clear e8
    have hC8 : cW tc w8 ca (sL d (m_la (ga_unlike d y1 y2 y3) (gb_unlike d y1 y2 y3) (gc_unlike d y1 y2 y3))) tk st := cW_cg (cW_l hC9 _) hI9.1 (fun q h1 _ => hF8 q h1)
    have h78 := (hF8 7 (by omega)).trans h79
    have z8 := hM8.1
    show W p l e _ s m args below meth c H locs _ _ _ (F0 m 1736 ls [.int r8])
    refine lv_istore (lv' := [(6, .int r8), (5, .int (m_la (ga_unlike d y1 y2 y3) (gb_unlike d y1 y2 y3) (gc_unlike d y1 y2 y3))), (4, .int (nI (6 * k))), (0, .ref b), (1, .ref (ca 0)), (2, .ref (ad 0)), (3, .ref oa)]) hx hb dL_law_1736 hl (by decide) rfl (fun ls hl => ?_)
    refine lv_aload_n hx hb dL_law_1738 rfl (lv_at hl 5 rfl) ?_
    refine g_callV (rest := []) (As := []) hE hG hl.1 (c_X6_thrown l hfl D tc A w8 ad (sL d (m_la (ga_unlike d y1 y2 y3) (gb_unlike d y1 y2 y3) (gc_unlike d y1 y2 y3))) tk st hM8) z8 rfl mw4_27 mw4_28 mw4_29 mw1_4 mw4_30 rfl nm_X6_thrown ⟨⟨Nat.le_of_ble_eq_true rfl, Nat.le_of_ble_eq_true rfl⟩, (by show 100 + 40 * k + 40 + 0 + 0 ≤ 601024; omega), (by show 5000 + 400 * k + 400 + 0 + 0 ≤ 7293034; omega)⟩ rfl rfl (Nat.le_of_ble_eq_true rfl) dL_law_1739 (g_no) ?_
    intro v6 w6 H locs h6 hG
    obtain ⟨e6, f6⟩ := h6
    rw [f6] at hG; rw [e6, show (sL d (m_la (ga_unlike d y1 y2 y3) (gb_unlike d y1 y2 y3) (gc_unlike d y1 y2 y3))) 9 14 = (m_la (ga_unlike d y1 y2 y3) (gb_unlike d y1 y2 y3) (gc_unlike d y1 y2 y3)) from rfl]; clear e6 f6
    show W p l e _ s m args below meth c H locs _ _ _ (F0 m 1742 ls [.int (m_la (ga_unlike d y1 y2 y3) (gb_unlike d y1 y2 y3) (gc_unlike d y1 y2 y3))])
    refine lv_iload hx hb dL_law_1742 (lv_at hl 1 rfl) ?_
    refine lv_icmp_eq (tgt := 1749) hx hb dL_law_1744 (by decide) (fun c9 => ?_) (fun c9 => (c9 rfl).elim)
    refine lv_iload hx hb dL_law_1749 (lv_at hl 1 rfl) ?_
    refine lv_if_ne (tgt := 1766) hx hb dL_law_1751 (by decide) (fun c9 => ?_) (fun c9 => absurd c9 (la_ne hgo))
    refine lv_goto (tgt := 1825) hx hb dL_law_1766 (by decide) ?_
    refine lv_iinc (v := (nI (6 * (k + 1)))) (lv' := [(4, .int (nI (6 * (k + 1)))), (6, .int r8), (5, .int (m_la (ga_unlike d y1 y2 y3) (gb_unlike d y1 y2 y3) (gc_unlike d y1 y2 y3))), (0, .ref b), (1, .ref (ca 0)), (2, .ref (ad 0)), (3, .ref oa)]) hx hb dL_law_1825 hl (k := 2) rfl (by rw [show 6 * (k + 1) = 6 * k + 6 by omega]; exact nI_add (6 * k) 6) (by decide) rfl (fun ls hl => ?_)
    refine lv_goto (tgt := 23) hx hb dL_law_1828 (by decide) ?_
    refine W.widen (k := 100 + 40 * (k + 1)) (n := 5000 + 400 * (k + 1)) (by show 100 + 40 * k + 40 + 0 + 0 ≤ _; omega) (by show 5000 + 400 * k + 400 + 0 + 0 ≤ _; omega) ?_
    exact ih ca ad (sL d (m_la (ga_unlike d y1 y2 y3) (gb_unlike d y1 y2 y3) (gc_unlike d y1 y2 y3))) tk st of9 w8 _ _ _ hC8 hM8 hI9 h78 hG (lv_sub hl [0, 3, 4, 5, 6] rfl)
  · skip
    rw [e9]; clear e9
    have z1000 := hM9.1
    show W p l e _ s m args below meth c H locs _ _ _ (F0 m 1712 ls [.int 0])
    have hI9 : iOk (sL d 0) (100 * (k + 1)) := by rw [show 100 * (k + 1) = 100 * k + 100 by omega]; exact iOk_l hI 0
    refine lv_istore (lv' := [(5, .int 0), (4, .int (nI (6 * k))), (0, .ref b), (1, .ref (ca 0)), (2, .ref (ad 0)), (3, .ref oa)]) hx hb dL_law_1712 hl (by decide) rfl (fun ls hl => ?_)
    refine lv_aload_n hx hb dL_law_1714 rfl (lv_at hl 4 rfl) ?_
    refine lv_aload_n hx hb dL_law_1715 rfl (lv_at hl 2 rfl) ?_
    refine lv_iload hx hb dL_law_1716 (lv_at hl 1 rfl) ?_
    refine lv_iconst (v := 1) hx hb dL_law_1718 (by decide) ?_
    refine lv_iadd hx hb dL_law_1719 ?_
    rw [show nI (6 * k) + 1 = nI (6 * k + 1) from nI_add _ _]
    refine va_sld (xs := xs) hx hb hX hbl hbA hG.2.2 (vp_in_nI (by omega) (by omega)) dL_law_1720 ?_
    rw [← ey1]
    refine lv_aload_n hx hb dL_law_1721 rfl (lv_at hl 2 rfl) ?_
    refine lv_iload hx hb dL_law_1722 (lv_at hl 1 rfl) ?_
    refine lv_iconst (v := 2) hx hb dL_law_1724 (by decide) ?_
    refine lv_iadd hx hb dL_law_1725 ?_
    rw [show nI (6 * k) + 2 = nI (6 * k + 2) from nI_add _ _]
    refine va_sld (xs := xs) hx hb hX hbl hbA hG.2.2 (vp_in_nI (by omega) (by omega)) dL_law_1726 ?_
    rw [← ey2]
    refine lv_aload_n hx hb dL_law_1727 rfl (lv_at hl 2 rfl) ?_
    refine lv_iload hx hb dL_law_1728 (lv_at hl 1 rfl) ?_
    refine lv_iconst (v := 3) hx hb dL_law_1730 (by decide) ?_
    refine lv_iadd hx hb dL_law_1731 ?_
    rw [show nI (6 * k) + 3 = nI (6 * k + 3) from nI_add _ _]
    refine va_sld (xs := xs) hx hb hX hbl hbA hG.2.2 (vp_in_nI (by omega) (by omega)) dL_law_1732 ?_
    rw [← ey3]
    refine g_callV (rest := []) (As := [.int y1, .int y2, .int y3]) hE hG hl.1 (c_X6_unlike l hfl D tc A w9 ad d tk st y1 y2 y3 hM9 hOk) z1000 rfl mw4_185 mw4_186 mw4_187 mw1_4 mw4_188 rfl nm_X6_unlike ⟨⟨Nat.le_of_ble_eq_true rfl, Nat.le_of_ble_eq_true rfl⟩, (by show 100 + 40 * k + 40 + 0 ≤ 601024; omega), (by show 5000 + 400 * k + 400 + 0 ≤ 7293034; omega)⟩ rfl rfl (Nat.le_of_ble_eq_true rfl) dL_law_1733 (g_no) ?_
    intro v8 w8 H locs h8 hG
    rcases h8 with ⟨hg8, -⟩ | ⟨-, e8, hM8, hF8⟩
    · exact absurd hg8 hgo
    rw [e8]; clear e8
    have hC8 : cW tc w8 ca9 (sL d 0) tk st := cW_cg (hC9) hI9.1 (fun q h1 _ => hF8 q h1)
    have h78 := (hF8 7 (by omega)).trans h79
    have z8 := hM8.1
    show W p l e _ s m args below meth c H locs _ _ _ (F0 m 1736 ls [.int (m_unlike d y1 y2 y3)])
    refine lv_istore (lv' := [(6, .int (m_unlike d y1 y2 y3)), (5, .int 0), (4, .int (nI (6 * k))), (0, .ref b), (1, .ref (ca 0)), (2, .ref (ad 0)), (3, .ref oa)]) hx hb dL_law_1736 hl (by decide) rfl (fun ls hl => ?_)
    refine lv_aload_n hx hb dL_law_1738 rfl (lv_at hl 5 rfl) ?_
    refine g_callV (rest := []) (As := []) hE hG hl.1 (c_X6_thrown l hfl D tc A w8 ad (sL d 0) tk st hM8) z8 rfl mw4_27 mw4_28 mw4_29 mw1_4 mw4_30 rfl nm_X6_thrown ⟨⟨Nat.le_of_ble_eq_true rfl, Nat.le_of_ble_eq_true rfl⟩, (by show 100 + 40 * k + 40 + 0 + 0 ≤ 601024; omega), (by show 5000 + 400 * k + 400 + 0 + 0 ≤ 7293034; omega)⟩ rfl rfl (Nat.le_of_ble_eq_true rfl) dL_law_1739 (g_no) ?_
    intro v6 w6 H locs h6 hG
    obtain ⟨e6, f6⟩ := h6
    rw [f6] at hG; rw [e6, show (sL d 0) 9 14 = 0 from rfl]; clear e6 f6
    show W p l e _ s m args below meth c H locs _ _ _ (F0 m 1742 ls [.int 0])
    refine lv_iload hx hb dL_law_1742 (lv_at hl 1 rfl) ?_
    refine lv_icmp_eq (tgt := 1749) hx hb dL_law_1744 (by decide) (fun _ => ?_) (fun c9 => (c9 (by decide)).elim)
    refine lv_iload hx hb dL_law_1749 (lv_at hl 1 rfl) ?_
    refine lv_if_ne (tgt := 1766) hx hb dL_law_1751 (by decide) (fun c9 => (c9 (by decide)).elim) (fun _ => ?_)
    refine lv_aload_n hx hb dL_law_1754 rfl (lv_at hl 6 rfl) ?_
    refine lv_iconst (v := 0) hx hb dL_law_1755 (by decide) ?_
    refine g_lald hE hG h78 (vp_in_nI (n := 0) (N := 1) (by decide) (by decide)) dL_law_1756 ?_
    rw [show of9 (0 : Int32).toNatClampNeg = (m_unlike d y1 y2 y3).toInt64 from hof]
    refine lv_iload hx hb dL_law_1757 (lv_at hl 0 rfl) ?_
    refine lv_i2l (v := (m_unlike d y1 y2 y3).toInt64) hx hb dL_law_1759 rfl ?_
    refine W.lcmp hx hb dL_law_1760 ?_
    refine lv_if_eq (tgt := 1766) hx hb dL_law_1761 (by decide) (fun c9 => ?_) (fun c9 => (c9 (lg_self _)).elim)
    refine lv_goto (tgt := 1825) hx hb dL_law_1766 (by decide) ?_
    refine lv_iinc (v := (nI (6 * (k + 1)))) (lv' := [(4, .int (nI (6 * (k + 1)))), (6, .int (m_unlike d y1 y2 y3)), (5, .int 0), (0, .ref b), (1, .ref (ca 0)), (2, .ref (ad 0)), (3, .ref oa)]) hx hb dL_law_1825 hl (k := 2) rfl (by rw [show 6 * (k + 1) = 6 * k + 6 by omega]; exact nI_add (6 * k) 6) (by decide) rfl (fun ls hl => ?_)
    refine lv_goto (tgt := 23) hx hb dL_law_1828 (by decide) ?_
    refine W.widen (k := 100 + 40 * (k + 1)) (n := 5000 + 400 * (k + 1)) (by show 100 + 40 * k + 40 + 0 + 0 ≤ _; omega) (by show 5000 + 400 * k + 400 + 0 + 0 ≤ _; omega) ?_
    exact ih ca9 ad (sL d 0) tk st of9 w8 _ _ _ hC8 hM8 hI9 h78 hG (by rw [hca9]; exact lv_sub hl [0, 3, 4, 5, 6] rfl)
set_option maxHeartbeats 4000000 in
set_option maxRecDepth 100000 in
theorem lc_covered {p : Program} {l : Launch} {e : Env} {s : State} {m : MethodId} {args : Array Value} {below : List Frame} {meth : Method} {c : Code} {Q : State → Prop} (hfl : l.stackTraces = false) {D : va_G} {tc : Nat → ClassId} {A : Nat → Prop} {b L : Nat} {xs : Nat → Int32} {oa k : Nat} (hE : gE p l s m args meth c code 8 RL D tc A) (hX : va_X b L xs s s.heap) (hbl : b < s.heap.size) (hbA : ¬ A b) (hL : L ≤ 3072) (hk : 6 * k + 6 ≤ L) (ih : gLoop p l e s m args below meth c Q D tc A b oa (k + 1)) (ca ad : Nat → Nat) (d : gDt) (tk : Int64) (st of : Nat → Int64) (w : gW) (H : Heap) (locs : List Loc) (ls : Array Slot) (hC : cW tc w ca d tk st) (hM : mW tc w ad d tk st) (hI : iOk d (100 * k)) (h7 : w 7 = some (oa, .inl (tc 1, 1, .inr (.inl of)))) (hG : gS D A s.heap w H locs) (hl : lv_has ls 8 [(4, .int (nI (6 * k))), (0, .ref b), (1, .ref (ca 0)), (2, .ref (ad 0)), (3, .ref oa)]) : W p l e room_1 s m args below meth c H locs (100 + 40 * k) (5000 + 400 * k) Q (F0 m 1769 ls []) := by
  have hx := hE.1
  have hb := hE.2.1
  obtain ⟨hOk, hF, hT, hpO, hrO, hj⟩ := id hI
  have z0 := hC.1.1
  have zm := hM.1
  obtain ⟨y1, ey1⟩ : ∃ y, y = xs (nI (6 * k + 1)).toNatClampNeg := ⟨_, rfl⟩
  obtain ⟨y2, ey2⟩ : ∃ y, y = xs (nI (6 * k + 2)).toNatClampNeg := ⟨_, rfl⟩
  obtain ⟨y3, ey3⟩ : ∃ y, y = xs (nI (6 * k + 3)).toNatClampNeg := ⟨_, rfl⟩
  obtain ⟨y4, ey4⟩ : ∃ y, y = xs (nI (6 * k + 4)).toNatClampNeg := ⟨_, rfl⟩
  obtain ⟨y5, ey5⟩ : ∃ y, y = xs (nI (6 * k + 5)).toNatClampNeg := ⟨_, rfl⟩
  refine lv_aload_n hx hb dL_law_1769 rfl (lv_at hl 2 rfl) ?_
  refine lv_aload_n hx hb dL_law_1770 rfl (lv_at hl 1 rfl) ?_
  refine lv_iload hx hb dL_law_1771 (lv_at hl 0 rfl) ?_
  refine lv_iconst (v := 1) hx hb dL_law_1773 (by decide) ?_
  refine lv_iadd hx hb dL_law_1774 ?_
  rw [show nI (6 * k) + 1 = nI (6 * k + 1) from nI_add _ _]
  refine va_sld (xs := xs) hx hb hX hbl hbA hG.2.2 (vp_in_nI (by omega) (by omega)) dL_law_1775 ?_
  rw [← ey1]
  refine lv_aload_n hx hb dL_law_1776 rfl (lv_at hl 4 rfl) ?_
  refine g_callSH (rest := []) (As := [.ref (ca 0), .int y1, .ref oa]) hE hG hl.1 (c_L_covered l hfl D tc A w ca d tk st y1 oa of (100 * k) hC hI (by omega) h7) mw3_160 mw3_161 mw1_0 mw3_162 nm_L_covered ⟨⟨Nat.le_of_ble_eq_true rfl, Nat.le_of_ble_eq_true rfl⟩, (by show 100 + 40 * k + 40 ≤ 601024; omega), (by show 5000 + 400 * k + 400 ≤ 7293034; omega)⟩ rfl rfl (Nat.le_of_ble_eq_true rfl) dL_law_1777 (g_no) ?_
  intro v9 w9 H locs h9 hG
  obtain ⟨hgl, of9, h79, hd⟩ := h9
  have hM9 := mW_cg hM hgl
  rcases hd with ⟨hgo, e9, hC9⟩ | ⟨hgo, e9, hof, ca9, hca9, hC9⟩
  · skip
    rw [e9]; clear e9
    have z1000 := hM9.1
    show W p l e _ s m args below meth c H locs _ _ _ (F0 m 1780 ls [.int (m_la (ga_covered d y1) (gb_covered d y1) (gc_covered d y1))])
    have hI9 : iOk (sL d (m_la (ga_covered d y1) (gb_covered d y1) (gc_covered d y1))) (100 * (k + 1)) := by rw [show 100 * (k + 1) = 100 * k + 100 by omega]; exact iOk_l hI _
    refine lv_istore (lv' := [(5, .int (m_la (ga_covered d y1) (gb_covered d y1) (gc_covered d y1))), (4, .int (nI (6 * k))), (0, .ref b), (1, .ref (ca 0)), (2, .ref (ad 0)), (3, .ref oa)]) hx hb dL_law_1780 hl (by decide) rfl (fun ls hl => ?_)
    refine lv_aload_n hx hb dL_law_1782 rfl (lv_at hl 4 rfl) ?_
    refine lv_aload_n hx hb dL_law_1783 rfl (lv_at hl 2 rfl) ?_
    refine lv_iload hx hb dL_law_1784 (lv_at hl 1 rfl) ?_
    refine lv_iconst (v := 1) hx hb dL_law_1786 (by decide) ?_
    refine lv_iadd hx hb dL_law_1787 ?_
    rw [show nI (6 * k) + 1 = nI (6 * k + 1) from nI_add _ _]
    refine va_sld (xs := xs) hx hb hX hbl hbA hG.2.2 (vp_in_nI (by omega) (by omega)) dL_law_1788 ?_
    rw [← ey1]
    refine g_callV (rest := []) (As := [.int y1]) hE hG hl.1 (c_X6_covered l hfl D tc A w9 ad d tk st y1 hM9 hOk) z1000 rfl mw4_189 mw4_190 mw4_191 mw1_4 mw4_192 rfl nm_X6_covered ⟨⟨Nat.le_of_ble_eq_true rfl, Nat.le_of_ble_eq_true rfl⟩, (by show 100 + 40 * k + 40 + 0 ≤ 601024; omega), (by show 5000 + 400 * k + 400 + 0 ≤ 7293034; omega)⟩ rfl rfl (Nat.le_of_ble_eq_true rfl) dL_law_1789 (g_no) ?_
    intro v8 w8 H locs h8 hG
    rcases h8 with ⟨-, ⟨r8, e8⟩, hM8, hF8⟩ | ⟨hg8, -⟩
    rotate_left
    · exact absurd hgo hg8
    rw [e8]; clear e8
    have hC8 : cW tc w8 ca (sL d (m_la (ga_covered d y1) (gb_covered d y1) (gc_covered d y1))) tk st := cW_cg (cW_l hC9 _) hI9.1 (fun q h1 _ => hF8 q h1)
    have h78 := (hF8 7 (by omega)).trans h79
    have z8 := hM8.1
    show W p l e _ s m args below meth c H locs _ _ _ (F0 m 1792 ls [.int r8])
    refine lv_istore (lv' := [(6, .int r8), (5, .int (m_la (ga_covered d y1) (gb_covered d y1) (gc_covered d y1))), (4, .int (nI (6 * k))), (0, .ref b), (1, .ref (ca 0)), (2, .ref (ad 0)), (3, .ref oa)]) hx hb dL_law_1792 hl (by decide) rfl (fun ls hl => ?_)
    refine lv_aload_n hx hb dL_law_1794 rfl (lv_at hl 5 rfl) ?_
    refine g_callV (rest := []) (As := []) hE hG hl.1 (c_X6_thrown l hfl D tc A w8 ad (sL d (m_la (ga_covered d y1) (gb_covered d y1) (gc_covered d y1))) tk st hM8) z8 rfl mw4_27 mw4_28 mw4_29 mw1_4 mw4_30 rfl nm_X6_thrown ⟨⟨Nat.le_of_ble_eq_true rfl, Nat.le_of_ble_eq_true rfl⟩, (by show 100 + 40 * k + 40 + 0 + 0 ≤ 601024; omega), (by show 5000 + 400 * k + 400 + 0 + 0 ≤ 7293034; omega)⟩ rfl rfl (Nat.le_of_ble_eq_true rfl) dL_law_1795 (g_no) ?_
    intro v6 w6 H locs h6 hG
    obtain ⟨e6, f6⟩ := h6
    rw [f6] at hG; rw [e6, show (sL d (m_la (ga_covered d y1) (gb_covered d y1) (gc_covered d y1))) 9 14 = (m_la (ga_covered d y1) (gb_covered d y1) (gc_covered d y1)) from rfl]; clear e6 f6
    show W p l e _ s m args below meth c H locs _ _ _ (F0 m 1798 ls [.int (m_la (ga_covered d y1) (gb_covered d y1) (gc_covered d y1))])
    refine lv_iload hx hb dL_law_1798 (lv_at hl 1 rfl) ?_
    refine lv_icmp_eq (tgt := 1805) hx hb dL_law_1800 (by decide) (fun c9 => ?_) (fun c9 => (c9 rfl).elim)
    refine lv_iload hx hb dL_law_1805 (lv_at hl 1 rfl) ?_
    refine lv_if_ne (tgt := 1822) hx hb dL_law_1807 (by decide) (fun c9 => ?_) (fun c9 => absurd c9 (la_ne hgo))
    refine lv_goto (tgt := 1825) hx hb dL_law_1822 (by decide) ?_
    refine lv_iinc (v := (nI (6 * (k + 1)))) (lv' := [(4, .int (nI (6 * (k + 1)))), (6, .int r8), (5, .int (m_la (ga_covered d y1) (gb_covered d y1) (gc_covered d y1))), (0, .ref b), (1, .ref (ca 0)), (2, .ref (ad 0)), (3, .ref oa)]) hx hb dL_law_1825 hl (k := 2) rfl (by rw [show 6 * (k + 1) = 6 * k + 6 by omega]; exact nI_add (6 * k) 6) (by decide) rfl (fun ls hl => ?_)
    refine lv_goto (tgt := 23) hx hb dL_law_1828 (by decide) ?_
    refine W.widen (k := 100 + 40 * (k + 1)) (n := 5000 + 400 * (k + 1)) (by show 100 + 40 * k + 40 + 0 + 0 ≤ _; omega) (by show 5000 + 400 * k + 400 + 0 + 0 ≤ _; omega) ?_
    exact ih ca ad (sL d (m_la (ga_covered d y1) (gb_covered d y1) (gc_covered d y1))) tk st of9 w8 _ _ _ hC8 hM8 hI9 h78 hG (lv_sub hl [0, 3, 4, 5, 6] rfl)
  · skip
    rw [e9]; clear e9
    have z1000 := hM9.1
    show W p l e _ s m args below meth c H locs _ _ _ (F0 m 1780 ls [.int 0])
    have hI9 : iOk (sL d 0) (100 * (k + 1)) := by rw [show 100 * (k + 1) = 100 * k + 100 by omega]; exact iOk_l hI 0
    refine lv_istore (lv' := [(5, .int 0), (4, .int (nI (6 * k))), (0, .ref b), (1, .ref (ca 0)), (2, .ref (ad 0)), (3, .ref oa)]) hx hb dL_law_1780 hl (by decide) rfl (fun ls hl => ?_)
    refine lv_aload_n hx hb dL_law_1782 rfl (lv_at hl 4 rfl) ?_
    refine lv_aload_n hx hb dL_law_1783 rfl (lv_at hl 2 rfl) ?_
    refine lv_iload hx hb dL_law_1784 (lv_at hl 1 rfl) ?_
    refine lv_iconst (v := 1) hx hb dL_law_1786 (by decide) ?_
    refine lv_iadd hx hb dL_law_1787 ?_
    rw [show nI (6 * k) + 1 = nI (6 * k + 1) from nI_add _ _]
    refine va_sld (xs := xs) hx hb hX hbl hbA hG.2.2 (vp_in_nI (by omega) (by omega)) dL_law_1788 ?_
    rw [← ey1]
    refine g_callV (rest := []) (As := [.int y1]) hE hG hl.1 (c_X6_covered l hfl D tc A w9 ad d tk st y1 hM9 hOk) z1000 rfl mw4_189 mw4_190 mw4_191 mw1_4 mw4_192 rfl nm_X6_covered ⟨⟨Nat.le_of_ble_eq_true rfl, Nat.le_of_ble_eq_true rfl⟩, (by show 100 + 40 * k + 40 + 0 ≤ 601024; omega), (by show 5000 + 400 * k + 400 + 0 ≤ 7293034; omega)⟩ rfl rfl (Nat.le_of_ble_eq_true rfl) dL_law_1789 (g_no) ?_
    intro v8 w8 H locs h8 hG
    rcases h8 with ⟨hg8, -⟩ | ⟨-, e8, hM8, hF8⟩
    · exact absurd hg8 hgo
    rw [e8]; clear e8
    have hC8 : cW tc w8 ca9 (sL d 0) tk st := cW_cg (hC9) hI9.1 (fun q h1 _ => hF8 q h1)
    have h78 := (hF8 7 (by omega)).trans h79
    have z8 := hM8.1
    show W p l e _ s m args below meth c H locs _ _ _ (F0 m 1792 ls [.int (m_most (m_cv d y1.toNatClampNeg (nU d)) 16)])
    refine lv_istore (lv' := [(6, .int (m_most (m_cv d y1.toNatClampNeg (nU d)) 16)), (5, .int 0), (4, .int (nI (6 * k))), (0, .ref b), (1, .ref (ca 0)), (2, .ref (ad 0)), (3, .ref oa)]) hx hb dL_law_1792 hl (by decide) rfl (fun ls hl => ?_)
    refine lv_aload_n hx hb dL_law_1794 rfl (lv_at hl 5 rfl) ?_
    refine g_callV (rest := []) (As := []) hE hG hl.1 (c_X6_thrown l hfl D tc A w8 ad (sL d 0) tk st hM8) z8 rfl mw4_27 mw4_28 mw4_29 mw1_4 mw4_30 rfl nm_X6_thrown ⟨⟨Nat.le_of_ble_eq_true rfl, Nat.le_of_ble_eq_true rfl⟩, (by show 100 + 40 * k + 40 + 0 + 0 ≤ 601024; omega), (by show 5000 + 400 * k + 400 + 0 + 0 ≤ 7293034; omega)⟩ rfl rfl (Nat.le_of_ble_eq_true rfl) dL_law_1795 (g_no) ?_
    intro v6 w6 H locs h6 hG
    obtain ⟨e6, f6⟩ := h6
    rw [f6] at hG; rw [e6, show (sL d 0) 9 14 = 0 from rfl]; clear e6 f6
    show W p l e _ s m args below meth c H locs _ _ _ (F0 m 1798 ls [.int 0])
    refine lv_iload hx hb dL_law_1798 (lv_at hl 1 rfl) ?_
    refine lv_icmp_eq (tgt := 1805) hx hb dL_law_1800 (by decide) (fun _ => ?_) (fun c9 => (c9 (by decide)).elim)
    refine lv_iload hx hb dL_law_1805 (lv_at hl 1 rfl) ?_
    refine lv_if_ne (tgt := 1822) hx hb dL_law_1807 (by decide) (fun c9 => (c9 (by decide)).elim) (fun _ => ?_)
    refine lv_aload_n hx hb dL_law_1810 rfl (lv_at hl 6 rfl) ?_
    refine lv_iconst (v := 0) hx hb dL_law_1811 (by decide) ?_
    refine g_lald hE hG h78 (vp_in_nI (n := 0) (N := 1) (by decide) (by decide)) dL_law_1812 ?_
    rw [show of9 (0 : Int32).toNatClampNeg = (m_most (m_cv d y1.toNatClampNeg (nU d)) 16).toInt64 from hof]
    refine lv_iload hx hb dL_law_1813 (lv_at hl 0 rfl) ?_
    refine lv_i2l (v := (m_most (m_cv d y1.toNatClampNeg (nU d)) 16).toInt64) hx hb dL_law_1815 rfl ?_
    refine W.lcmp hx hb dL_law_1816 ?_
    refine lv_if_eq (tgt := 1822) hx hb dL_law_1817 (by decide) (fun c9 => ?_) (fun c9 => (c9 (lg_self _)).elim)
    refine lv_goto (tgt := 1825) hx hb dL_law_1822 (by decide) ?_
    refine lv_iinc (v := (nI (6 * (k + 1)))) (lv' := [(4, .int (nI (6 * (k + 1)))), (6, .int (m_most (m_cv d y1.toNatClampNeg (nU d)) 16)), (5, .int 0), (0, .ref b), (1, .ref (ca 0)), (2, .ref (ad 0)), (3, .ref oa)]) hx hb dL_law_1825 hl (k := 2) rfl (by rw [show 6 * (k + 1) = 6 * k + 6 by omega]; exact nI_add (6 * k) 6) (by decide) rfl (fun ls hl => ?_)
    refine lv_goto (tgt := 23) hx hb dL_law_1828 (by decide) ?_
    refine W.widen (k := 100 + 40 * (k + 1)) (n := 5000 + 400 * (k + 1)) (by show 100 + 40 * k + 40 + 0 + 0 ≤ _; omega) (by show 5000 + 400 * k + 400 + 0 + 0 ≤ _; omega) ?_
    exact ih ca9 ad (sL d 0) tk st of9 w8 _ _ _ hC8 hM8 hI9 h78 hG (by rw [hca9]; exact lv_sub hl [0, 3, 4, 5, 6] rfl)
