/-! the law: the other calls -/
set_option maxHeartbeats 4000000 in
set_option maxRecDepth 100000 in
theorem lc_depth {p : Program} {l : Launch} {e : Env} {s : State} {m : MethodId} {args : Array Value} {below : List Frame} {meth : Method} {c : Code} {Q : State → Prop} (hfl : l.stackTraces = false) {D : va_G} {tc : Nat → ClassId} {A : Nat → Prop} {b L : Nat} {xs : Nat → Int32} {oa k : Nat} (hE : gE p l s m args meth c code 8 RL D tc A) (hX : va_X b L xs s s.heap) (hbl : b < s.heap.size) (hbA : ¬ A b) (hL : L ≤ 3072) (hk : 6 * k + 6 ≤ L) (ih : gLoop p l e s m args below meth c Q D tc A b oa (k + 1)) (ca ad : Nat → Nat) (d : gDt) (tk : Int64) (st of : Nat → Int64) (w : gW) (H : Heap) (locs : List Loc) (ls : Array Slot) (hC : cW tc w ca d tk st) (hM : mW tc w ad d tk st) (hI : iOk d (100 * k)) (h7 : w 7 = some (oa, .inl (tc 1, 1, .inr (.inl of)))) (hG : gS D A s.heap w H locs) (hl : lv_has ls 8 [(4, .int (nI (6 * k))), (0, .ref b), (1, .ref (ca 0)), (2, .ref (ad 0)), (3, .ref oa)]) : W p l e room_1 s m args below meth c H locs (100 + 40 * k) (5000 + 400 * k) Q (F0 m 212 ls []) := by
  have hx := hE.1
  have hb := hE.2.1
  obtain ⟨hOk, hF, hT, hpO, hrO, hj⟩ := id hI
  have z0 := hC.1.1
  have zm := hM.1
  obtain ⟨y1, ey1⟩ : ∃ y, y = xs (nI (6 * k + 1)).toNatClampNeg := ⟨_, rfl⟩
  obtain ⟨y2, ey2⟩ : ∃ y, y = xs (nI (6 * k + 2)).toNatClampNeg := ⟨_, rfl⟩
  obtain ⟨y3, ey3⟩ : ∃ y, y = xs (nI (6 * k + 3)).toNatClampNeg := ⟨_, rfl⟩
  obtain ⟨y4, ey4⟩ : ∃ y, y = xs (nI (6 * k + 4)).toNatClampNeg := ⟨_, rfl⟩
  obtain ⟨y5, ey5⟩ : ∃ y, y = xs (nI (6 * k + 5)).toNatClampNeg := ⟨_, rfl⟩
  refine lv_aload_n hx hb dL_law_212 rfl (lv_at hl 2 rfl) ?_
  refine lv_aload_n hx hb dL_law_213 rfl (lv_at hl 1 rfl) ?_
  refine lv_iload hx hb dL_law_214 (lv_at hl 0 rfl) ?_
  refine lv_iconst (v := 1) hx hb dL_law_216 (by decide) ?_
  refine lv_iadd hx hb dL_law_217 ?_
  rw [show nI (6 * k) + 1 = nI (6 * k + 1) from nI_add _ _]
  refine va_sld (xs := xs) hx hb hX hbl hbA hG.2.2 (vp_in_nI (by omega) (by omega)) dL_law_218 ?_
  rw [← ey1]
  refine lv_aload_n hx hb dL_law_219 rfl (lv_at hl 1 rfl) ?_
  refine lv_iload hx hb dL_law_220 (lv_at hl 0 rfl) ?_
  refine lv_iconst (v := 2) hx hb dL_law_222 (by decide) ?_
  refine lv_iadd hx hb dL_law_223 ?_
  rw [show nI (6 * k) + 2 = nI (6 * k + 2) from nI_add _ _]
  refine va_sld (xs := xs) hx hb hX hbl hbA hG.2.2 (vp_in_nI (by omega) (by omega)) dL_law_224 ?_
  rw [← ey2]
  refine lv_aload_n hx hb dL_law_225 rfl (lv_at hl 4 rfl) ?_
  refine g_callSH (rest := []) (As := [.ref (ca 0), .int y1, .int y2, .ref oa]) hE hG hl.1 (c_L_depth l hfl D tc A w ca d tk st y1 y2 oa of (100 * k) hC hI (by omega) h7) mw1_224 mw1_225 mw1_0 mw1_226 nm_L_depth ⟨⟨Nat.le_of_ble_eq_true rfl, Nat.le_of_ble_eq_true rfl⟩, (by show 100 + 40 * k + 40 ≤ 601024; omega), (by show 5000 + 400 * k + 400 ≤ 7293034; omega)⟩ rfl rfl (Nat.le_of_ble_eq_true rfl) dL_law_226 (g_no) ?_
  intro v9 w9 H locs h9 hG
  obtain ⟨hgl, of9, h79, hd⟩ := h9
  have hM9 := mW_cg hM hgl
  rcases hd with ⟨hgo, e9, hC9⟩ | ⟨hgo, e9, hof, ca9, hca9, hC9⟩
  · skip
    rw [e9]; clear e9
    have z1000 := hM9.1
    show W p l e _ s m args below meth c H locs _ _ _ (F0 m 229 ls [.int (m_la (ga_depth d y1 y2) (gb_depth d y1 y2) (gc_depth d y1 y2))])
    have hI9 : iOk (sL d (m_la (ga_depth d y1 y2) (gb_depth d y1 y2) (gc_depth d y1 y2))) (100 * (k + 1)) := by rw [show 100 * (k + 1) = 100 * k + 100 by omega]; exact iOk_l hI _
    refine lv_istore (lv' := [(5, .int (m_la (ga_depth d y1 y2) (gb_depth d y1 y2) (gc_depth d y1 y2))), (4, .int (nI (6 * k))), (0, .ref b), (1, .ref (ca 0)), (2, .ref (ad 0)), (3, .ref oa)]) hx hb dL_law_229 hl (by decide) rfl (fun ls hl => ?_)
    refine lv_aload_n hx hb dL_law_231 rfl (lv_at hl 4 rfl) ?_
    refine lv_aload_n hx hb dL_law_232 rfl (lv_at hl 2 rfl) ?_
    refine lv_iload hx hb dL_law_233 (lv_at hl 1 rfl) ?_
    refine lv_iconst (v := 1) hx hb dL_law_235 (by decide) ?_
    refine lv_iadd hx hb dL_law_236 ?_
    rw [show nI (6 * k) + 1 = nI (6 * k + 1) from nI_add _ _]
    refine va_sld (xs := xs) hx hb hX hbl hbA hG.2.2 (vp_in_nI (by omega) (by omega)) dL_law_237 ?_
    rw [← ey1]
    refine lv_aload_n hx hb dL_law_238 rfl (lv_at hl 2 rfl) ?_
    refine lv_iload hx hb dL_law_239 (lv_at hl 1 rfl) ?_
    refine lv_iconst (v := 2) hx hb dL_law_241 (by decide) ?_
    refine lv_iadd hx hb dL_law_242 ?_
    rw [show nI (6 * k) + 2 = nI (6 * k + 2) from nI_add _ _]
    refine va_sld (xs := xs) hx hb hX hbl hbA hG.2.2 (vp_in_nI (by omega) (by omega)) dL_law_243 ?_
    rw [← ey2]
    refine g_callV (rest := []) (As := [.int y1, .int y2]) hE hG hl.1 (c_X6_depth l hfl D tc A w9 ad d tk st y1 y2 hM9 hOk) z1000 rfl mw4_42 mw4_43 mw4_44 mw1_4 mw4_45 rfl nm_X6_depth ⟨⟨Nat.le_of_ble_eq_true rfl, Nat.le_of_ble_eq_true rfl⟩, (by show 100 + 40 * k + 40 + 0 ≤ 601024; omega), (by show 5000 + 400 * k + 400 + 0 ≤ 7293034; omega)⟩ rfl rfl (Nat.le_of_ble_eq_true rfl) dL_law_244 (g_no) ?_
    intro v8 w8 H locs h8 hG
    rcases h8 with ⟨-, ⟨r8, e8⟩, hM8, hF8⟩ | ⟨hg8, -⟩
    rotate_left
    · exact absurd hgo hg8
    rw [e8]; clear e8
    have hC8 : cW tc w8 ca (sL d (m_la (ga_depth d y1 y2) (gb_depth d y1 y2) (gc_depth d y1 y2))) tk st := cW_cg (cW_l hC9 _) hI9.1 (fun q h1 _ => hF8 q h1)
    have h78 := (hF8 7 (by omega)).trans h79
    have z8 := hM8.1
    show W p l e _ s m args below meth c H locs _ _ _ (F0 m 247 ls [.int r8])
    refine lv_istore (lv' := [(6, .int r8), (5, .int (m_la (ga_depth d y1 y2) (gb_depth d y1 y2) (gc_depth d y1 y2))), (4, .int (nI (6 * k))), (0, .ref b), (1, .ref (ca 0)), (2, .ref (ad 0)), (3, .ref oa)]) hx hb dL_law_247 hl (by decide) rfl (fun ls hl => ?_)
    refine lv_aload_n hx hb dL_law_249 rfl (lv_at hl 5 rfl) ?_
    refine g_callV (rest := []) (As := []) hE hG hl.1 (c_X6_thrown l hfl D tc A w8 ad (sL d (m_la (ga_depth d y1 y2) (gb_depth d y1 y2) (gc_depth d y1 y2))) tk st hM8) z8 rfl mw4_27 mw4_28 mw4_29 mw1_4 mw4_30 rfl nm_X6_thrown ⟨⟨Nat.le_of_ble_eq_true rfl, Nat.le_of_ble_eq_true rfl⟩, (by show 100 + 40 * k + 40 + 0 + 0 ≤ 601024; omega), (by show 5000 + 400 * k + 400 + 0 + 0 ≤ 7293034; omega)⟩ rfl rfl (Nat.le_of_ble_eq_true rfl) dL_law_250 (g_no) ?_
    intro v6 w6 H locs h6 hG
    obtain ⟨e6, f6⟩ := h6
    rw [f6] at hG; rw [e6, show (sL d (m_la (ga_depth d y1 y2) (gb_depth d y1 y2) (gc_depth d y1 y2))) 9 14 = (m_la (ga_depth d y1 y2) (gb_depth d y1 y2) (gc_depth d y1 y2)) from rfl]; clear e6 f6
    show W p l e _ s m args below meth c H locs _ _ _ (F0 m 253 ls [.int (m_la (ga_depth d y1 y2) (gb_depth d y1 y2) (gc_depth d y1 y2))])
    refine lv_iload hx hb dL_law_253 (lv_at hl 1 rfl) ?_
    refine lv_icmp_eq (tgt := 260) hx hb dL_law_255 (by decide) (fun c9 => ?_) (fun c9 => (c9 rfl).elim)
    refine lv_iload hx hb dL_law_260 (lv_at hl 1 rfl) ?_
    refine lv_if_ne (tgt := 277) hx hb dL_law_262 (by decide) (fun c9 => ?_) (fun c9 => absurd c9 (la_ne hgo))
    refine lv_goto (tgt := 1825) hx hb dL_law_277 (by decide) ?_
    refine lv_iinc (v := (nI (6 * (k + 1)))) (lv' := [(4, .int (nI (6 * (k + 1)))), (6, .int r8), (5, .int (m_la (ga_depth d y1 y2) (gb_depth d y1 y2) (gc_depth d y1 y2))), (0, .ref b), (1, .ref (ca 0)), (2, .ref (ad 0)), (3, .ref oa)]) hx hb dL_law_1825 hl (k := 2) rfl (by rw [show 6 * (k + 1) = 6 * k + 6 by omega]; exact nI_add (6 * k) 6) (by decide) rfl (fun ls hl => ?_)
    refine lv_goto (tgt := 23) hx hb dL_law_1828 (by decide) ?_
    refine W.widen (k := 100 + 40 * (k + 1)) (n := 5000 + 400 * (k + 1)) (by show 100 + 40 * k + 40 + 0 + 0 ≤ _; omega) (by show 5000 + 400 * k + 400 + 0 + 0 ≤ _; omega) ?_
    exact ih ca ad (sL d (m_la (ga_depth d y1 y2) (gb_depth d y1 y2) (gc_depth d y1 y2))) tk st of9 w8 _ _ _ hC8 hM8 hI9 h78 hG (lv_sub hl [0, 3, 4, 5, 6] rfl)
  · skip
    rw [e9]; clear e9
    have z1000 := hM9.1
    show W p l e _ s m args below meth c H locs _ _ _ (F0 m 229 ls [.int 0])
    have hI9 : iOk (sL d 0) (100 * (k + 1)) := by rw [show 100 * (k + 1) = 100 * k + 100 by omega]; exact iOk_l hI 0
    refine lv_istore (lv' := [(5, .int 0), (4, .int (nI (6 * k))), (0, .ref b), (1, .ref (ca 0)), (2, .ref (ad 0)), (3, .ref oa)]) hx hb dL_law_229 hl (by decide) rfl (fun ls hl => ?_)
    refine lv_aload_n hx hb dL_law_231 rfl (lv_at hl 4 rfl) ?_
    refine lv_aload_n hx hb dL_law_232 rfl (lv_at hl 2 rfl) ?_
    refine lv_iload hx hb dL_law_233 (lv_at hl 1 rfl) ?_
    refine lv_iconst (v := 1) hx hb dL_law_235 (by decide) ?_
    refine lv_iadd hx hb dL_law_236 ?_
    rw [show nI (6 * k) + 1 = nI (6 * k + 1) from nI_add _ _]
    refine va_sld (xs := xs) hx hb hX hbl hbA hG.2.2 (vp_in_nI (by omega) (by omega)) dL_law_237 ?_
    rw [← ey1]
    refine lv_aload_n hx hb dL_law_238 rfl (lv_at hl 2 rfl) ?_
    refine lv_iload hx hb dL_law_239 (lv_at hl 1 rfl) ?_
    refine lv_iconst (v := 2) hx hb dL_law_241 (by decide) ?_
    refine lv_iadd hx hb dL_law_242 ?_
    rw [show nI (6 * k) + 2 = nI (6 * k + 2) from nI_add _ _]
    refine va_sld (xs := xs) hx hb hX hbl hbA hG.2.2 (vp_in_nI (by omega) (by omega)) dL_law_243 ?_
    rw [← ey2]
    refine g_callV (rest := []) (As := [.int y1, .int y2]) hE hG hl.1 (c_X6_depth l hfl D tc A w9 ad d tk st y1 y2 hM9 hOk) z1000 rfl mw4_42 mw4_43 mw4_44 mw1_4 mw4_45 rfl nm_X6_depth ⟨⟨Nat.le_of_ble_eq_true rfl, Nat.le_of_ble_eq_true rfl⟩, (by show 100 + 40 * k + 40 + 0 ≤ 601024; omega), (by show 5000 + 400 * k + 400 + 0 ≤ 7293034; omega)⟩ rfl rfl (Nat.le_of_ble_eq_true rfl) dL_law_244 (g_no) ?_
    intro v8 w8 H locs h8 hG
    rcases h8 with ⟨hg8, -⟩ | ⟨-, e8, hM8, hF8⟩
    · exact absurd hg8 hgo
    rw [e8]; clear e8
    have hC8 : cW tc w8 ca9 (sL d 0) tk st := cW_cg (hC9) hI9.1 (fun q h1 _ => hF8 q h1)
    have h78 := (hF8 7 (by omega)).trans h79
    have z8 := hM8.1
    show W p l e _ s m args below meth c H locs _ _ _ (F0 m 247 ls [.int (m_depth d y1 y2)])
    refine lv_istore (lv' := [(6, .int (m_depth d y1 y2)), (5, .int 0), (4, .int (nI (6 * k))), (0, .ref b), (1, .ref (ca 0)), (2, .ref (ad 0)), (3, .ref oa)]) hx hb dL_law_247 hl (by decide) rfl (fun ls hl => ?_)
    refine lv_aload_n hx hb dL_law_249 rfl (lv_at hl 5 rfl) ?_
    refine g_callV (rest := []) (As := []) hE hG hl.1 (c_X6_thrown l hfl D tc A w8 ad (sL d 0) tk st hM8) z8 rfl mw4_27 mw4_28 mw4_29 mw1_4 mw4_30 rfl nm_X6_thrown ⟨⟨Nat.le_of_ble_eq_true rfl, Nat.le_of_ble_eq_true rfl⟩, (by show 100 + 40 * k + 40 + 0 + 0 ≤ 601024; omega), (by show 5000 + 400 * k + 400 + 0 + 0 ≤ 7293034; omega)⟩ rfl rfl (Nat.le_of_ble_eq_true rfl) dL_law_250 (g_no) ?_
    intro v6 w6 H locs h6 hG
    obtain ⟨e6, f6⟩ := h6
    rw [f6] at hG; rw [e6, show (sL d 0) 9 14 = 0 from rfl]; clear e6 f6
    show W p l e _ s m args below meth c H locs _ _ _ (F0 m 253 ls [.int 0])
    refine lv_iload hx hb dL_law_253 (lv_at hl 1 rfl) ?_
    refine lv_icmp_eq (tgt := 260) hx hb dL_law_255 (by decide) (fun _ => ?_) (fun c9 => (c9 (by decide)).elim)
    refine lv_iload hx hb dL_law_260 (lv_at hl 1 rfl) ?_
    refine lv_if_ne (tgt := 277) hx hb dL_law_262 (by decide) (fun c9 => (c9 (by decide)).elim) (fun _ => ?_)
    refine lv_aload_n hx hb dL_law_265 rfl (lv_at hl 6 rfl) ?_
    refine lv_iconst (v := 0) hx hb dL_law_266 (by decide) ?_
    refine g_lald hE hG h78 (vp_in_nI (n := 0) (N := 1) (by decide) (by decide)) dL_law_267 ?_
    rw [show of9 (0 : Int32).toNatClampNeg = (m_depth d y1 y2).toInt64 from hof]
    refine lv_iload hx hb dL_law_268 (lv_at hl 0 rfl) ?_
    refine lv_i2l (v := (m_depth d y1 y2).toInt64) hx hb dL_law_270 rfl ?_
    refine W.lcmp hx hb dL_law_271 ?_
    refine lv_if_eq (tgt := 277) hx hb dL_law_272 (by decide) (fun c9 => ?_) (fun c9 => (c9 (lg_self _)).elim)
    refine lv_goto (tgt := 1825) hx hb dL_law_277 (by decide) ?_
    refine lv_iinc (v := (nI (6 * (k + 1)))) (lv' := [(4, .int (nI (6 * (k + 1)))), (6, .int (m_depth d y1 y2)), (5, .int 0), (0, .ref b), (1, .ref (ca 0)), (2, .ref (ad 0)), (3, .ref oa)]) hx hb dL_law_1825 hl (k := 2) rfl (by rw [show 6 * (k + 1) = 6 * k + 6 by omega]; exact nI_add (6 * k) 6) (by decide) rfl (fun ls hl => ?_)
    refine lv_goto (tgt := 23) hx hb dL_law_1828 (by decide) ?_
    refine W.widen (k := 100 + 40 * (k + 1)) (n := 5000 + 400 * (k + 1)) (by show 100 + 40 * k + 40 + 0 + 0 ≤ _; omega) (by show 5000 + 400 * k + 400 + 0 + 0 ≤ _; omega) ?_
    exact ih ca9 ad (sL d 0) tk st of9 w8 _ _ _ hC8 hM8 hI9 h78 hG (by rw [hca9]; exact lv_sub hl [0, 3, 4, 5, 6] rfl)
set_option maxHeartbeats 4000000 in
set_option maxRecDepth 100000 in
theorem lc_piece {p : Program} {l : Launch} {e : Env} {s : State} {m : MethodId} {args : Array Value} {below : List Frame} {meth : Method} {c : Code} {Q : State → Prop} (hfl : l.stackTraces = false) {D : va_G} {tc : Nat → ClassId} {A : Nat → Prop} {b L : Nat} {xs : Nat → Int32} {oa k : Nat} (hE : gE p l s m args meth c code 8 RL D tc A) (hX : va_X b L xs s s.heap) (hbl : b < s.heap.size) (hbA : ¬ A b) (hL : L ≤ 3072) (hk : 6 * k + 6 ≤ L) (ih : gLoop p l e s m args below meth c Q D tc A b oa (k + 1)) (ca ad : Nat → Nat) (d : gDt) (tk : Int64) (st of : Nat → Int64) (w : gW) (H : Heap) (locs : List Loc) (ls : Array Slot) (hC : cW tc w ca d tk st) (hM : mW tc w ad d tk st) (hI : iOk d (100 * k)) (h7 : w 7 = some (oa, .inl (tc 1, 1, .inr (.inl of)))) (hG : gS D A s.heap w H locs) (hl : lv_has ls 8 [(4, .int (nI (6 * k))), (0, .ref b), (1, .ref (ca 0)), (2, .ref (ad 0)), (3, .ref oa)]) : W p l e room_1 s m args below meth c H locs (100 + 40 * k) (5000 + 400 * k) Q (F0 m 280 ls []) := by
  have hx := hE.1
  have hb := hE.2.1
  obtain ⟨hOk, hF, hT, hpO, hrO, hj⟩ := id hI
  have z0 := hC.1.1
  have zm := hM.1
  obtain ⟨y1, ey1⟩ : ∃ y, y = xs (nI (6 * k + 1)).toNatClampNeg := ⟨_, rfl⟩
  obtain ⟨y2, ey2⟩ : ∃ y, y = xs (nI (6 * k + 2)).toNatClampNeg := ⟨_, rfl⟩
  obtain ⟨y3, ey3⟩ : ∃ y, y = xs (nI (6 * k + 3)).toNatClampNeg := ⟨_, rfl⟩
  obtain ⟨y4, ey4⟩ : ∃ y, y = xs (nI (6 * k + 4)).toNatClampNeg := ⟨_, rfl⟩
  obtain ⟨y5, ey5⟩ : ∃ y, y = xs (nI (6 * k + 5)).toNatClampNeg := ⟨_, rfl⟩
  refine lv_aload_n hx hb dL_law_280 rfl (lv_at hl 2 rfl) ?_
  refine lv_aload_n hx hb dL_law_281 rfl (lv_at hl 1 rfl) ?_
  refine lv_iload hx hb dL_law_282 (lv_at hl 0 rfl) ?_
  refine lv_iconst (v := 1) hx hb dL_law_284 (by decide) ?_
  refine lv_iadd hx hb dL_law_285 ?_
  rw [show nI (6 * k) + 1 = nI (6 * k + 1) from nI_add _ _]
  refine va_sld (xs := xs) hx hb hX hbl hbA hG.2.2 (vp_in_nI (by omega) (by omega)) dL_law_286 ?_
  rw [← ey1]
  refine lv_aload_n hx hb dL_law_287 rfl (lv_at hl 4 rfl) ?_
  refine g_callSH (rest := []) (As := [.ref (ca 0), .int y1, .ref oa]) hE hG hl.1 (c_L_piece l hfl D tc A w ca d tk st y1 oa of (100 * k) hC hI (by omega) h7) mw2_13 mw2_14 mw1_0 mw2_15 nm_L_piece ⟨⟨Nat.le_of_ble_eq_true rfl, Nat.le_of_ble_eq_true rfl⟩, (by show 100 + 40 * k + 40 ≤ 601024; omega), (by show 5000 + 400 * k + 400 ≤ 7293034; omega)⟩ rfl rfl (Nat.le_of_ble_eq_true rfl) dL_law_288 (g_no) ?_
  intro v9 w9 H locs h9 hG
  obtain ⟨hgl, of9, h79, hd⟩ := h9
  have hM9 := mW_cg hM hgl
  rcases hd with ⟨hgo, e9, hC9⟩ | ⟨hgo, e9, hof, ca9, hca9, hC9⟩
  · skip
    rw [e9]; clear e9
    have z1000 := hM9.1
    show W p l e _ s m args below meth c H locs _ _ _ (F0 m 291 ls [.int (m_la (ga_piece d y1) (gb_piece d y1) (gc_piece d y1))])
    have hI9 : iOk (sL d (m_la (ga_piece d y1) (gb_piece d y1) (gc_piece d y1))) (100 * (k + 1)) := by rw [show 100 * (k + 1) = 100 * k + 100 by omega]; exact iOk_l hI _
    refine lv_istore (lv' := [(5, .int (m_la (ga_piece d y1) (gb_piece d y1) (gc_piece d y1))), (4, .int (nI (6 * k))), (0, .ref b), (1, .ref (ca 0)), (2, .ref (ad 0)), (3, .ref oa)]) hx hb dL_law_291 hl (by decide) rfl (fun ls hl => ?_)
    refine lv_aload_n hx hb dL_law_293 rfl (lv_at hl 4 rfl) ?_
    refine lv_aload_n hx hb dL_law_294 rfl (lv_at hl 2 rfl) ?_
    refine lv_iload hx hb dL_law_295 (lv_at hl 1 rfl) ?_
    refine lv_iconst (v := 1) hx hb dL_law_297 (by decide) ?_
    refine lv_iadd hx hb dL_law_298 ?_
    rw [show nI (6 * k) + 1 = nI (6 * k + 1) from nI_add _ _]
    refine va_sld (xs := xs) hx hb hX hbl hbA hG.2.2 (vp_in_nI (by omega) (by omega)) dL_law_299 ?_
    rw [← ey1]
    refine g_callV (rest := []) (As := [.int y1]) hE hG hl.1 (c_X6_piece l hfl D tc A w9 ad d tk st y1 hM9 hOk) z1000 rfl mw4_50 mw4_51 mw4_52 mw1_4 mw4_53 rfl nm_X6_piece ⟨⟨Nat.le_of_ble_eq_true rfl, Nat.le_of_ble_eq_true rfl⟩, (by show 100 + 40 * k + 40 + 0 ≤ 601024; omega), (by show 5000 + 400 * k + 400 + 0 ≤ 7293034; omega)⟩ rfl rfl (Nat.le_of_ble_eq_true rfl) dL_law_300 (g_no) ?_
    intro v8 w8 H locs h8 hG
    rcases h8 with ⟨-, ⟨r8, e8⟩, hM8, hF8⟩ | ⟨hg8, -⟩
    rotate_left
    · exact absurd hgo hg8
    rw [e8]; clear e8
    have hC8 : cW tc w8 ca (sL d (m_la (ga_piece d y1) (gb_piece d y1) (gc_piece d y1))) tk st := cW_cg (cW_l hC9 _) hI9.1 (fun q h1 _ => hF8 q h1)
    have h78 := (hF8 7 (by omega)).trans h79
    have z8 := hM8.1
    show W p l e _ s m args below meth c H locs _ _ _ (F0 m 303 ls [.int r8])
    refine lv_istore (lv' := [(6, .int r8), (5, .int (m_la (ga_piece d y1) (gb_piece d y1) (gc_piece d y1))), (4, .int (nI (6 * k))), (0, .ref b), (1, .ref (ca 0)), (2, .ref (ad 0)), (3, .ref oa)]) hx hb dL_law_303 hl (by decide) rfl (fun ls hl => ?_)
    refine lv_aload_n hx hb dL_law_305 rfl (lv_at hl 5 rfl) ?_
    refine g_callV (rest := []) (As := []) hE hG hl.1 (c_X6_thrown l hfl D tc A w8 ad (sL d (m_la (ga_piece d y1) (gb_piece d y1) (gc_piece d y1))) tk st hM8) z8 rfl mw4_27 mw4_28 mw4_29 mw1_4 mw4_30 rfl nm_X6_thrown ⟨⟨Nat.le_of_ble_eq_true rfl, Nat.le_of_ble_eq_true rfl⟩, (by show 100 + 40 * k + 40 + 0 + 0 ≤ 601024; omega), (by show 5000 + 400 * k + 400 + 0 + 0 ≤ 7293034; omega)⟩ rfl rfl (Nat.le_of_ble_eq_true rfl) dL_law_306 (g_no) ?_
    intro v6 w6 H locs h6 hG
    obtain ⟨e6, f6⟩ := h6
    rw [f6] at hG; rw [e6, show (sL d (m_la (ga_piece d y1) (gb_piece d y1) (gc_piece d y1))) 9 14 = (m_la (ga_piece d y1) (gb_piece d y1) (gc_piece d y1)) from rfl]; clear e6 f6
    show W p l e _ s m args below meth c H locs _ _ _ (F0 m 309 ls [.int (m_la (ga_piece d y1) (gb_piece d y1) (gc_piece d y1))])
    refine lv_iload hx hb dL_law_309 (lv_at hl 1 rfl) ?_
    refine lv_icmp_eq (tgt := 316) hx hb dL_law_311 (by decide) (fun c9 => ?_) (fun c9 => (c9 rfl).elim)
    refine lv_iload hx hb dL_law_316 (lv_at hl 1 rfl) ?_
    refine lv_if_ne (tgt := 333) hx hb dL_law_318 (by decide) (fun c9 => ?_) (fun c9 => absurd c9 (la_ne hgo))
    refine lv_goto (tgt := 1825) hx hb dL_law_333 (by decide) ?_
    refine lv_iinc (v := (nI (6 * (k + 1)))) (lv' := [(4, .int (nI (6 * (k + 1)))), (6, .int r8), (5, .int (m_la (ga_piece d y1) (gb_piece d y1) (gc_piece d y1))), (0, .ref b), (1, .ref (ca 0)), (2, .ref (ad 0)), (3, .ref oa)]) hx hb dL_law_1825 hl (k := 2) rfl (by rw [show 6 * (k + 1) = 6 * k + 6 by omega]; exact nI_add (6 * k) 6) (by decide) rfl (fun ls hl => ?_)
    refine lv_goto (tgt := 23) hx hb dL_law_1828 (by decide) ?_
    refine W.widen (k := 100 + 40 * (k + 1)) (n := 5000 + 400 * (k + 1)) (by show 100 + 40 * k + 40 + 0 + 0 ≤ _; omega) (by show 5000 + 400 * k + 400 + 0 + 0 ≤ _; omega) ?_
    exact ih ca ad (sL d (m_la (ga_piece d y1) (gb_piece d y1) (gc_piece d y1))) tk st of9 w8 _ _ _ hC8 hM8 hI9 h78 hG (lv_sub hl [0, 3, 4, 5, 6] rfl)
  · skip
    rw [e9]; clear e9
    have z1000 := hM9.1
    show W p l e _ s m args below meth c H locs _ _ _ (F0 m 291 ls [.int 0])
    have hI9 : iOk (sL (gD (gD d 1 (upd (d 1) (d 9 1).toNatClampNeg y1)) 9 (upd (d 9) 1 (d 9 1 + 1))) 0) (100 * (k + 1)) := by rw [show 100 * (k + 1) = 100 * k + 100 by omega]; exact I_piece hI hgo
    refine lv_istore (lv' := [(5, .int 0), (4, .int (nI (6 * k))), (0, .ref b), (1, .ref (ca 0)), (2, .ref (ad 0)), (3, .ref oa)]) hx hb dL_law_291 hl (by decide) rfl (fun ls hl => ?_)
    refine lv_aload_n hx hb dL_law_293 rfl (lv_at hl 4 rfl) ?_
    refine lv_aload_n hx hb dL_law_294 rfl (lv_at hl 2 rfl) ?_
    refine lv_iload hx hb dL_law_295 (lv_at hl 1 rfl) ?_
    refine lv_iconst (v := 1) hx hb dL_law_297 (by decide) ?_
    refine lv_iadd hx hb dL_law_298 ?_
    rw [show nI (6 * k) + 1 = nI (6 * k + 1) from nI_add _ _]
    refine va_sld (xs := xs) hx hb hX hbl hbA hG.2.2 (vp_in_nI (by omega) (by omega)) dL_law_299 ?_
    rw [← ey1]
    refine g_callV (rest := []) (As := [.int y1]) hE hG hl.1 (c_X6_piece l hfl D tc A w9 ad d tk st y1 hM9 hOk) z1000 rfl mw4_50 mw4_51 mw4_52 mw1_4 mw4_53 rfl nm_X6_piece ⟨⟨Nat.le_of_ble_eq_true rfl, Nat.le_of_ble_eq_true rfl⟩, (by show 100 + 40 * k + 40 + 0 ≤ 601024; omega), (by show 5000 + 400 * k + 400 + 0 ≤ 7293034; omega)⟩ rfl rfl (Nat.le_of_ble_eq_true rfl) dL_law_300 (g_no) ?_
    intro v8 w8 H locs h8 hG
    rcases h8 with ⟨hg8, -⟩ | ⟨-, e8, hM8, hF8⟩
    · exact absurd hg8 hgo
    rw [e8]; clear e8
    have hC8 : cW tc w8 ca9 (sL (gD (gD d 1 (upd (d 1) (d 9 1).toNatClampNeg y1)) 9 (upd (d 9) 1 (d 9 1 + 1))) 0) tk st := cW_cg (hC9) hI9.1 (fun q h1 _ => hF8 q h1)
    have h78 := (hF8 7 (by omega)).trans h79
    have z8 := hM8.1
    show W p l e _ s m args below meth c H locs _ _ _ (F0 m 303 ls [.int (d 9 1 + 1 - 1)])
    refine lv_istore (lv' := [(6, .int (d 9 1 + 1 - 1)), (5, .int 0), (4, .int (nI (6 * k))), (0, .ref b), (1, .ref (ca 0)), (2, .ref (ad 0)), (3, .ref oa)]) hx hb dL_law_303 hl (by decide) rfl (fun ls hl => ?_)
    refine lv_aload_n hx hb dL_law_305 rfl (lv_at hl 5 rfl) ?_
    refine g_callV (rest := []) (As := []) hE hG hl.1 (c_X6_thrown l hfl D tc A w8 ad (sL (gD (gD d 1 (upd (d 1) (d 9 1).toNatClampNeg y1)) 9 (upd (d 9) 1 (d 9 1 + 1))) 0) tk st hM8) z8 rfl mw4_27 mw4_28 mw4_29 mw1_4 mw4_30 rfl nm_X6_thrown ⟨⟨Nat.le_of_ble_eq_true rfl, Nat.le_of_ble_eq_true rfl⟩, (by show 100 + 40 * k + 40 + 0 + 0 ≤ 601024; omega), (by show 5000 + 400 * k + 400 + 0 + 0 ≤ 7293034; omega)⟩ rfl rfl (Nat.le_of_ble_eq_true rfl) dL_law_306 (g_no) ?_
    intro v6 w6 H locs h6 hG
    obtain ⟨e6, f6⟩ := h6
    rw [f6] at hG; rw [e6, show (sL (gD (gD d 1 (upd (d 1) (d 9 1).toNatClampNeg y1)) 9 (upd (d 9) 1 (d 9 1 + 1))) 0) 9 14 = 0 from rfl]; clear e6 f6
    show W p l e _ s m args below meth c H locs _ _ _ (F0 m 309 ls [.int 0])
    refine lv_iload hx hb dL_law_309 (lv_at hl 1 rfl) ?_
    refine lv_icmp_eq (tgt := 316) hx hb dL_law_311 (by decide) (fun _ => ?_) (fun c9 => (c9 (by decide)).elim)
    refine lv_iload hx hb dL_law_316 (lv_at hl 1 rfl) ?_
    refine lv_if_ne (tgt := 333) hx hb dL_law_318 (by decide) (fun c9 => (c9 (by decide)).elim) (fun _ => ?_)
    refine lv_aload_n hx hb dL_law_321 rfl (lv_at hl 6 rfl) ?_
    refine lv_iconst (v := 0) hx hb dL_law_322 (by decide) ?_
    refine g_lald hE hG h78 (vp_in_nI (n := 0) (N := 1) (by decide) (by decide)) dL_law_323 ?_
    rw [show of9 (0 : Int32).toNatClampNeg = (d 9 1 + 1 - 1).toInt64 from hof]
    refine lv_iload hx hb dL_law_324 (lv_at hl 0 rfl) ?_
    refine lv_i2l (v := (d 9 1 + 1 - 1).toInt64) hx hb dL_law_326 rfl ?_
    refine W.lcmp hx hb dL_law_327 ?_
    refine lv_if_eq (tgt := 333) hx hb dL_law_328 (by decide) (fun c9 => ?_) (fun c9 => (c9 (lg_self _)).elim)
    refine lv_goto (tgt := 1825) hx hb dL_law_333 (by decide) ?_
    refine lv_iinc (v := (nI (6 * (k + 1)))) (lv' := [(4, .int (nI (6 * (k + 1)))), (6, .int (d 9 1 + 1 - 1)), (5, .int 0), (0, .ref b), (1, .ref (ca 0)), (2, .ref (ad 0)), (3, .ref oa)]) hx hb dL_law_1825 hl (k := 2) rfl (by rw [show 6 * (k + 1) = 6 * k + 6 by omega]; exact nI_add (6 * k) 6) (by decide) rfl (fun ls hl => ?_)
    refine lv_goto (tgt := 23) hx hb dL_law_1828 (by decide) ?_
    refine W.widen (k := 100 + 40 * (k + 1)) (n := 5000 + 400 * (k + 1)) (by show 100 + 40 * k + 40 + 0 + 0 ≤ _; omega) (by show 5000 + 400 * k + 400 + 0 + 0 ≤ _; omega) ?_
    exact ih ca9 ad (sL (gD (gD d 1 (upd (d 1) (d 9 1).toNatClampNeg y1)) 9 (upd (d 9) 1 (d 9 1 + 1))) 0) tk st of9 w8 _ _ _ hC8 hM8 hI9 h78 hG (by rw [hca9]; exact lv_sub hl [0, 3, 4, 5, 6] rfl)
set_option maxHeartbeats 4000000 in
set_option maxRecDepth 100000 in
theorem lc_tone {p : Program} {l : Launch} {e : Env} {s : State} {m : MethodId} {args : Array Value} {below : List Frame} {meth : Method} {c : Code} {Q : State → Prop} (hfl : l.stackTraces = false) {D : va_G} {tc : Nat → ClassId} {A : Nat → Prop} {b L : Nat} {xs : Nat → Int32} {oa k : Nat} (hE : gE p l s m args meth c code 8 RL D tc A) (hX : va_X b L xs s s.heap) (hbl : b < s.heap.size) (hbA : ¬ A b) (hL : L ≤ 3072) (hk : 6 * k + 6 ≤ L) (ih : gLoop p l e s m args below meth c Q D tc A b oa (k + 1)) (ca ad : Nat → Nat) (d : gDt) (tk : Int64) (st of : Nat → Int64) (w : gW) (H : Heap) (locs : List Loc) (ls : Array Slot) (hC : cW tc w ca d tk st) (hM : mW tc w ad d tk st) (hI : iOk d (100 * k)) (h7 : w 7 = some (oa, .inl (tc 1, 1, .inr (.inl of)))) (hG : gS D A s.heap w H locs) (hl : lv_has ls 8 [(4, .int (nI (6 * k))), (0, .ref b), (1, .ref (ca 0)), (2, .ref (ad 0)), (3, .ref oa)]) : W p l e room_1 s m args below meth c H locs (100 + 40 * k) (5000 + 400 * k) Q (F0 m 336 ls []) := by
  have hx := hE.1
  have hb := hE.2.1
  obtain ⟨hOk, hF, hT, hpO, hrO, hj⟩ := id hI
  have z0 := hC.1.1
  have zm := hM.1
  obtain ⟨y1, ey1⟩ : ∃ y, y = xs (nI (6 * k + 1)).toNatClampNeg := ⟨_, rfl⟩
  obtain ⟨y2, ey2⟩ : ∃ y, y = xs (nI (6 * k + 2)).toNatClampNeg := ⟨_, rfl⟩
  obtain ⟨y3, ey3⟩ : ∃ y, y = xs (nI (6 * k + 3)).toNatClampNeg := ⟨_, rfl⟩
  obtain ⟨y4, ey4⟩ : ∃ y, y = xs (nI (6 * k + 4)).toNatClampNeg := ⟨_, rfl⟩
  obtain ⟨y5, ey5⟩ : ∃ y, y = xs (nI (6 * k + 5)).toNatClampNeg := ⟨_, rfl⟩
  refine lv_aload_n hx hb dL_law_336 rfl (lv_at hl 2 rfl) ?_
  refine lv_aload_n hx hb dL_law_337 rfl (lv_at hl 1 rfl) ?_
  refine lv_iload hx hb dL_law_338 (lv_at hl 0 rfl) ?_
  refine lv_iconst (v := 1) hx hb dL_law_340 (by decide) ?_
  refine lv_iadd hx hb dL_law_341 ?_
  rw [show nI (6 * k) + 1 = nI (6 * k + 1) from nI_add _ _]
  refine va_sld (xs := xs) hx hb hX hbl hbA hG.2.2 (vp_in_nI (by omega) (by omega)) dL_law_342 ?_
  rw [← ey1]
  refine lv_aload_n hx hb dL_law_343 rfl (lv_at hl 1 rfl) ?_
  refine lv_iload hx hb dL_law_344 (lv_at hl 0 rfl) ?_
  refine lv_iconst (v := 2) hx hb dL_law_346 (by decide) ?_
  refine lv_iadd hx hb dL_law_347 ?_
  rw [show nI (6 * k) + 2 = nI (6 * k + 2) from nI_add _ _]
  refine va_sld (xs := xs) hx hb hX hbl hbA hG.2.2 (vp_in_nI (by omega) (by omega)) dL_law_348 ?_
  rw [← ey2]
  refine lv_aload_n hx hb dL_law_349 rfl (lv_at hl 1 rfl) ?_
  refine lv_iload hx hb dL_law_350 (lv_at hl 0 rfl) ?_
  refine lv_iconst (v := 3) hx hb dL_law_352 (by decide) ?_
  refine lv_iadd hx hb dL_law_353 ?_
  rw [show nI (6 * k) + 3 = nI (6 * k + 3) from nI_add _ _]
  refine va_sld (xs := xs) hx hb hX hbl hbA hG.2.2 (vp_in_nI (by omega) (by omega)) dL_law_354 ?_
  rw [← ey3]
  refine lv_aload_n hx hb dL_law_355 rfl (lv_at hl 4 rfl) ?_
  refine g_callSH (rest := []) (As := [.ref (ca 0), .int y1, .int y2, .int y3, .ref oa]) hE hG hl.1 (c_L_tone l hfl D tc A w ca d tk st y1 y2 y3 oa of (100 * k) hC hI (by omega) h7) mw2_48 mw2_49 mw1_0 mw2_50 nm_L_tone ⟨⟨Nat.le_of_ble_eq_true rfl, Nat.le_of_ble_eq_true rfl⟩, (by show 100 + 40 * k + 40 ≤ 601024; omega), (by show 5000 + 400 * k + 400 ≤ 7293034; omega)⟩ rfl rfl (Nat.le_of_ble_eq_true rfl) dL_law_356 (g_no) ?_
  intro v9 w9 H locs h9 hG
  obtain ⟨hgl, of9, h79, hd⟩ := h9
  have hM9 := mW_cg hM hgl
  rcases hd with ⟨hgo, e9, hC9⟩ | ⟨hgo, e9, hof, ca9, hca9, hC9⟩
  · skip
    rw [e9]; clear e9
    have z1000 := hM9.1
    show W p l e _ s m args below meth c H locs _ _ _ (F0 m 359 ls [.int (m_la (ga_tone d y1 y2 y3) (gb_tone d y1 y2 y3) (gc_tone d y1 y2 y3))])
    have hI9 : iOk (sL d (m_la (ga_tone d y1 y2 y3) (gb_tone d y1 y2 y3) (gc_tone d y1 y2 y3))) (100 * (k + 1)) := by rw [show 100 * (k + 1) = 100 * k + 100 by omega]; exact iOk_l hI _
    refine lv_istore (lv' := [(5, .int (m_la (ga_tone d y1 y2 y3) (gb_tone d y1 y2 y3) (gc_tone d y1 y2 y3))), (4, .int (nI (6 * k))), (0, .ref b), (1, .ref (ca 0)), (2, .ref (ad 0)), (3, .ref oa)]) hx hb dL_law_359 hl (by decide) rfl (fun ls hl => ?_)
    refine lv_aload_n hx hb dL_law_361 rfl (lv_at hl 4 rfl) ?_
    refine lv_aload_n hx hb dL_law_362 rfl (lv_at hl 2 rfl) ?_
    refine lv_iload hx hb dL_law_363 (lv_at hl 1 rfl) ?_
    refine lv_iconst (v := 1) hx hb dL_law_365 (by decide) ?_
    refine lv_iadd hx hb dL_law_366 ?_
    rw [show nI (6 * k) + 1 = nI (6 * k + 1) from nI_add _ _]
    refine va_sld (xs := xs) hx hb hX hbl hbA hG.2.2 (vp_in_nI (by omega) (by omega)) dL_law_367 ?_
    rw [← ey1]
    refine lv_aload_n hx hb dL_law_368 rfl (lv_at hl 2 rfl) ?_
    refine lv_iload hx hb dL_law_369 (lv_at hl 1 rfl) ?_
    refine lv_iconst (v := 2) hx hb dL_law_371 (by decide) ?_
    refine lv_iadd hx hb dL_law_372 ?_
    rw [show nI (6 * k) + 2 = nI (6 * k + 2) from nI_add _ _]
    refine va_sld (xs := xs) hx hb hX hbl hbA hG.2.2 (vp_in_nI (by omega) (by omega)) dL_law_373 ?_
    rw [← ey2]
    refine lv_aload_n hx hb dL_law_374 rfl (lv_at hl 2 rfl) ?_
    refine lv_iload hx hb dL_law_375 (lv_at hl 1 rfl) ?_
    refine lv_iconst (v := 3) hx hb dL_law_377 (by decide) ?_
    refine lv_iadd hx hb dL_law_378 ?_
    rw [show nI (6 * k) + 3 = nI (6 * k + 3) from nI_add _ _]
    refine va_sld (xs := xs) hx hb hX hbl hbA hG.2.2 (vp_in_nI (by omega) (by omega)) dL_law_379 ?_
    rw [← ey3]
    refine g_callV (rest := []) (As := [.int y1, .int y2, .int y3]) hE hG hl.1 (c_X6_tone l hfl D tc A w9 ad d tk st y1 y2 y3 hM9 hOk) z1000 rfl mw4_54 mw4_55 mw4_56 mw1_4 mw4_57 rfl nm_X6_tone ⟨⟨Nat.le_of_ble_eq_true rfl, Nat.le_of_ble_eq_true rfl⟩, (by show 100 + 40 * k + 40 + 0 ≤ 601024; omega), (by show 5000 + 400 * k + 400 + 0 ≤ 7293034; omega)⟩ rfl rfl (Nat.le_of_ble_eq_true rfl) dL_law_380 (g_no) ?_
    intro v8 w8 H locs h8 hG
    rcases h8 with ⟨-, ⟨r8, e8⟩, hM8, hF8⟩ | ⟨hg8, -⟩
    rotate_left
    · exact absurd hgo hg8
    rw [e8]; clear e8
    have hC8 : cW tc w8 ca (sL d (m_la (ga_tone d y1 y2 y3) (gb_tone d y1 y2 y3) (gc_tone d y1 y2 y3))) tk st := cW_cg (cW_l hC9 _) hI9.1 (fun q h1 _ => hF8 q h1)
    have h78 := (hF8 7 (by omega)).trans h79
    have z8 := hM8.1
    show W p l e _ s m args below meth c H locs _ _ _ (F0 m 383 ls [.int r8])
    refine lv_istore (lv' := [(6, .int r8), (5, .int (m_la (ga_tone d y1 y2 y3) (gb_tone d y1 y2 y3) (gc_tone d y1 y2 y3))), (4, .int (nI (6 * k))), (0, .ref b), (1, .ref (ca 0)), (2, .ref (ad 0)), (3, .ref oa)]) hx hb dL_law_383 hl (by decide) rfl (fun ls hl => ?_)
    refine lv_aload_n hx hb dL_law_385 rfl (lv_at hl 5 rfl) ?_
    refine g_callV (rest := []) (As := []) hE hG hl.1 (c_X6_thrown l hfl D tc A w8 ad (sL d (m_la (ga_tone d y1 y2 y3) (gb_tone d y1 y2 y3) (gc_tone d y1 y2 y3))) tk st hM8) z8 rfl mw4_27 mw4_28 mw4_29 mw1_4 mw4_30 rfl nm_X6_thrown ⟨⟨Nat.le_of_ble_eq_true rfl, Nat.le_of_ble_eq_true rfl⟩, (by show 100 + 40 * k + 40 + 0 + 0 ≤ 601024; omega), (by show 5000 + 400 * k + 400 + 0 + 0 ≤ 7293034; omega)⟩ rfl rfl (Nat.le_of_ble_eq_true rfl) dL_law_386 (g_no) ?_
    intro v6 w6 H locs h6 hG
    obtain ⟨e6, f6⟩ := h6
    rw [f6] at hG; rw [e6, show (sL d (m_la (ga_tone d y1 y2 y3) (gb_tone d y1 y2 y3) (gc_tone d y1 y2 y3))) 9 14 = (m_la (ga_tone d y1 y2 y3) (gb_tone d y1 y2 y3) (gc_tone d y1 y2 y3)) from rfl]; clear e6 f6
    show W p l e _ s m args below meth c H locs _ _ _ (F0 m 389 ls [.int (m_la (ga_tone d y1 y2 y3) (gb_tone d y1 y2 y3) (gc_tone d y1 y2 y3))])
    refine lv_iload hx hb dL_law_389 (lv_at hl 1 rfl) ?_
    refine lv_icmp_eq (tgt := 396) hx hb dL_law_391 (by decide) (fun c9 => ?_) (fun c9 => (c9 rfl).elim)
    refine lv_iload hx hb dL_law_396 (lv_at hl 1 rfl) ?_
    refine lv_if_ne (tgt := 413) hx hb dL_law_398 (by decide) (fun c9 => ?_) (fun c9 => absurd c9 (la_ne hgo))
    refine lv_goto (tgt := 1825) hx hb dL_law_413 (by decide) ?_
    refine lv_iinc (v := (nI (6 * (k + 1)))) (lv' := [(4, .int (nI (6 * (k + 1)))), (6, .int r8), (5, .int (m_la (ga_tone d y1 y2 y3) (gb_tone d y1 y2 y3) (gc_tone d y1 y2 y3))), (0, .ref b), (1, .ref (ca 0)), (2, .ref (ad 0)), (3, .ref oa)]) hx hb dL_law_1825 hl (k := 2) rfl (by rw [show 6 * (k + 1) = 6 * k + 6 by omega]; exact nI_add (6 * k) 6) (by decide) rfl (fun ls hl => ?_)
    refine lv_goto (tgt := 23) hx hb dL_law_1828 (by decide) ?_
    refine W.widen (k := 100 + 40 * (k + 1)) (n := 5000 + 400 * (k + 1)) (by show 100 + 40 * k + 40 + 0 + 0 ≤ _; omega) (by show 5000 + 400 * k + 400 + 0 + 0 ≤ _; omega) ?_
    exact ih ca ad (sL d (m_la (ga_tone d y1 y2 y3) (gb_tone d y1 y2 y3) (gc_tone d y1 y2 y3))) tk st of9 w8 _ _ _ hC8 hM8 hI9 h78 hG (lv_sub hl [0, 3, 4, 5, 6] rfl)
  · skip
    rw [e9]; clear e9
    have z1000 := hM9.1
    show W p l e _ s m args below meth c H locs _ _ _ (F0 m 359 ls [.int 0])
    have hI9 : iOk (sL (gD d 3 (upd (d 3) (65 * y1 + y2).toNatClampNeg y3)) 0) (100 * (k + 1)) := by rw [show 100 * (k + 1) = 100 * k + 100 by omega]; exact I_tone hI hgo
    refine lv_istore (lv' := [(5, .int 0), (4, .int (nI (6 * k))), (0, .ref b), (1, .ref (ca 0)), (2, .ref (ad 0)), (3, .ref oa)]) hx hb dL_law_359 hl (by decide) rfl (fun ls hl => ?_)
    refine lv_aload_n hx hb dL_law_361 rfl (lv_at hl 4 rfl) ?_
    refine lv_aload_n hx hb dL_law_362 rfl (lv_at hl 2 rfl) ?_
    refine lv_iload hx hb dL_law_363 (lv_at hl 1 rfl) ?_
    refine lv_iconst (v := 1) hx hb dL_law_365 (by decide) ?_
    refine lv_iadd hx hb dL_law_366 ?_
    rw [show nI (6 * k) + 1 = nI (6 * k + 1) from nI_add _ _]
    refine va_sld (xs := xs) hx hb hX hbl hbA hG.2.2 (vp_in_nI (by omega) (by omega)) dL_law_367 ?_
    rw [← ey1]
    refine lv_aload_n hx hb dL_law_368 rfl (lv_at hl 2 rfl) ?_
    refine lv_iload hx hb dL_law_369 (lv_at hl 1 rfl) ?_
    refine lv_iconst (v := 2) hx hb dL_law_371 (by decide) ?_
    refine lv_iadd hx hb dL_law_372 ?_
    rw [show nI (6 * k) + 2 = nI (6 * k + 2) from nI_add _ _]
    refine va_sld (xs := xs) hx hb hX hbl hbA hG.2.2 (vp_in_nI (by omega) (by omega)) dL_law_373 ?_
    rw [← ey2]
    refine lv_aload_n hx hb dL_law_374 rfl (lv_at hl 2 rfl) ?_
    refine lv_iload hx hb dL_law_375 (lv_at hl 1 rfl) ?_
    refine lv_iconst (v := 3) hx hb dL_law_377 (by decide) ?_
    refine lv_iadd hx hb dL_law_378 ?_
    rw [show nI (6 * k) + 3 = nI (6 * k + 3) from nI_add _ _]
    refine va_sld (xs := xs) hx hb hX hbl hbA hG.2.2 (vp_in_nI (by omega) (by omega)) dL_law_379 ?_
    rw [← ey3]
    refine g_callV (rest := []) (As := [.int y1, .int y2, .int y3]) hE hG hl.1 (c_X6_tone l hfl D tc A w9 ad d tk st y1 y2 y3 hM9 hOk) z1000 rfl mw4_54 mw4_55 mw4_56 mw1_4 mw4_57 rfl nm_X6_tone ⟨⟨Nat.le_of_ble_eq_true rfl, Nat.le_of_ble_eq_true rfl⟩, (by show 100 + 40 * k + 40 + 0 ≤ 601024; omega), (by show 5000 + 400 * k + 400 + 0 ≤ 7293034; omega)⟩ rfl rfl (Nat.le_of_ble_eq_true rfl) dL_law_380 (g_no) ?_
    intro v8 w8 H locs h8 hG
    rcases h8 with ⟨hg8, -⟩ | ⟨-, e8, hM8, hF8⟩
    · exact absurd hg8 hgo
    rw [e8]; clear e8
    have hC8 : cW tc w8 ca9 (sL (gD d 3 (upd (d 3) (65 * y1 + y2).toNatClampNeg y3)) 0) tk st := cW_cg (hC9) hI9.1 (fun q h1 _ => hF8 q h1)
    have h78 := (hF8 7 (by omega)).trans h79
    have z8 := hM8.1
    show W p l e _ s m args below meth c H locs _ _ _ (F0 m 383 ls [.int (d 3 (65 * y1 + y2).toNatClampNeg)])
    refine lv_istore (lv' := [(6, .int (d 3 (65 * y1 + y2).toNatClampNeg)), (5, .int 0), (4, .int (nI (6 * k))), (0, .ref b), (1, .ref (ca 0)), (2, .ref (ad 0)), (3, .ref oa)]) hx hb dL_law_383 hl (by decide) rfl (fun ls hl => ?_)
    refine lv_aload_n hx hb dL_law_385 rfl (lv_at hl 5 rfl) ?_
    refine g_callV (rest := []) (As := []) hE hG hl.1 (c_X6_thrown l hfl D tc A w8 ad (sL (gD d 3 (upd (d 3) (65 * y1 + y2).toNatClampNeg y3)) 0) tk st hM8) z8 rfl mw4_27 mw4_28 mw4_29 mw1_4 mw4_30 rfl nm_X6_thrown ⟨⟨Nat.le_of_ble_eq_true rfl, Nat.le_of_ble_eq_true rfl⟩, (by show 100 + 40 * k + 40 + 0 + 0 ≤ 601024; omega), (by show 5000 + 400 * k + 400 + 0 + 0 ≤ 7293034; omega)⟩ rfl rfl (Nat.le_of_ble_eq_true rfl) dL_law_386 (g_no) ?_
    intro v6 w6 H locs h6 hG
    obtain ⟨e6, f6⟩ := h6
    rw [f6] at hG; rw [e6, show (sL (gD d 3 (upd (d 3) (65 * y1 + y2).toNatClampNeg y3)) 0) 9 14 = 0 from rfl]; clear e6 f6
    show W p l e _ s m args below meth c H locs _ _ _ (F0 m 389 ls [.int 0])
    refine lv_iload hx hb dL_law_389 (lv_at hl 1 rfl) ?_
    refine lv_icmp_eq (tgt := 396) hx hb dL_law_391 (by decide) (fun _ => ?_) (fun c9 => (c9 (by decide)).elim)
    refine lv_iload hx hb dL_law_396 (lv_at hl 1 rfl) ?_
    refine lv_if_ne (tgt := 413) hx hb dL_law_398 (by decide) (fun c9 => (c9 (by decide)).elim) (fun _ => ?_)
    refine lv_aload_n hx hb dL_law_401 rfl (lv_at hl 6 rfl) ?_
    refine lv_iconst (v := 0) hx hb dL_law_402 (by decide) ?_
    refine g_lald hE hG h78 (vp_in_nI (n := 0) (N := 1) (by decide) (by decide)) dL_law_403 ?_
    rw [show of9 (0 : Int32).toNatClampNeg = (d 3 (65 * y1 + y2).toNatClampNeg).toInt64 from hof]
    refine lv_iload hx hb dL_law_404 (lv_at hl 0 rfl) ?_
    refine lv_i2l (v := (d 3 (65 * y1 + y2).toNatClampNeg).toInt64) hx hb dL_law_406 rfl ?_
    refine W.lcmp hx hb dL_law_407 ?_
    refine lv_if_eq (tgt := 413) hx hb dL_law_408 (by decide) (fun c9 => ?_) (fun c9 => (c9 (lg_self _)).elim)
    refine lv_goto (tgt := 1825) hx hb dL_law_413 (by decide) ?_
    refine lv_iinc (v := (nI (6 * (k + 1)))) (lv' := [(4, .int (nI (6 * (k + 1)))), (6, .int (d 3 (65 * y1 + y2).toNatClampNeg)), (5, .int 0), (0, .ref b), (1, .ref (ca 0)), (2, .ref (ad 0)), (3, .ref oa)]) hx hb dL_law_1825 hl (k := 2) rfl (by rw [show 6 * (k + 1) = 6 * k + 6 by omega]; exact nI_add (6 * k) 6) (by decide) rfl (fun ls hl => ?_)
    refine lv_goto (tgt := 23) hx hb dL_law_1828 (by decide) ?_
    refine W.widen (k := 100 + 40 * (k + 1)) (n := 5000 + 400 * (k + 1)) (by show 100 + 40 * k + 40 + 0 + 0 ≤ _; omega) (by show 5000 + 400 * k + 400 + 0 + 0 ≤ _; omega) ?_
    exact ih ca9 ad (sL (gD d 3 (upd (d 3) (65 * y1 + y2).toNatClampNeg y3)) 0) tk st of9 w8 _ _ _ hC8 hM8 hI9 h78 hG (by rw [hca9]; exact lv_sub hl [0, 3, 4, 5, 6] rfl)
set_option maxHeartbeats 4000000 in
set_option maxRecDepth 100000 in
theorem lc_forbid {p : Program} {l : Launch} {e : Env} {s : State} {m : MethodId} {args : Array Value} {below : List Frame} {meth : Method} {c : Code} {Q : State → Prop} (hfl : l.stackTraces = false) {D : va_G} {tc : Nat → ClassId} {A : Nat → Prop} {b L : Nat} {xs : Nat → Int32} {oa k : Nat} (hE : gE p l s m args meth c code 8 RL D tc A) (hX : va_X b L xs s s.heap) (hbl : b < s.heap.size) (hbA : ¬ A b) (hL : L ≤ 3072) (hk : 6 * k + 6 ≤ L) (ih : gLoop p l e s m args below meth c Q D tc A b oa (k + 1)) (ca ad : Nat → Nat) (d : gDt) (tk : Int64) (st of : Nat → Int64) (w : gW) (H : Heap) (locs : List Loc) (ls : Array Slot) (hC : cW tc w ca d tk st) (hM : mW tc w ad d tk st) (hI : iOk d (100 * k)) (h7 : w 7 = some (oa, .inl (tc 1, 1, .inr (.inl of)))) (hG : gS D A s.heap w H locs) (hl : lv_has ls 8 [(4, .int (nI (6 * k))), (0, .ref b), (1, .ref (ca 0)), (2, .ref (ad 0)), (3, .ref oa)]) : W p l e room_1 s m args below meth c H locs (100 + 40 * k) (5000 + 400 * k) Q (F0 m 416 ls []) := by
  have hx := hE.1
  have hb := hE.2.1
  obtain ⟨hOk, hF, hT, hpO, hrO, hj⟩ := id hI
  have z0 := hC.1.1
  have zm := hM.1
  obtain ⟨y1, ey1⟩ : ∃ y, y = xs (nI (6 * k + 1)).toNatClampNeg := ⟨_, rfl⟩
  obtain ⟨y2, ey2⟩ : ∃ y, y = xs (nI (6 * k + 2)).toNatClampNeg := ⟨_, rfl⟩
  obtain ⟨y3, ey3⟩ : ∃ y, y = xs (nI (6 * k + 3)).toNatClampNeg := ⟨_, rfl⟩
  obtain ⟨y4, ey4⟩ : ∃ y, y = xs (nI (6 * k + 4)).toNatClampNeg := ⟨_, rfl⟩
  obtain ⟨y5, ey5⟩ : ∃ y, y = xs (nI (6 * k + 5)).toNatClampNeg := ⟨_, rfl⟩
  refine lv_aload_n hx hb dL_law_416 rfl (lv_at hl 2 rfl) ?_
  refine lv_aload_n hx hb dL_law_417 rfl (lv_at hl 1 rfl) ?_
  refine lv_iload hx hb dL_law_418 (lv_at hl 0 rfl) ?_
  refine lv_iconst (v := 1) hx hb dL_law_420 (by decide) ?_
  refine lv_iadd hx hb dL_law_421 ?_
  rw [show nI (6 * k) + 1 = nI (6 * k + 1) from nI_add _ _]
  refine va_sld (xs := xs) hx hb hX hbl hbA hG.2.2 (vp_in_nI (by omega) (by omega)) dL_law_422 ?_
  rw [← ey1]
  refine lv_aload_n hx hb dL_law_423 rfl (lv_at hl 1 rfl) ?_
  refine lv_iload hx hb dL_law_424 (lv_at hl 0 rfl) ?_
  refine lv_iconst (v := 2) hx hb dL_law_426 (by decide) ?_
  refine lv_iadd hx hb dL_law_427 ?_
  rw [show nI (6 * k) + 2 = nI (6 * k + 2) from nI_add _ _]
  refine va_sld (xs := xs) hx hb hX hbl hbA hG.2.2 (vp_in_nI (by omega) (by omega)) dL_law_428 ?_
  rw [← ey2]
  refine lv_aload_n hx hb dL_law_429 rfl (lv_at hl 4 rfl) ?_
  refine g_callSH (rest := []) (As := [.ref (ca 0), .int y1, .int y2, .ref oa]) hE hG hl.1 (c_L_forbid l hfl D tc A w ca d tk st y1 y2 oa of (100 * k) hC hI (by omega) h7) mw2_80 mw2_81 mw1_0 mw2_82 nm_L_forbid ⟨⟨Nat.le_of_ble_eq_true rfl, Nat.le_of_ble_eq_true rfl⟩, (by show 100 + 40 * k + 40 ≤ 601024; omega), (by show 5000 + 400 * k + 400 ≤ 7293034; omega)⟩ rfl rfl (Nat.le_of_ble_eq_true rfl) dL_law_430 (g_no) ?_
  intro v9 w9 H locs h9 hG
  obtain ⟨hgl, of9, h79, hd⟩ := h9
  have hM9 := mW_cg hM hgl
  rcases hd with ⟨hgo, e9, hC9⟩ | ⟨hgo, e9, hof, ca9, hca9, hC9⟩
  · skip
    rw [e9]; clear e9
    have z1000 := hM9.1
    show W p l e _ s m args below meth c H locs _ _ _ (F0 m 433 ls [.int (m_la (ga_forbid d y1 y2) (gb_forbid d y1 y2) (gc_forbid d y1 y2))])
    have hI9 : iOk (sL d (m_la (ga_forbid d y1 y2) (gb_forbid d y1 y2) (gc_forbid d y1 y2))) (100 * (k + 1)) := by rw [show 100 * (k + 1) = 100 * k + 100 by omega]; exact iOk_l hI _
    refine lv_istore (lv' := [(5, .int (m_la (ga_forbid d y1 y2) (gb_forbid d y1 y2) (gc_forbid d y1 y2))), (4, .int (nI (6 * k))), (0, .ref b), (1, .ref (ca 0)), (2, .ref (ad 0)), (3, .ref oa)]) hx hb dL_law_433 hl (by decide) rfl (fun ls hl => ?_)
    refine lv_aload_n hx hb dL_law_435 rfl (lv_at hl 4 rfl) ?_
    refine lv_aload_n hx hb dL_law_436 rfl (lv_at hl 2 rfl) ?_
    refine lv_iload hx hb dL_law_437 (lv_at hl 1 rfl) ?_
    refine lv_iconst (v := 1) hx hb dL_law_439 (by decide) ?_
    refine lv_iadd hx hb dL_law_440 ?_
    rw [show nI (6 * k) + 1 = nI (6 * k + 1) from nI_add _ _]
    refine va_sld (xs := xs) hx hb hX hbl hbA hG.2.2 (vp_in_nI (by omega) (by omega)) dL_law_441 ?_
    rw [← ey1]
    refine lv_aload_n hx hb dL_law_442 rfl (lv_at hl 2 rfl) ?_
    refine lv_iload hx hb dL_law_443 (lv_at hl 1 rfl) ?_
    refine lv_iconst (v := 2) hx hb dL_law_445 (by decide) ?_
    refine lv_iadd hx hb dL_law_446 ?_
    rw [show nI (6 * k) + 2 = nI (6 * k + 2) from nI_add _ _]
    refine va_sld (xs := xs) hx hb hX hbl hbA hG.2.2 (vp_in_nI (by omega) (by omega)) dL_law_447 ?_
    rw [← ey2]
    refine g_callV (rest := []) (As := [.int y1, .int y2]) hE hG hl.1 (c_X6_forbid l hfl D tc A w9 ad d tk st y1 y2 hM9 hOk) z1000 rfl mw4_70 mw4_71 mw4_72 mw1_4 mw4_73 rfl nm_X6_forbid ⟨⟨Nat.le_of_ble_eq_true rfl, Nat.le_of_ble_eq_true rfl⟩, (by show 100 + 40 * k + 40 + 0 ≤ 601024; omega), (by show 5000 + 400 * k + 400 + 0 ≤ 7293034; omega)⟩ rfl rfl (Nat.le_of_ble_eq_true rfl) dL_law_448 (g_no) ?_
    intro v8 w8 H locs h8 hG
    rcases h8 with ⟨-, ⟨r8, e8⟩, hM8, hF8⟩ | ⟨hg8, -⟩
    rotate_left
    · exact absurd hgo hg8
    rw [e8]; clear e8
    have hC8 : cW tc w8 ca (sL d (m_la (ga_forbid d y1 y2) (gb_forbid d y1 y2) (gc_forbid d y1 y2))) tk st := cW_cg (cW_l hC9 _) hI9.1 (fun q h1 _ => hF8 q h1)
    have h78 := (hF8 7 (by omega)).trans h79
    have z8 := hM8.1
    show W p l e _ s m args below meth c H locs _ _ _ (F0 m 451 ls [.int r8])
    refine lv_istore (lv' := [(6, .int r8), (5, .int (m_la (ga_forbid d y1 y2) (gb_forbid d y1 y2) (gc_forbid d y1 y2))), (4, .int (nI (6 * k))), (0, .ref b), (1, .ref (ca 0)), (2, .ref (ad 0)), (3, .ref oa)]) hx hb dL_law_451 hl (by decide) rfl (fun ls hl => ?_)
    refine lv_aload_n hx hb dL_law_453 rfl (lv_at hl 5 rfl) ?_
    refine g_callV (rest := []) (As := []) hE hG hl.1 (c_X6_thrown l hfl D tc A w8 ad (sL d (m_la (ga_forbid d y1 y2) (gb_forbid d y1 y2) (gc_forbid d y1 y2))) tk st hM8) z8 rfl mw4_27 mw4_28 mw4_29 mw1_4 mw4_30 rfl nm_X6_thrown ⟨⟨Nat.le_of_ble_eq_true rfl, Nat.le_of_ble_eq_true rfl⟩, (by show 100 + 40 * k + 40 + 0 + 0 ≤ 601024; omega), (by show 5000 + 400 * k + 400 + 0 + 0 ≤ 7293034; omega)⟩ rfl rfl (Nat.le_of_ble_eq_true rfl) dL_law_454 (g_no) ?_
    intro v6 w6 H locs h6 hG
    obtain ⟨e6, f6⟩ := h6
    rw [f6] at hG; rw [e6, show (sL d (m_la (ga_forbid d y1 y2) (gb_forbid d y1 y2) (gc_forbid d y1 y2))) 9 14 = (m_la (ga_forbid d y1 y2) (gb_forbid d y1 y2) (gc_forbid d y1 y2)) from rfl]; clear e6 f6
    show W p l e _ s m args below meth c H locs _ _ _ (F0 m 457 ls [.int (m_la (ga_forbid d y1 y2) (gb_forbid d y1 y2) (gc_forbid d y1 y2))])
    refine lv_iload hx hb dL_law_457 (lv_at hl 1 rfl) ?_
    refine lv_icmp_eq (tgt := 464) hx hb dL_law_459 (by decide) (fun c9 => ?_) (fun c9 => (c9 rfl).elim)
    refine lv_iload hx hb dL_law_464 (lv_at hl 1 rfl) ?_
    refine lv_if_ne (tgt := 481) hx hb dL_law_466 (by decide) (fun c9 => ?_) (fun c9 => absurd c9 (la_ne hgo))
    refine lv_goto (tgt := 1825) hx hb dL_law_481 (by decide) ?_
    refine lv_iinc (v := (nI (6 * (k + 1)))) (lv' := [(4, .int (nI (6 * (k + 1)))), (6, .int r8), (5, .int (m_la (ga_forbid d y1 y2) (gb_forbid d y1 y2) (gc_forbid d y1 y2))), (0, .ref b), (1, .ref (ca 0)), (2, .ref (ad 0)), (3, .ref oa)]) hx hb dL_law_1825 hl (k := 2) rfl (by rw [show 6 * (k + 1) = 6 * k + 6 by omega]; exact nI_add (6 * k) 6) (by decide) rfl (fun ls hl => ?_)
    refine lv_goto (tgt := 23) hx hb dL_law_1828 (by decide) ?_
    refine W.widen (k := 100 + 40 * (k + 1)) (n := 5000 + 400 * (k + 1)) (by show 100 + 40 * k + 40 + 0 + 0 ≤ _; omega) (by show 5000 + 400 * k + 400 + 0 + 0 ≤ _; omega) ?_
    exact ih ca ad (sL d (m_la (ga_forbid d y1 y2) (gb_forbid d y1 y2) (gc_forbid d y1 y2))) tk st of9 w8 _ _ _ hC8 hM8 hI9 h78 hG (lv_sub hl [0, 3, 4, 5, 6] rfl)
  · skip
    rw [e9]; clear e9
    have z1000 := hM9.1
    show W p l e _ s m args below meth c H locs _ _ _ (F0 m 433 ls [.int 0])
    have hI9 : iOk (sL (gD d 2 (upd (d 2) y1.toNatClampNeg y2)) 0) (100 * (k + 1)) := by rw [show 100 * (k + 1) = 100 * k + 100 by omega]; exact I_forbid hI hgo
    refine lv_istore (lv' := [(5, .int 0), (4, .int (nI (6 * k))), (0, .ref b), (1, .ref (ca 0)), (2, .ref (ad 0)), (3, .ref oa)]) hx hb dL_law_433 hl (by decide) rfl (fun ls hl => ?_)
    refine lv_aload_n hx hb dL_law_435 rfl (lv_at hl 4 rfl) ?_
    refine lv_aload_n hx hb dL_law_436 rfl (lv_at hl 2 rfl) ?_
    refine lv_iload hx hb dL_law_437 (lv_at hl 1 rfl) ?_
    refine lv_iconst (v := 1) hx hb dL_law_439 (by decide) ?_
    refine lv_iadd hx hb dL_law_440 ?_
    rw [show nI (6 * k) + 1 = nI (6 * k + 1) from nI_add _ _]
    refine va_sld (xs := xs) hx hb hX hbl hbA hG.2.2 (vp_in_nI (by omega) (by omega)) dL_law_441 ?_
    rw [← ey1]
    refine lv_aload_n hx hb dL_law_442 rfl (lv_at hl 2 rfl) ?_
    refine lv_iload hx hb dL_law_443 (lv_at hl 1 rfl) ?_
    refine lv_iconst (v := 2) hx hb dL_law_445 (by decide) ?_
    refine lv_iadd hx hb dL_law_446 ?_
    rw [show nI (6 * k) + 2 = nI (6 * k + 2) from nI_add _ _]
    refine va_sld (xs := xs) hx hb hX hbl hbA hG.2.2 (vp_in_nI (by omega) (by omega)) dL_law_447 ?_
    rw [← ey2]
    refine g_callV (rest := []) (As := [.int y1, .int y2]) hE hG hl.1 (c_X6_forbid l hfl D tc A w9 ad d tk st y1 y2 hM9 hOk) z1000 rfl mw4_70 mw4_71 mw4_72 mw1_4 mw4_73 rfl nm_X6_forbid ⟨⟨Nat.le_of_ble_eq_true rfl, Nat.le_of_ble_eq_true rfl⟩, (by show 100 + 40 * k + 40 + 0 ≤ 601024; omega), (by show 5000 + 400 * k + 400 + 0 ≤ 7293034; omega)⟩ rfl rfl (Nat.le_of_ble_eq_true rfl) dL_law_448 (g_no) ?_
    intro v8 w8 H locs h8 hG
    rcases h8 with ⟨hg8, -⟩ | ⟨-, e8, hM8, hF8⟩
    · exact absurd hg8 hgo
    rw [e8]; clear e8
    have hC8 : cW tc w8 ca9 (sL (gD d 2 (upd (d 2) y1.toNatClampNeg y2)) 0) tk st := cW_cg (hC9) hI9.1 (fun q h1 _ => hF8 q h1)
    have h78 := (hF8 7 (by omega)).trans h79
    have z8 := hM8.1
    show W p l e _ s m args below meth c H locs _ _ _ (F0 m 451 ls [.int (d 2 y1.toNatClampNeg)])
    refine lv_istore (lv' := [(6, .int (d 2 y1.toNatClampNeg)), (5, .int 0), (4, .int (nI (6 * k))), (0, .ref b), (1, .ref (ca 0)), (2, .ref (ad 0)), (3, .ref oa)]) hx hb dL_law_451 hl (by decide) rfl (fun ls hl => ?_)
    refine lv_aload_n hx hb dL_law_453 rfl (lv_at hl 5 rfl) ?_
    refine g_callV (rest := []) (As := []) hE hG hl.1 (c_X6_thrown l hfl D tc A w8 ad (sL (gD d 2 (upd (d 2) y1.toNatClampNeg y2)) 0) tk st hM8) z8 rfl mw4_27 mw4_28 mw4_29 mw1_4 mw4_30 rfl nm_X6_thrown ⟨⟨Nat.le_of_ble_eq_true rfl, Nat.le_of_ble_eq_true rfl⟩, (by show 100 + 40 * k + 40 + 0 + 0 ≤ 601024; omega), (by show 5000 + 400 * k + 400 + 0 + 0 ≤ 7293034; omega)⟩ rfl rfl (Nat.le_of_ble_eq_true rfl) dL_law_454 (g_no) ?_
    intro v6 w6 H locs h6 hG
    obtain ⟨e6, f6⟩ := h6
    rw [f6] at hG; rw [e6, show (sL (gD d 2 (upd (d 2) y1.toNatClampNeg y2)) 0) 9 14 = 0 from rfl]; clear e6 f6
    show W p l e _ s m args below meth c H locs _ _ _ (F0 m 457 ls [.int 0])
    refine lv_iload hx hb dL_law_457 (lv_at hl 1 rfl) ?_
    refine lv_icmp_eq (tgt := 464) hx hb dL_law_459 (by decide) (fun _ => ?_) (fun c9 => (c9 (by decide)).elim)
    refine lv_iload hx hb dL_law_464 (lv_at hl 1 rfl) ?_
    refine lv_if_ne (tgt := 481) hx hb dL_law_466 (by decide) (fun c9 => (c9 (by decide)).elim) (fun _ => ?_)
    refine lv_aload_n hx hb dL_law_469 rfl (lv_at hl 6 rfl) ?_
    refine lv_iconst (v := 0) hx hb dL_law_470 (by decide) ?_
    refine g_lald hE hG h78 (vp_in_nI (n := 0) (N := 1) (by decide) (by decide)) dL_law_471 ?_
    rw [show of9 (0 : Int32).toNatClampNeg = (d 2 y1.toNatClampNeg).toInt64 from hof]
    refine lv_iload hx hb dL_law_472 (lv_at hl 0 rfl) ?_
    refine lv_i2l (v := (d 2 y1.toNatClampNeg).toInt64) hx hb dL_law_474 rfl ?_
    refine W.lcmp hx hb dL_law_475 ?_
    refine lv_if_eq (tgt := 481) hx hb dL_law_476 (by decide) (fun c9 => ?_) (fun c9 => (c9 (lg_self _)).elim)
    refine lv_goto (tgt := 1825) hx hb dL_law_481 (by decide) ?_
    refine lv_iinc (v := (nI (6 * (k + 1)))) (lv' := [(4, .int (nI (6 * (k + 1)))), (6, .int (d 2 y1.toNatClampNeg)), (5, .int 0), (0, .ref b), (1, .ref (ca 0)), (2, .ref (ad 0)), (3, .ref oa)]) hx hb dL_law_1825 hl (k := 2) rfl (by rw [show 6 * (k + 1) = 6 * k + 6 by omega]; exact nI_add (6 * k) 6) (by decide) rfl (fun ls hl => ?_)
    refine lv_goto (tgt := 23) hx hb dL_law_1828 (by decide) ?_
    refine W.widen (k := 100 + 40 * (k + 1)) (n := 5000 + 400 * (k + 1)) (by show 100 + 40 * k + 40 + 0 + 0 ≤ _; omega) (by show 5000 + 400 * k + 400 + 0 + 0 ≤ _; omega) ?_
    exact ih ca9 ad (sL (gD d 2 (upd (d 2) y1.toNatClampNeg y2)) 0) tk st of9 w8 _ _ _ hC8 hM8 hI9 h78 hG (by rw [hca9]; exact lv_sub hl [0, 3, 4, 5, 6] rfl)
set_option maxHeartbeats 4000000 in
set_option maxRecDepth 100000 in
theorem lc_sounds {p : Program} {l : Launch} {e : Env} {s : State} {m : MethodId} {args : Array Value} {below : List Frame} {meth : Method} {c : Code} {Q : State → Prop} (hfl : l.stackTraces = false) {D : va_G} {tc : Nat → ClassId} {A : Nat → Prop} {b L : Nat} {xs : Nat → Int32} {oa k : Nat} (hE : gE p l s m args meth c code 8 RL D tc A) (hX : va_X b L xs s s.heap) (hbl : b < s.heap.size) (hbA : ¬ A b) (hL : L ≤ 3072) (hk : 6 * k + 6 ≤ L) (ih : gLoop p l e s m args below meth c Q D tc A b oa (k + 1)) (ca ad : Nat → Nat) (d : gDt) (tk : Int64) (st of : Nat → Int64) (w : gW) (H : Heap) (locs : List Loc) (ls : Array Slot) (hC : cW tc w ca d tk st) (hM : mW tc w ad d tk st) (hI : iOk d (100 * k)) (h7 : w 7 = some (oa, .inl (tc 1, 1, .inr (.inl of)))) (hG : gS D A s.heap w H locs) (hl : lv_has ls 8 [(4, .int (nI (6 * k))), (0, .ref b), (1, .ref (ca 0)), (2, .ref (ad 0)), (3, .ref oa)]) : W p l e room_1 s m args below meth c H locs (100 + 40 * k) (5000 + 400 * k) Q (F0 m 484 ls []) := by
  have hx := hE.1
  have hb := hE.2.1
  obtain ⟨hOk, hF, hT, hpO, hrO, hj⟩ := id hI
  have z0 := hC.1.1
  have zm := hM.1
  obtain ⟨y1, ey1⟩ : ∃ y, y = xs (nI (6 * k + 1)).toNatClampNeg := ⟨_, rfl⟩
  obtain ⟨y2, ey2⟩ : ∃ y, y = xs (nI (6 * k + 2)).toNatClampNeg := ⟨_, rfl⟩
  obtain ⟨y3, ey3⟩ : ∃ y, y = xs (nI (6 * k + 3)).toNatClampNeg := ⟨_, rfl⟩
  obtain ⟨y4, ey4⟩ : ∃ y, y = xs (nI (6 * k + 4)).toNatClampNeg := ⟨_, rfl⟩
  obtain ⟨y5, ey5⟩ : ∃ y, y = xs (nI (6 * k + 5)).toNatClampNeg := ⟨_, rfl⟩
  refine lv_aload_n hx hb dL_law_484 rfl (lv_at hl 2 rfl) ?_
  refine lv_aload_n hx hb dL_law_485 rfl (lv_at hl 1 rfl) ?_
  refine lv_iload hx hb dL_law_486 (lv_at hl 0 rfl) ?_
  refine lv_iconst (v := 1) hx hb dL_law_488 (by decide) ?_
  refine lv_iadd hx hb dL_law_489 ?_
  rw [show nI (6 * k) + 1 = nI (6 * k + 1) from nI_add _ _]
  refine va_sld (xs := xs) hx hb hX hbl hbA hG.2.2 (vp_in_nI (by omega) (by omega)) dL_law_490 ?_
  rw [← ey1]
  refine lv_aload_n hx hb dL_law_491 rfl (lv_at hl 1 rfl) ?_
  refine lv_iload hx hb dL_law_492 (lv_at hl 0 rfl) ?_
  refine lv_iconst (v := 2) hx hb dL_law_494 (by decide) ?_
  refine lv_iadd hx hb dL_law_495 ?_
  rw [show nI (6 * k) + 2 = nI (6 * k + 2) from nI_add _ _]
  refine va_sld (xs := xs) hx hb hX hbl hbA hG.2.2 (vp_in_nI (by omega) (by omega)) dL_law_496 ?_
  rw [← ey2]
  refine lv_aload_n hx hb dL_law_497 rfl (lv_at hl 4 rfl) ?_
  refine g_callSH (rest := []) (As := [.ref (ca 0), .int y1, .int y2, .ref oa]) hE hG hl.1 (c_L_sounds l hfl D tc A w ca d tk st y1 y2 oa of (100 * k) hC hI (by omega) h7) mw2_88 mw2_89 mw1_0 mw2_90 nm_L_sounds ⟨⟨Nat.le_of_ble_eq_true rfl, Nat.le_of_ble_eq_true rfl⟩, (by show 100 + 40 * k + 40 ≤ 601024; omega), (by show 5000 + 400 * k + 400 ≤ 7293034; omega)⟩ rfl rfl (Nat.le_of_ble_eq_true rfl) dL_law_498 (g_no) ?_
  intro v9 w9 H locs h9 hG
  obtain ⟨hgl, of9, h79, hd⟩ := h9
  have hM9 := mW_cg hM hgl
  rcases hd with ⟨hgo, e9, hC9⟩ | ⟨hgo, e9, hof, ca9, hca9, hC9⟩
  · skip
    rw [e9]; clear e9
    have z1000 := hM9.1
    show W p l e _ s m args below meth c H locs _ _ _ (F0 m 501 ls [.int (m_la (ga_sounds d y1 y2) (gb_sounds d y1 y2) (gc_sounds d y1 y2))])
    have hI9 : iOk (sL d (m_la (ga_sounds d y1 y2) (gb_sounds d y1 y2) (gc_sounds d y1 y2))) (100 * (k + 1)) := by rw [show 100 * (k + 1) = 100 * k + 100 by omega]; exact iOk_l hI _
    refine lv_istore (lv' := [(5, .int (m_la (ga_sounds d y1 y2) (gb_sounds d y1 y2) (gc_sounds d y1 y2))), (4, .int (nI (6 * k))), (0, .ref b), (1, .ref (ca 0)), (2, .ref (ad 0)), (3, .ref oa)]) hx hb dL_law_501 hl (by decide) rfl (fun ls hl => ?_)
    refine lv_aload_n hx hb dL_law_503 rfl (lv_at hl 4 rfl) ?_
    refine lv_aload_n hx hb dL_law_504 rfl (lv_at hl 2 rfl) ?_
    refine lv_iload hx hb dL_law_505 (lv_at hl 1 rfl) ?_
    refine lv_iconst (v := 1) hx hb dL_law_507 (by decide) ?_
    refine lv_iadd hx hb dL_law_508 ?_
    rw [show nI (6 * k) + 1 = nI (6 * k + 1) from nI_add _ _]
    refine va_sld (xs := xs) hx hb hX hbl hbA hG.2.2 (vp_in_nI (by omega) (by omega)) dL_law_509 ?_
    rw [← ey1]
    refine lv_aload_n hx hb dL_law_510 rfl (lv_at hl 2 rfl) ?_
    refine lv_iload hx hb dL_law_511 (lv_at hl 1 rfl) ?_
    refine lv_iconst (v := 2) hx hb dL_law_513 (by decide) ?_
    refine lv_iadd hx hb dL_law_514 ?_
    rw [show nI (6 * k) + 2 = nI (6 * k + 2) from nI_add _ _]
    refine va_sld (xs := xs) hx hb hX hbl hbA hG.2.2 (vp_in_nI (by omega) (by omega)) dL_law_515 ?_
    rw [← ey2]
    refine g_callV (rest := []) (As := [.int y1, .int y2]) hE hG hl.1 (c_X6_sounds l hfl D tc A w9 ad d tk st y1 y2 hM9 hOk) z1000 rfl mw4_74 mw4_75 mw4_76 mw1_4 mw4_77 rfl nm_X6_sounds ⟨⟨Nat.le_of_ble_eq_true rfl, Nat.le_of_ble_eq_true rfl⟩, (by show 100 + 40 * k + 40 + 0 ≤ 601024; omega), (by show 5000 + 400 * k + 400 + 0 ≤ 7293034; omega)⟩ rfl rfl (Nat.le_of_ble_eq_true rfl) dL_law_516 (g_no) ?_
    intro v8 w8 H locs h8 hG
    rcases h8 with ⟨-, ⟨r8, e8⟩, hM8, hF8⟩ | ⟨hg8, -⟩
    rotate_left
    · exact absurd hgo hg8
    rw [e8]; clear e8
    have hC8 : cW tc w8 ca (sL d (m_la (ga_sounds d y1 y2) (gb_sounds d y1 y2) (gc_sounds d y1 y2))) tk st := cW_cg (cW_l hC9 _) hI9.1 (fun q h1 _ => hF8 q h1)
    have h78 := (hF8 7 (by omega)).trans h79
    have z8 := hM8.1
    show W p l e _ s m args below meth c H locs _ _ _ (F0 m 519 ls [.int r8])
    refine lv_istore (lv' := [(6, .int r8), (5, .int (m_la (ga_sounds d y1 y2) (gb_sounds d y1 y2) (gc_sounds d y1 y2))), (4, .int (nI (6 * k))), (0, .ref b), (1, .ref (ca 0)), (2, .ref (ad 0)), (3, .ref oa)]) hx hb dL_law_519 hl (by decide) rfl (fun ls hl => ?_)
    refine lv_aload_n hx hb dL_law_521 rfl (lv_at hl 5 rfl) ?_
    refine g_callV (rest := []) (As := []) hE hG hl.1 (c_X6_thrown l hfl D tc A w8 ad (sL d (m_la (ga_sounds d y1 y2) (gb_sounds d y1 y2) (gc_sounds d y1 y2))) tk st hM8) z8 rfl mw4_27 mw4_28 mw4_29 mw1_4 mw4_30 rfl nm_X6_thrown ⟨⟨Nat.le_of_ble_eq_true rfl, Nat.le_of_ble_eq_true rfl⟩, (by show 100 + 40 * k + 40 + 0 + 0 ≤ 601024; omega), (by show 5000 + 400 * k + 400 + 0 + 0 ≤ 7293034; omega)⟩ rfl rfl (Nat.le_of_ble_eq_true rfl) dL_law_522 (g_no) ?_
    intro v6 w6 H locs h6 hG
    obtain ⟨e6, f6⟩ := h6
    rw [f6] at hG; rw [e6, show (sL d (m_la (ga_sounds d y1 y2) (gb_sounds d y1 y2) (gc_sounds d y1 y2))) 9 14 = (m_la (ga_sounds d y1 y2) (gb_sounds d y1 y2) (gc_sounds d y1 y2)) from rfl]; clear e6 f6
    show W p l e _ s m args below meth c H locs _ _ _ (F0 m 525 ls [.int (m_la (ga_sounds d y1 y2) (gb_sounds d y1 y2) (gc_sounds d y1 y2))])
    refine lv_iload hx hb dL_law_525 (lv_at hl 1 rfl) ?_
    refine lv_icmp_eq (tgt := 532) hx hb dL_law_527 (by decide) (fun c9 => ?_) (fun c9 => (c9 rfl).elim)
    refine lv_iload hx hb dL_law_532 (lv_at hl 1 rfl) ?_
    refine lv_if_ne (tgt := 549) hx hb dL_law_534 (by decide) (fun c9 => ?_) (fun c9 => absurd c9 (la_ne hgo))
    refine lv_goto (tgt := 1825) hx hb dL_law_549 (by decide) ?_
    refine lv_iinc (v := (nI (6 * (k + 1)))) (lv' := [(4, .int (nI (6 * (k + 1)))), (6, .int r8), (5, .int (m_la (ga_sounds d y1 y2) (gb_sounds d y1 y2) (gc_sounds d y1 y2))), (0, .ref b), (1, .ref (ca 0)), (2, .ref (ad 0)), (3, .ref oa)]) hx hb dL_law_1825 hl (k := 2) rfl (by rw [show 6 * (k + 1) = 6 * k + 6 by omega]; exact nI_add (6 * k) 6) (by decide) rfl (fun ls hl => ?_)
    refine lv_goto (tgt := 23) hx hb dL_law_1828 (by decide) ?_
    refine W.widen (k := 100 + 40 * (k + 1)) (n := 5000 + 400 * (k + 1)) (by show 100 + 40 * k + 40 + 0 + 0 ≤ _; omega) (by show 5000 + 400 * k + 400 + 0 + 0 ≤ _; omega) ?_
    exact ih ca ad (sL d (m_la (ga_sounds d y1 y2) (gb_sounds d y1 y2) (gc_sounds d y1 y2))) tk st of9 w8 _ _ _ hC8 hM8 hI9 h78 hG (lv_sub hl [0, 3, 4, 5, 6] rfl)
  · skip
    rw [e9]; clear e9
    have z1000 := hM9.1
    show W p l e _ s m args below meth c H locs _ _ _ (F0 m 501 ls [.int 0])
    have hI9 : iOk (sL d 0) (100 * (k + 1)) := by rw [show 100 * (k + 1) = 100 * k + 100 by omega]; exact iOk_l hI 0
    refine lv_istore (lv' := [(5, .int 0), (4, .int (nI (6 * k))), (0, .ref b), (1, .ref (ca 0)), (2, .ref (ad 0)), (3, .ref oa)]) hx hb dL_law_501 hl (by decide) rfl (fun ls hl => ?_)
    refine lv_aload_n hx hb dL_law_503 rfl (lv_at hl 4 rfl) ?_
    refine lv_aload_n hx hb dL_law_504 rfl (lv_at hl 2 rfl) ?_
    refine lv_iload hx hb dL_law_505 (lv_at hl 1 rfl) ?_
    refine lv_iconst (v := 1) hx hb dL_law_507 (by decide) ?_
    refine lv_iadd hx hb dL_law_508 ?_
    rw [show nI (6 * k) + 1 = nI (6 * k + 1) from nI_add _ _]
    refine va_sld (xs := xs) hx hb hX hbl hbA hG.2.2 (vp_in_nI (by omega) (by omega)) dL_law_509 ?_
    rw [← ey1]
    refine lv_aload_n hx hb dL_law_510 rfl (lv_at hl 2 rfl) ?_
    refine lv_iload hx hb dL_law_511 (lv_at hl 1 rfl) ?_
    refine lv_iconst (v := 2) hx hb dL_law_513 (by decide) ?_
    refine lv_iadd hx hb dL_law_514 ?_
    rw [show nI (6 * k) + 2 = nI (6 * k + 2) from nI_add _ _]
    refine va_sld (xs := xs) hx hb hX hbl hbA hG.2.2 (vp_in_nI (by omega) (by omega)) dL_law_515 ?_
    rw [← ey2]
    refine g_callV (rest := []) (As := [.int y1, .int y2]) hE hG hl.1 (c_X6_sounds l hfl D tc A w9 ad d tk st y1 y2 hM9 hOk) z1000 rfl mw4_74 mw4_75 mw4_76 mw1_4 mw4_77 rfl nm_X6_sounds ⟨⟨Nat.le_of_ble_eq_true rfl, Nat.le_of_ble_eq_true rfl⟩, (by show 100 + 40 * k + 40 + 0 ≤ 601024; omega), (by show 5000 + 400 * k + 400 + 0 ≤ 7293034; omega)⟩ rfl rfl (Nat.le_of_ble_eq_true rfl) dL_law_516 (g_no) ?_
    intro v8 w8 H locs h8 hG
    rcases h8 with ⟨hg8, -⟩ | ⟨-, e8, hM8, hF8⟩
    · exact absurd hg8 hgo
    rw [e8]; clear e8
    have hC8 : cW tc w8 ca9 (sL d 0) tk st := cW_cg (hC9) hI9.1 (fun q h1 _ => hF8 q h1)
    have h78 := (hF8 7 (by omega)).trans h79
    have z8 := hM8.1
    show W p l e _ s m args below meth c H locs _ _ _ (F0 m 519 ls [.int (m_snd d y1.toNatClampNeg y2.toNatClampNeg)])
    refine lv_istore (lv' := [(6, .int (m_snd d y1.toNatClampNeg y2.toNatClampNeg)), (5, .int 0), (4, .int (nI (6 * k))), (0, .ref b), (1, .ref (ca 0)), (2, .ref (ad 0)), (3, .ref oa)]) hx hb dL_law_519 hl (by decide) rfl (fun ls hl => ?_)
    refine lv_aload_n hx hb dL_law_521 rfl (lv_at hl 5 rfl) ?_
    refine g_callV (rest := []) (As := []) hE hG hl.1 (c_X6_thrown l hfl D tc A w8 ad (sL d 0) tk st hM8) z8 rfl mw4_27 mw4_28 mw4_29 mw1_4 mw4_30 rfl nm_X6_thrown ⟨⟨Nat.le_of_ble_eq_true rfl, Nat.le_of_ble_eq_true rfl⟩, (by show 100 + 40 * k + 40 + 0 + 0 ≤ 601024; omega), (by show 5000 + 400 * k + 400 + 0 + 0 ≤ 7293034; omega)⟩ rfl rfl (Nat.le_of_ble_eq_true rfl) dL_law_522 (g_no) ?_
    intro v6 w6 H locs h6 hG
    obtain ⟨e6, f6⟩ := h6
    rw [f6] at hG; rw [e6, show (sL d 0) 9 14 = 0 from rfl]; clear e6 f6
    show W p l e _ s m args below meth c H locs _ _ _ (F0 m 525 ls [.int 0])
    refine lv_iload hx hb dL_law_525 (lv_at hl 1 rfl) ?_
    refine lv_icmp_eq (tgt := 532) hx hb dL_law_527 (by decide) (fun _ => ?_) (fun c9 => (c9 (by decide)).elim)
    refine lv_iload hx hb dL_law_532 (lv_at hl 1 rfl) ?_
    refine lv_if_ne (tgt := 549) hx hb dL_law_534 (by decide) (fun c9 => (c9 (by decide)).elim) (fun _ => ?_)
    refine lv_aload_n hx hb dL_law_537 rfl (lv_at hl 6 rfl) ?_
    refine lv_iconst (v := 0) hx hb dL_law_538 (by decide) ?_
    refine g_lald hE hG h78 (vp_in_nI (n := 0) (N := 1) (by decide) (by decide)) dL_law_539 ?_
    rw [show of9 (0 : Int32).toNatClampNeg = (m_snd d y1.toNatClampNeg y2.toNatClampNeg).toInt64 from hof]
    refine lv_iload hx hb dL_law_540 (lv_at hl 0 rfl) ?_
    refine lv_i2l (v := (m_snd d y1.toNatClampNeg y2.toNatClampNeg).toInt64) hx hb dL_law_542 rfl ?_
    refine W.lcmp hx hb dL_law_543 ?_
    refine lv_if_eq (tgt := 549) hx hb dL_law_544 (by decide) (fun c9 => ?_) (fun c9 => (c9 (lg_self _)).elim)
    refine lv_goto (tgt := 1825) hx hb dL_law_549 (by decide) ?_
    refine lv_iinc (v := (nI (6 * (k + 1)))) (lv' := [(4, .int (nI (6 * (k + 1)))), (6, .int (m_snd d y1.toNatClampNeg y2.toNatClampNeg)), (5, .int 0), (0, .ref b), (1, .ref (ca 0)), (2, .ref (ad 0)), (3, .ref oa)]) hx hb dL_law_1825 hl (k := 2) rfl (by rw [show 6 * (k + 1) = 6 * k + 6 by omega]; exact nI_add (6 * k) 6) (by decide) rfl (fun ls hl => ?_)
    refine lv_goto (tgt := 23) hx hb dL_law_1828 (by decide) ?_
    refine W.widen (k := 100 + 40 * (k + 1)) (n := 5000 + 400 * (k + 1)) (by show 100 + 40 * k + 40 + 0 + 0 ≤ _; omega) (by show 5000 + 400 * k + 400 + 0 + 0 ≤ _; omega) ?_
    exact ih ca9 ad (sL d 0) tk st of9 w8 _ _ _ hC8 hM8 hI9 h78 hG (by rw [hca9]; exact lv_sub hl [0, 3, 4, 5, 6] rfl)
set_option maxHeartbeats 4000000 in
set_option maxRecDepth 100000 in
theorem lc_stroke {p : Program} {l : Launch} {e : Env} {s : State} {m : MethodId} {args : Array Value} {below : List Frame} {meth : Method} {c : Code} {Q : State → Prop} (hfl : l.stackTraces = false) {D : va_G} {tc : Nat → ClassId} {A : Nat → Prop} {b L : Nat} {xs : Nat → Int32} {oa k : Nat} (hE : gE p l s m args meth c code 8 RL D tc A) (hX : va_X b L xs s s.heap) (hbl : b < s.heap.size) (hbA : ¬ A b) (hL : L ≤ 3072) (hk : 6 * k + 6 ≤ L) (ih : gLoop p l e s m args below meth c Q D tc A b oa (k + 1)) (ca ad : Nat → Nat) (d : gDt) (tk : Int64) (st of : Nat → Int64) (w : gW) (H : Heap) (locs : List Loc) (ls : Array Slot) (hC : cW tc w ca d tk st) (hM : mW tc w ad d tk st) (hI : iOk d (100 * k)) (h7 : w 7 = some (oa, .inl (tc 1, 1, .inr (.inl of)))) (hG : gS D A s.heap w H locs) (hl : lv_has ls 8 [(4, .int (nI (6 * k))), (0, .ref b), (1, .ref (ca 0)), (2, .ref (ad 0)), (3, .ref oa)]) : W p l e room_1 s m args below meth c H locs (100 + 40 * k) (5000 + 400 * k) Q (F0 m 552 ls []) := by
  have hx := hE.1
  have hb := hE.2.1
  obtain ⟨hOk, hF, hT, hpO, hrO, hj⟩ := id hI
  have z0 := hC.1.1
  have zm := hM.1
  obtain ⟨y1, ey1⟩ : ∃ y, y = xs (nI (6 * k + 1)).toNatClampNeg := ⟨_, rfl⟩
  obtain ⟨y2, ey2⟩ : ∃ y, y = xs (nI (6 * k + 2)).toNatClampNeg := ⟨_, rfl⟩
  obtain ⟨y3, ey3⟩ : ∃ y, y = xs (nI (6 * k + 3)).toNatClampNeg := ⟨_, rfl⟩
  obtain ⟨y4, ey4⟩ : ∃ y, y = xs (nI (6 * k + 4)).toNatClampNeg := ⟨_, rfl⟩
  obtain ⟨y5, ey5⟩ : ∃ y, y = xs (nI (6 * k + 5)).toNatClampNeg := ⟨_, rfl⟩
  refine lv_aload_n hx hb dL_law_552 rfl (lv_at hl 2 rfl) ?_
  refine lv_aload_n hx hb dL_law_553 rfl (lv_at hl 1 rfl) ?_
  refine lv_iload hx hb dL_law_554 (lv_at hl 0 rfl) ?_
  refine lv_iconst (v := 1) hx hb dL_law_556 (by decide) ?_
  refine lv_iadd hx hb dL_law_557 ?_
  rw [show nI (6 * k) + 1 = nI (6 * k + 1) from nI_add _ _]
  refine va_sld (xs := xs) hx hb hX hbl hbA hG.2.2 (vp_in_nI (by omega) (by omega)) dL_law_558 ?_
  rw [← ey1]
  refine lv_aload_n hx hb dL_law_559 rfl (lv_at hl 1 rfl) ?_
  refine lv_iload hx hb dL_law_560 (lv_at hl 0 rfl) ?_
  refine lv_iconst (v := 2) hx hb dL_law_562 (by decide) ?_
  refine lv_iadd hx hb dL_law_563 ?_
  rw [show nI (6 * k) + 2 = nI (6 * k + 2) from nI_add _ _]
  refine va_sld (xs := xs) hx hb hX hbl hbA hG.2.2 (vp_in_nI (by omega) (by omega)) dL_law_564 ?_
  rw [← ey2]
  refine lv_aload_n hx hb dL_law_565 rfl (lv_at hl 1 rfl) ?_
  refine lv_iload hx hb dL_law_566 (lv_at hl 0 rfl) ?_
  refine lv_iconst (v := 3) hx hb dL_law_568 (by decide) ?_
  refine lv_iadd hx hb dL_law_569 ?_
  rw [show nI (6 * k) + 3 = nI (6 * k + 3) from nI_add _ _]
  refine va_sld (xs := xs) hx hb hX hbl hbA hG.2.2 (vp_in_nI (by omega) (by omega)) dL_law_570 ?_
  rw [← ey3]
  refine lv_aload_n hx hb dL_law_571 rfl (lv_at hl 1 rfl) ?_
  refine lv_iload hx hb dL_law_572 (lv_at hl 0 rfl) ?_
  refine lv_iconst (v := 4) hx hb dL_law_574 (by decide) ?_
  refine lv_iadd hx hb dL_law_575 ?_
  rw [show nI (6 * k) + 4 = nI (6 * k + 4) from nI_add _ _]
  refine va_sld (xs := xs) hx hb hX hbl hbA hG.2.2 (vp_in_nI (by omega) (by omega)) dL_law_576 ?_
  rw [← ey4]
  refine lv_aload_n hx hb dL_law_577 rfl (lv_at hl 1 rfl) ?_
  refine lv_iload hx hb dL_law_578 (lv_at hl 0 rfl) ?_
  refine lv_iconst (v := 5) hx hb dL_law_580 (by decide) ?_
  refine lv_iadd hx hb dL_law_581 ?_
  rw [show nI (6 * k) + 5 = nI (6 * k + 5) from nI_add _ _]
  refine va_sld (xs := xs) hx hb hX hbl hbA hG.2.2 (vp_in_nI (by omega) (by omega)) dL_law_582 ?_
  rw [← ey5]
  refine lv_aload_n hx hb dL_law_583 rfl (lv_at hl 4 rfl) ?_
  refine g_callSH (rest := []) (As := [.ref (ca 0), .int y1, .int y2, .int y3, .int y4, .int y5, .ref oa]) hE hG hl.1 (c_L_stroke l hfl D tc A w ca d tk st y1 y2 y3 y4 y5 oa of (100 * k) hC hI (by omega) h7) mw2_99 mw2_100 mw1_0 mw2_101 nm_L_stroke ⟨⟨Nat.le_of_ble_eq_true rfl, Nat.le_of_ble_eq_true rfl⟩, (by show 100 + 40 * k + 40 ≤ 601024; omega), (by show 5000 + 400 * k + 400 ≤ 7293034; omega)⟩ rfl rfl (Nat.le_of_ble_eq_true rfl) dL_law_584 (g_no) ?_
  intro v9 w9 H locs h9 hG
  obtain ⟨hgl, of9, h79, hd⟩ := h9
  have hM9 := mW_cg hM hgl
  rcases hd with ⟨hgo, e9, hC9⟩ | ⟨hgo, e9, hof, ca9, hca9, hC9⟩
  · skip
    rw [e9]; clear e9
    have z1000 := hM9.1
    show W p l e _ s m args below meth c H locs _ _ _ (F0 m 587 ls [.int (m_la (ga_stroke d y1 y2 y3 y4 y5) (gb_stroke d y1 y2 y3 y4 y5) (gc_stroke d y1 y2 y3 y4 y5))])
    have hI9 : iOk (sL d (m_la (ga_stroke d y1 y2 y3 y4 y5) (gb_stroke d y1 y2 y3 y4 y5) (gc_stroke d y1 y2 y3 y4 y5))) (100 * (k + 1)) := by rw [show 100 * (k + 1) = 100 * k + 100 by omega]; exact iOk_l hI _
    refine lv_istore (lv' := [(5, .int (m_la (ga_stroke d y1 y2 y3 y4 y5) (gb_stroke d y1 y2 y3 y4 y5) (gc_stroke d y1 y2 y3 y4 y5))), (4, .int (nI (6 * k))), (0, .ref b), (1, .ref (ca 0)), (2, .ref (ad 0)), (3, .ref oa)]) hx hb dL_law_587 hl (by decide) rfl (fun ls hl => ?_)
    refine lv_aload_n hx hb dL_law_589 rfl (lv_at hl 4 rfl) ?_
    refine lv_aload_n hx hb dL_law_590 rfl (lv_at hl 2 rfl) ?_
    refine lv_iload hx hb dL_law_591 (lv_at hl 1 rfl) ?_
    refine lv_iconst (v := 1) hx hb dL_law_593 (by decide) ?_
    refine lv_iadd hx hb dL_law_594 ?_
    rw [show nI (6 * k) + 1 = nI (6 * k + 1) from nI_add _ _]
    refine va_sld (xs := xs) hx hb hX hbl hbA hG.2.2 (vp_in_nI (by omega) (by omega)) dL_law_595 ?_
    rw [← ey1]
    refine lv_aload_n hx hb dL_law_596 rfl (lv_at hl 2 rfl) ?_
    refine lv_iload hx hb dL_law_597 (lv_at hl 1 rfl) ?_
    refine lv_iconst (v := 2) hx hb dL_law_599 (by decide) ?_
    refine lv_iadd hx hb dL_law_600 ?_
    rw [show nI (6 * k) + 2 = nI (6 * k + 2) from nI_add _ _]
    refine va_sld (xs := xs) hx hb hX hbl hbA hG.2.2 (vp_in_nI (by omega) (by omega)) dL_law_601 ?_
    rw [← ey2]
    refine lv_aload_n hx hb dL_law_602 rfl (lv_at hl 2 rfl) ?_
    refine lv_iload hx hb dL_law_603 (lv_at hl 1 rfl) ?_
    refine lv_iconst (v := 3) hx hb dL_law_605 (by decide) ?_
    refine lv_iadd hx hb dL_law_606 ?_
    rw [show nI (6 * k) + 3 = nI (6 * k + 3) from nI_add _ _]
    refine va_sld (xs := xs) hx hb hX hbl hbA hG.2.2 (vp_in_nI (by omega) (by omega)) dL_law_607 ?_
    rw [← ey3]
    refine lv_aload_n hx hb dL_law_608 rfl (lv_at hl 2 rfl) ?_
    refine lv_iload hx hb dL_law_609 (lv_at hl 1 rfl) ?_
    refine lv_iconst (v := 4) hx hb dL_law_611 (by decide) ?_
    refine lv_iadd hx hb dL_law_612 ?_
    rw [show nI (6 * k) + 4 = nI (6 * k + 4) from nI_add _ _]
    refine va_sld (xs := xs) hx hb hX hbl hbA hG.2.2 (vp_in_nI (by omega) (by omega)) dL_law_613 ?_
    rw [← ey4]
    refine lv_aload_n hx hb dL_law_614 rfl (lv_at hl 2 rfl) ?_
    refine lv_iload hx hb dL_law_615 (lv_at hl 1 rfl) ?_
    refine lv_iconst (v := 5) hx hb dL_law_617 (by decide) ?_
    refine lv_iadd hx hb dL_law_618 ?_
    rw [show nI (6 * k) + 5 = nI (6 * k + 5) from nI_add _ _]
    refine va_sld (xs := xs) hx hb hX hbl hbA hG.2.2 (vp_in_nI (by omega) (by omega)) dL_law_619 ?_
    rw [← ey5]
    refine g_callV (rest := []) (As := [.int y1, .int y2, .int y3, .int y4, .int y5]) hE hG hl.1 (c_X6_stroke l hfl D tc A w9 ad d tk st y1 y2 y3 y4 y5 hM9 hOk) z1000 rfl mw4_82 mw4_83 mw4_84 mw1_4 mw4_85 rfl nm_X6_stroke ⟨⟨Nat.le_of_ble_eq_true rfl, Nat.le_of_ble_eq_true rfl⟩, (by show 100 + 40 * k + 40 + 0 ≤ 601024; omega), (by show 5000 + 400 * k + 400 + 0 ≤ 7293034; omega)⟩ rfl rfl (Nat.le_of_ble_eq_true rfl) dL_law_620 (g_no) ?_
    intro v8 w8 H locs h8 hG
    rcases h8 with ⟨-, ⟨r8, e8⟩, hM8, hF8⟩ | ⟨hg8, -⟩
    rotate_left
    · exact absurd hgo hg8
    rw [e8]; clear e8
    have hC8 : cW tc w8 ca (sL d (m_la (ga_stroke d y1 y2 y3 y4 y5) (gb_stroke d y1 y2 y3 y4 y5) (gc_stroke d y1 y2 y3 y4 y5))) tk st := cW_cg (cW_l hC9 _) hI9.1 (fun q h1 _ => hF8 q h1)
    have h78 := (hF8 7 (by omega)).trans h79
    have z8 := hM8.1
    show W p l e _ s m args below meth c H locs _ _ _ (F0 m 623 ls [.int r8])
    refine lv_istore (lv' := [(6, .int r8), (5, .int (m_la (ga_stroke d y1 y2 y3 y4 y5) (gb_stroke d y1 y2 y3 y4 y5) (gc_stroke d y1 y2 y3 y4 y5))), (4, .int (nI (6 * k))), (0, .ref b), (1, .ref (ca 0)), (2, .ref (ad 0)), (3, .ref oa)]) hx hb dL_law_623 hl (by decide) rfl (fun ls hl => ?_)
    refine lv_aload_n hx hb dL_law_625 rfl (lv_at hl 5 rfl) ?_
    refine g_callV (rest := []) (As := []) hE hG hl.1 (c_X6_thrown l hfl D tc A w8 ad (sL d (m_la (ga_stroke d y1 y2 y3 y4 y5) (gb_stroke d y1 y2 y3 y4 y5) (gc_stroke d y1 y2 y3 y4 y5))) tk st hM8) z8 rfl mw4_27 mw4_28 mw4_29 mw1_4 mw4_30 rfl nm_X6_thrown ⟨⟨Nat.le_of_ble_eq_true rfl, Nat.le_of_ble_eq_true rfl⟩, (by show 100 + 40 * k + 40 + 0 + 0 ≤ 601024; omega), (by show 5000 + 400 * k + 400 + 0 + 0 ≤ 7293034; omega)⟩ rfl rfl (Nat.le_of_ble_eq_true rfl) dL_law_626 (g_no) ?_
    intro v6 w6 H locs h6 hG
    obtain ⟨e6, f6⟩ := h6
    rw [f6] at hG; rw [e6, show (sL d (m_la (ga_stroke d y1 y2 y3 y4 y5) (gb_stroke d y1 y2 y3 y4 y5) (gc_stroke d y1 y2 y3 y4 y5))) 9 14 = (m_la (ga_stroke d y1 y2 y3 y4 y5) (gb_stroke d y1 y2 y3 y4 y5) (gc_stroke d y1 y2 y3 y4 y5)) from rfl]; clear e6 f6
    show W p l e _ s m args below meth c H locs _ _ _ (F0 m 629 ls [.int (m_la (ga_stroke d y1 y2 y3 y4 y5) (gb_stroke d y1 y2 y3 y4 y5) (gc_stroke d y1 y2 y3 y4 y5))])
    refine lv_iload hx hb dL_law_629 (lv_at hl 1 rfl) ?_
    refine lv_icmp_eq (tgt := 636) hx hb dL_law_631 (by decide) (fun c9 => ?_) (fun c9 => (c9 rfl).elim)
    refine lv_iload hx hb dL_law_636 (lv_at hl 1 rfl) ?_
    refine lv_if_ne (tgt := 653) hx hb dL_law_638 (by decide) (fun c9 => ?_) (fun c9 => absurd c9 (la_ne hgo))
    refine lv_goto (tgt := 1825) hx hb dL_law_653 (by decide) ?_
    refine lv_iinc (v := (nI (6 * (k + 1)))) (lv' := [(4, .int (nI (6 * (k + 1)))), (6, .int r8), (5, .int (m_la (ga_stroke d y1 y2 y3 y4 y5) (gb_stroke d y1 y2 y3 y4 y5) (gc_stroke d y1 y2 y3 y4 y5))), (0, .ref b), (1, .ref (ca 0)), (2, .ref (ad 0)), (3, .ref oa)]) hx hb dL_law_1825 hl (k := 2) rfl (by rw [show 6 * (k + 1) = 6 * k + 6 by omega]; exact nI_add (6 * k) 6) (by decide) rfl (fun ls hl => ?_)
    refine lv_goto (tgt := 23) hx hb dL_law_1828 (by decide) ?_
    refine W.widen (k := 100 + 40 * (k + 1)) (n := 5000 + 400 * (k + 1)) (by show 100 + 40 * k + 40 + 0 + 0 ≤ _; omega) (by show 5000 + 400 * k + 400 + 0 + 0 ≤ _; omega) ?_
    exact ih ca ad (sL d (m_la (ga_stroke d y1 y2 y3 y4 y5) (gb_stroke d y1 y2 y3 y4 y5) (gc_stroke d y1 y2 y3 y4 y5))) tk st of9 w8 _ _ _ hC8 hM8 hI9 h78 hG (lv_sub hl [0, 3, 4, 5, 6] rfl)
  · skip
    rw [e9]; clear e9
    have z1000 := hM9.1
    show W p l e _ s m args below meth c H locs _ _ _ (F0 m 587 ls [.int 0])
    have hI9 : iOk (sL d 0) (100 * (k + 1)) := by rw [show 100 * (k + 1) = 100 * k + 100 by omega]; exact iOk_l hI 0
    refine lv_istore (lv' := [(5, .int 0), (4, .int (nI (6 * k))), (0, .ref b), (1, .ref (ca 0)), (2, .ref (ad 0)), (3, .ref oa)]) hx hb dL_law_587 hl (by decide) rfl (fun ls hl => ?_)
    refine lv_aload_n hx hb dL_law_589 rfl (lv_at hl 4 rfl) ?_
    refine lv_aload_n hx hb dL_law_590 rfl (lv_at hl 2 rfl) ?_
    refine lv_iload hx hb dL_law_591 (lv_at hl 1 rfl) ?_
    refine lv_iconst (v := 1) hx hb dL_law_593 (by decide) ?_
    refine lv_iadd hx hb dL_law_594 ?_
    rw [show nI (6 * k) + 1 = nI (6 * k + 1) from nI_add _ _]
    refine va_sld (xs := xs) hx hb hX hbl hbA hG.2.2 (vp_in_nI (by omega) (by omega)) dL_law_595 ?_
    rw [← ey1]
    refine lv_aload_n hx hb dL_law_596 rfl (lv_at hl 2 rfl) ?_
    refine lv_iload hx hb dL_law_597 (lv_at hl 1 rfl) ?_
    refine lv_iconst (v := 2) hx hb dL_law_599 (by decide) ?_
    refine lv_iadd hx hb dL_law_600 ?_
    rw [show nI (6 * k) + 2 = nI (6 * k + 2) from nI_add _ _]
    refine va_sld (xs := xs) hx hb hX hbl hbA hG.2.2 (vp_in_nI (by omega) (by omega)) dL_law_601 ?_
    rw [← ey2]
    refine lv_aload_n hx hb dL_law_602 rfl (lv_at hl 2 rfl) ?_
    refine lv_iload hx hb dL_law_603 (lv_at hl 1 rfl) ?_
    refine lv_iconst (v := 3) hx hb dL_law_605 (by decide) ?_
    refine lv_iadd hx hb dL_law_606 ?_
    rw [show nI (6 * k) + 3 = nI (6 * k + 3) from nI_add _ _]
    refine va_sld (xs := xs) hx hb hX hbl hbA hG.2.2 (vp_in_nI (by omega) (by omega)) dL_law_607 ?_
    rw [← ey3]
    refine lv_aload_n hx hb dL_law_608 rfl (lv_at hl 2 rfl) ?_
    refine lv_iload hx hb dL_law_609 (lv_at hl 1 rfl) ?_
    refine lv_iconst (v := 4) hx hb dL_law_611 (by decide) ?_
    refine lv_iadd hx hb dL_law_612 ?_
    rw [show nI (6 * k) + 4 = nI (6 * k + 4) from nI_add _ _]
    refine va_sld (xs := xs) hx hb hX hbl hbA hG.2.2 (vp_in_nI (by omega) (by omega)) dL_law_613 ?_
    rw [← ey4]
    refine lv_aload_n hx hb dL_law_614 rfl (lv_at hl 2 rfl) ?_
    refine lv_iload hx hb dL_law_615 (lv_at hl 1 rfl) ?_
    refine lv_iconst (v := 5) hx hb dL_law_617 (by decide) ?_
    refine lv_iadd hx hb dL_law_618 ?_
    rw [show nI (6 * k) + 5 = nI (6 * k + 5) from nI_add _ _]
    refine va_sld (xs := xs) hx hb hX hbl hbA hG.2.2 (vp_in_nI (by omega) (by omega)) dL_law_619 ?_
    rw [← ey5]
    refine g_callV (rest := []) (As := [.int y1, .int y2, .int y3, .int y4, .int y5]) hE hG hl.1 (c_X6_stroke l hfl D tc A w9 ad d tk st y1 y2 y3 y4 y5 hM9 hOk) z1000 rfl mw4_82 mw4_83 mw4_84 mw1_4 mw4_85 rfl nm_X6_stroke ⟨⟨Nat.le_of_ble_eq_true rfl, Nat.le_of_ble_eq_true rfl⟩, (by show 100 + 40 * k + 40 + 0 ≤ 601024; omega), (by show 5000 + 400 * k + 400 + 0 ≤ 7293034; omega)⟩ rfl rfl (Nat.le_of_ble_eq_true rfl) dL_law_620 (g_no) ?_
    intro v8 w8 H locs h8 hG
    rcases h8 with ⟨hg8, -⟩ | ⟨-, e8, hM8, hF8⟩
    · exact absurd hg8 hgo
    rw [e8]; clear e8
    have hC8 : cW tc w8 ca9 (sL d 0) tk st := cW_cg (hC9) hI9.1 (fun q h1 _ => hF8 q h1)
    have h78 := (hF8 7 (by omega)).trans h79
    have z8 := hM8.1
    show W p l e _ s m args below meth c H locs _ _ _ (F0 m 623 ls [.int (m_stroke d y1 y2 y3 y4 y5)])
    refine lv_istore (lv' := [(6, .int (m_stroke d y1 y2 y3 y4 y5)), (5, .int 0), (4, .int (nI (6 * k))), (0, .ref b), (1, .ref (ca 0)), (2, .ref (ad 0)), (3, .ref oa)]) hx hb dL_law_623 hl (by decide) rfl (fun ls hl => ?_)
    refine lv_aload_n hx hb dL_law_625 rfl (lv_at hl 5 rfl) ?_
    refine g_callV (rest := []) (As := []) hE hG hl.1 (c_X6_thrown l hfl D tc A w8 ad (sL d 0) tk st hM8) z8 rfl mw4_27 mw4_28 mw4_29 mw1_4 mw4_30 rfl nm_X6_thrown ⟨⟨Nat.le_of_ble_eq_true rfl, Nat.le_of_ble_eq_true rfl⟩, (by show 100 + 40 * k + 40 + 0 + 0 ≤ 601024; omega), (by show 5000 + 400 * k + 400 + 0 + 0 ≤ 7293034; omega)⟩ rfl rfl (Nat.le_of_ble_eq_true rfl) dL_law_626 (g_no) ?_
    intro v6 w6 H locs h6 hG
    obtain ⟨e6, f6⟩ := h6
    rw [f6] at hG; rw [e6, show (sL d 0) 9 14 = 0 from rfl]; clear e6 f6
    show W p l e _ s m args below meth c H locs _ _ _ (F0 m 629 ls [.int 0])
    refine lv_iload hx hb dL_law_629 (lv_at hl 1 rfl) ?_
    refine lv_icmp_eq (tgt := 636) hx hb dL_law_631 (by decide) (fun _ => ?_) (fun c9 => (c9 (by decide)).elim)
    refine lv_iload hx hb dL_law_636 (lv_at hl 1 rfl) ?_
    refine lv_if_ne (tgt := 653) hx hb dL_law_638 (by decide) (fun c9 => (c9 (by decide)).elim) (fun _ => ?_)
    refine lv_aload_n hx hb dL_law_641 rfl (lv_at hl 6 rfl) ?_
    refine lv_iconst (v := 0) hx hb dL_law_642 (by decide) ?_
    refine g_lald hE hG h78 (vp_in_nI (n := 0) (N := 1) (by decide) (by decide)) dL_law_643 ?_
    rw [show of9 (0 : Int32).toNatClampNeg = (m_stroke d y1 y2 y3 y4 y5).toInt64 from hof]
    refine lv_iload hx hb dL_law_644 (lv_at hl 0 rfl) ?_
    refine lv_i2l (v := (m_stroke d y1 y2 y3 y4 y5).toInt64) hx hb dL_law_646 rfl ?_
    refine W.lcmp hx hb dL_law_647 ?_
    refine lv_if_eq (tgt := 653) hx hb dL_law_648 (by decide) (fun c9 => ?_) (fun c9 => (c9 (lg_self _)).elim)
    refine lv_goto (tgt := 1825) hx hb dL_law_653 (by decide) ?_
    refine lv_iinc (v := (nI (6 * (k + 1)))) (lv' := [(4, .int (nI (6 * (k + 1)))), (6, .int (m_stroke d y1 y2 y3 y4 y5)), (5, .int 0), (0, .ref b), (1, .ref (ca 0)), (2, .ref (ad 0)), (3, .ref oa)]) hx hb dL_law_1825 hl (k := 2) rfl (by rw [show 6 * (k + 1) = 6 * k + 6 by omega]; exact nI_add (6 * k) 6) (by decide) rfl (fun ls hl => ?_)
    refine lv_goto (tgt := 23) hx hb dL_law_1828 (by decide) ?_
    refine W.widen (k := 100 + 40 * (k + 1)) (n := 5000 + 400 * (k + 1)) (by show 100 + 40 * k + 40 + 0 + 0 ≤ _; omega) (by show 5000 + 400 * k + 400 + 0 + 0 ≤ _; omega) ?_
    exact ih ca9 ad (sL d 0) tk st of9 w8 _ _ _ hC8 hM8 hI9 h78 hG (by rw [hca9]; exact lv_sub hl [0, 3, 4, 5, 6] rfl)
set_option maxHeartbeats 4000000 in
set_option maxRecDepth 100000 in
theorem lc_strokeAnew {p : Program} {l : Launch} {e : Env} {s : State} {m : MethodId} {args : Array Value} {below : List Frame} {meth : Method} {c : Code} {Q : State → Prop} (hfl : l.stackTraces = false) {D : va_G} {tc : Nat → ClassId} {A : Nat → Prop} {b L : Nat} {xs : Nat → Int32} {oa k : Nat} (hE : gE p l s m args meth c code 8 RL D tc A) (hX : va_X b L xs s s.heap) (hbl : b < s.heap.size) (hbA : ¬ A b) (hL : L ≤ 3072) (hk : 6 * k + 6 ≤ L) (ih : gLoop p l e s m args below meth c Q D tc A b oa (k + 1)) (ca ad : Nat → Nat) (d : gDt) (tk : Int64) (st of : Nat → Int64) (w : gW) (H : Heap) (locs : List Loc) (ls : Array Slot) (hC : cW tc w ca d tk st) (hM : mW tc w ad d tk st) (hI : iOk d (100 * k)) (h7 : w 7 = some (oa, .inl (tc 1, 1, .inr (.inl of)))) (hG : gS D A s.heap w H locs) (hl : lv_has ls 8 [(4, .int (nI (6 * k))), (0, .ref b), (1, .ref (ca 0)), (2, .ref (ad 0)), (3, .ref oa)]) : W p l e room_1 s m args below meth c H locs (100 + 40 * k) (5000 + 400 * k) Q (F0 m 656 ls []) := by
  have hx := hE.1
  have hb := hE.2.1
  obtain ⟨hOk, hF, hT, hpO, hrO, hj⟩ := id hI
  have z0 := hC.1.1
  have zm := hM.1
  obtain ⟨y1, ey1⟩ : ∃ y, y = xs (nI (6 * k + 1)).toNatClampNeg := ⟨_, rfl⟩
  obtain ⟨y2, ey2⟩ : ∃ y, y = xs (nI (6 * k + 2)).toNatClampNeg := ⟨_, rfl⟩
  obtain ⟨y3, ey3⟩ : ∃ y, y = xs (nI (6 * k + 3)).toNatClampNeg := ⟨_, rfl⟩
  obtain ⟨y4, ey4⟩ : ∃ y, y = xs (nI (6 * k + 4)).toNatClampNeg := ⟨_, rfl⟩
  obtain ⟨y5, ey5⟩ : ∃ y, y = xs (nI (6 * k + 5)).toNatClampNeg := ⟨_, rfl⟩
  refine lv_aload_n hx hb dL_law_656 rfl (lv_at hl 2 rfl) ?_
  refine lv_aload_n hx hb dL_law_657 rfl (lv_at hl 1 rfl) ?_
  refine lv_iload hx hb dL_law_658 (lv_at hl 0 rfl) ?_
  refine lv_iconst (v := 1) hx hb dL_law_660 (by decide) ?_
  refine lv_iadd hx hb dL_law_661 ?_
  rw [show nI (6 * k) + 1 = nI (6 * k + 1) from nI_add _ _]
  refine va_sld (xs := xs) hx hb hX hbl hbA hG.2.2 (vp_in_nI (by omega) (by omega)) dL_law_662 ?_
  rw [← ey1]
  refine lv_aload_n hx hb dL_law_663 rfl (lv_at hl 1 rfl) ?_
  refine lv_iload hx hb dL_law_664 (lv_at hl 0 rfl) ?_
  refine lv_iconst (v := 2) hx hb dL_law_666 (by decide) ?_
  refine lv_iadd hx hb dL_law_667 ?_
  rw [show nI (6 * k) + 2 = nI (6 * k + 2) from nI_add _ _]
  refine va_sld (xs := xs) hx hb hX hbl hbA hG.2.2 (vp_in_nI (by omega) (by omega)) dL_law_668 ?_
  rw [← ey2]
  refine lv_aload_n hx hb dL_law_669 rfl (lv_at hl 1 rfl) ?_
  refine lv_iload hx hb dL_law_670 (lv_at hl 0 rfl) ?_
  refine lv_iconst (v := 3) hx hb dL_law_672 (by decide) ?_
  refine lv_iadd hx hb dL_law_673 ?_
  rw [show nI (6 * k) + 3 = nI (6 * k + 3) from nI_add _ _]
  refine va_sld (xs := xs) hx hb hX hbl hbA hG.2.2 (vp_in_nI (by omega) (by omega)) dL_law_674 ?_
  rw [← ey3]
  refine lv_aload_n hx hb dL_law_675 rfl (lv_at hl 1 rfl) ?_
  refine lv_iload hx hb dL_law_676 (lv_at hl 0 rfl) ?_
  refine lv_iconst (v := 4) hx hb dL_law_678 (by decide) ?_
  refine lv_iadd hx hb dL_law_679 ?_
  rw [show nI (6 * k) + 4 = nI (6 * k + 4) from nI_add _ _]
  refine va_sld (xs := xs) hx hb hX hbl hbA hG.2.2 (vp_in_nI (by omega) (by omega)) dL_law_680 ?_
  rw [← ey4]
  refine lv_aload_n hx hb dL_law_681 rfl (lv_at hl 1 rfl) ?_
  refine lv_iload hx hb dL_law_682 (lv_at hl 0 rfl) ?_
  refine lv_iconst (v := 5) hx hb dL_law_684 (by decide) ?_
  refine lv_iadd hx hb dL_law_685 ?_
  rw [show nI (6 * k) + 5 = nI (6 * k + 5) from nI_add _ _]
  refine va_sld (xs := xs) hx hb hX hbl hbA hG.2.2 (vp_in_nI (by omega) (by omega)) dL_law_686 ?_
  rw [← ey5]
  refine lv_aload_n hx hb dL_law_687 rfl (lv_at hl 4 rfl) ?_
  refine g_callSH (rest := []) (As := [.ref (ca 0), .int y1, .int y2, .int y3, .int y4, .int y5, .ref oa]) hE hG hl.1 (c_L_strokeAnew l hfl D tc A w ca d tk st y1 y2 y3 y4 y5 oa of (100 * k) hC hI (by omega) h7) mw2_143 mw2_144 mw1_0 mw2_145 nm_L_strokeAnew ⟨⟨Nat.le_of_ble_eq_true rfl, Nat.le_of_ble_eq_true rfl⟩, (by show 100 + 40 * k + 40 ≤ 601024; omega), (by show 5000 + 400 * k + 400 ≤ 7293034; omega)⟩ rfl rfl (Nat.le_of_ble_eq_true rfl) dL_law_688 (g_no) ?_
  intro v9 w9 H locs h9 hG
  obtain ⟨hgl, of9, h79, hd⟩ := h9
  have hM9 := mW_cg hM hgl
  rcases hd with ⟨hgo, e9, hC9⟩ | ⟨hgo, e9, hof, ca9, hca9, hC9⟩
  · skip
    rw [e9]; clear e9
    have z1000 := hM9.1
    show W p l e _ s m args below meth c H locs _ _ _ (F0 m 691 ls [.int (m_la (ga_stroke d y1 y2 y3 y4 y5) (gb_stroke d y1 y2 y3 y4 y5) (gc_stroke d y1 y2 y3 y4 y5))])
    have hI9 : iOk (sL d (m_la (ga_stroke d y1 y2 y3 y4 y5) (gb_stroke d y1 y2 y3 y4 y5) (gc_stroke d y1 y2 y3 y4 y5))) (100 * (k + 1)) := by rw [show 100 * (k + 1) = 100 * k + 100 by omega]; exact iOk_l hI _
    refine lv_istore (lv' := [(5, .int (m_la (ga_stroke d y1 y2 y3 y4 y5) (gb_stroke d y1 y2 y3 y4 y5) (gc_stroke d y1 y2 y3 y4 y5))), (4, .int (nI (6 * k))), (0, .ref b), (1, .ref (ca 0)), (2, .ref (ad 0)), (3, .ref oa)]) hx hb dL_law_691 hl (by decide) rfl (fun ls hl => ?_)
    refine lv_aload_n hx hb dL_law_693 rfl (lv_at hl 4 rfl) ?_
    refine lv_aload_n hx hb dL_law_694 rfl (lv_at hl 2 rfl) ?_
    refine lv_iload hx hb dL_law_695 (lv_at hl 1 rfl) ?_
    refine lv_iconst (v := 1) hx hb dL_law_697 (by decide) ?_
    refine lv_iadd hx hb dL_law_698 ?_
    rw [show nI (6 * k) + 1 = nI (6 * k + 1) from nI_add _ _]
    refine va_sld (xs := xs) hx hb hX hbl hbA hG.2.2 (vp_in_nI (by omega) (by omega)) dL_law_699 ?_
    rw [← ey1]
    refine lv_aload_n hx hb dL_law_700 rfl (lv_at hl 2 rfl) ?_
    refine lv_iload hx hb dL_law_701 (lv_at hl 1 rfl) ?_
    refine lv_iconst (v := 2) hx hb dL_law_703 (by decide) ?_
    refine lv_iadd hx hb dL_law_704 ?_
    rw [show nI (6 * k) + 2 = nI (6 * k + 2) from nI_add _ _]
    refine va_sld (xs := xs) hx hb hX hbl hbA hG.2.2 (vp_in_nI (by omega) (by omega)) dL_law_705 ?_
    rw [← ey2]
    refine lv_aload_n hx hb dL_law_706 rfl (lv_at hl 2 rfl) ?_
    refine lv_iload hx hb dL_law_707 (lv_at hl 1 rfl) ?_
    refine lv_iconst (v := 3) hx hb dL_law_709 (by decide) ?_
    refine lv_iadd hx hb dL_law_710 ?_
    rw [show nI (6 * k) + 3 = nI (6 * k + 3) from nI_add _ _]
    refine va_sld (xs := xs) hx hb hX hbl hbA hG.2.2 (vp_in_nI (by omega) (by omega)) dL_law_711 ?_
    rw [← ey3]
    refine lv_aload_n hx hb dL_law_712 rfl (lv_at hl 2 rfl) ?_
    refine lv_iload hx hb dL_law_713 (lv_at hl 1 rfl) ?_
    refine lv_iconst (v := 4) hx hb dL_law_715 (by decide) ?_
    refine lv_iadd hx hb dL_law_716 ?_
    rw [show nI (6 * k) + 4 = nI (6 * k + 4) from nI_add _ _]
    refine va_sld (xs := xs) hx hb hX hbl hbA hG.2.2 (vp_in_nI (by omega) (by omega)) dL_law_717 ?_
    rw [← ey4]
    refine lv_aload_n hx hb dL_law_718 rfl (lv_at hl 2 rfl) ?_
    refine lv_iload hx hb dL_law_719 (lv_at hl 1 rfl) ?_
    refine lv_iconst (v := 5) hx hb dL_law_721 (by decide) ?_
    refine lv_iadd hx hb dL_law_722 ?_
    rw [show nI (6 * k) + 5 = nI (6 * k + 5) from nI_add _ _]
    refine va_sld (xs := xs) hx hb hX hbl hbA hG.2.2 (vp_in_nI (by omega) (by omega)) dL_law_723 ?_
    rw [← ey5]
    refine g_callV (rest := []) (As := [.int y1, .int y2, .int y3, .int y4, .int y5]) hE hG hl.1 (c_X6_strokeAnew l hfl D tc A w9 ad d tk st y1 y2 y3 y4 y5 hM9 hOk) z1000 rfl mw4_98 mw4_99 mw4_100 mw1_4 mw4_101 rfl nm_X6_strokeAnew ⟨⟨Nat.le_of_ble_eq_true rfl, Nat.le_of_ble_eq_true rfl⟩, (by show 100 + 40 * k + 40 + 0 ≤ 601024; omega), (by show 5000 + 400 * k + 400 + 0 ≤ 7293034; omega)⟩ rfl rfl (Nat.le_of_ble_eq_true rfl) dL_law_724 (g_no) ?_
    intro v8 w8 H locs h8 hG
    rcases h8 with ⟨-, ⟨r8, e8⟩, hM8, hF8⟩ | ⟨hg8, -⟩
    rotate_left
    · exact absurd hgo hg8
    rw [e8]; clear e8
    have hC8 : cW tc w8 ca (sL d (m_la (ga_stroke d y1 y2 y3 y4 y5) (gb_stroke d y1 y2 y3 y4 y5) (gc_stroke d y1 y2 y3 y4 y5))) tk st := cW_cg (cW_l hC9 _) hI9.1 (fun q h1 _ => hF8 q h1)
    have h78 := (hF8 7 (by omega)).trans h79
    have z8 := hM8.1
    show W p l e _ s m args below meth c H locs _ _ _ (F0 m 727 ls [.int r8])
    refine lv_istore (lv' := [(6, .int r8), (5, .int (m_la (ga_stroke d y1 y2 y3 y4 y5) (gb_stroke d y1 y2 y3 y4 y5) (gc_stroke d y1 y2 y3 y4 y5))), (4, .int (nI (6 * k))), (0, .ref b), (1, .ref (ca 0)), (2, .ref (ad 0)), (3, .ref oa)]) hx hb dL_law_727 hl (by decide) rfl (fun ls hl => ?_)
    refine lv_aload_n hx hb dL_law_729 rfl (lv_at hl 5 rfl) ?_
    refine g_callV (rest := []) (As := []) hE hG hl.1 (c_X6_thrown l hfl D tc A w8 ad (sL d (m_la (ga_stroke d y1 y2 y3 y4 y5) (gb_stroke d y1 y2 y3 y4 y5) (gc_stroke d y1 y2 y3 y4 y5))) tk st hM8) z8 rfl mw4_27 mw4_28 mw4_29 mw1_4 mw4_30 rfl nm_X6_thrown ⟨⟨Nat.le_of_ble_eq_true rfl, Nat.le_of_ble_eq_true rfl⟩, (by show 100 + 40 * k + 40 + 0 + 0 ≤ 601024; omega), (by show 5000 + 400 * k + 400 + 0 + 0 ≤ 7293034; omega)⟩ rfl rfl (Nat.le_of_ble_eq_true rfl) dL_law_730 (g_no) ?_
    intro v6 w6 H locs h6 hG
    obtain ⟨e6, f6⟩ := h6
    rw [f6] at hG; rw [e6, show (sL d (m_la (ga_stroke d y1 y2 y3 y4 y5) (gb_stroke d y1 y2 y3 y4 y5) (gc_stroke d y1 y2 y3 y4 y5))) 9 14 = (m_la (ga_stroke d y1 y2 y3 y4 y5) (gb_stroke d y1 y2 y3 y4 y5) (gc_stroke d y1 y2 y3 y4 y5)) from rfl]; clear e6 f6
    show W p l e _ s m args below meth c H locs _ _ _ (F0 m 733 ls [.int (m_la (ga_stroke d y1 y2 y3 y4 y5) (gb_stroke d y1 y2 y3 y4 y5) (gc_stroke d y1 y2 y3 y4 y5))])
    refine lv_iload hx hb dL_law_733 (lv_at hl 1 rfl) ?_
    refine lv_icmp_eq (tgt := 740) hx hb dL_law_735 (by decide) (fun c9 => ?_) (fun c9 => (c9 rfl).elim)
    refine lv_iload hx hb dL_law_740 (lv_at hl 1 rfl) ?_
    refine lv_if_ne (tgt := 757) hx hb dL_law_742 (by decide) (fun c9 => ?_) (fun c9 => absurd c9 (la_ne hgo))
    refine lv_goto (tgt := 1825) hx hb dL_law_757 (by decide) ?_
    refine lv_iinc (v := (nI (6 * (k + 1)))) (lv' := [(4, .int (nI (6 * (k + 1)))), (6, .int r8), (5, .int (m_la (ga_stroke d y1 y2 y3 y4 y5) (gb_stroke d y1 y2 y3 y4 y5) (gc_stroke d y1 y2 y3 y4 y5))), (0, .ref b), (1, .ref (ca 0)), (2, .ref (ad 0)), (3, .ref oa)]) hx hb dL_law_1825 hl (k := 2) rfl (by rw [show 6 * (k + 1) = 6 * k + 6 by omega]; exact nI_add (6 * k) 6) (by decide) rfl (fun ls hl => ?_)
    refine lv_goto (tgt := 23) hx hb dL_law_1828 (by decide) ?_
    refine W.widen (k := 100 + 40 * (k + 1)) (n := 5000 + 400 * (k + 1)) (by show 100 + 40 * k + 40 + 0 + 0 ≤ _; omega) (by show 5000 + 400 * k + 400 + 0 + 0 ≤ _; omega) ?_
    exact ih ca ad (sL d (m_la (ga_stroke d y1 y2 y3 y4 y5) (gb_stroke d y1 y2 y3 y4 y5) (gc_stroke d y1 y2 y3 y4 y5))) tk st of9 w8 _ _ _ hC8 hM8 hI9 h78 hG (lv_sub hl [0, 3, 4, 5, 6] rfl)
  · skip
    rw [e9]; clear e9
    have z1000 := hM9.1
    show W p l e _ s m args below meth c H locs _ _ _ (F0 m 691 ls [.int 0])
    have hI9 : iOk (sL d 0) (100 * (k + 1)) := by rw [show 100 * (k + 1) = 100 * k + 100 by omega]; exact iOk_l hI 0
    refine lv_istore (lv' := [(5, .int 0), (4, .int (nI (6 * k))), (0, .ref b), (1, .ref (ca 0)), (2, .ref (ad 0)), (3, .ref oa)]) hx hb dL_law_691 hl (by decide) rfl (fun ls hl => ?_)
    refine lv_aload_n hx hb dL_law_693 rfl (lv_at hl 4 rfl) ?_
    refine lv_aload_n hx hb dL_law_694 rfl (lv_at hl 2 rfl) ?_
    refine lv_iload hx hb dL_law_695 (lv_at hl 1 rfl) ?_
    refine lv_iconst (v := 1) hx hb dL_law_697 (by decide) ?_
    refine lv_iadd hx hb dL_law_698 ?_
    rw [show nI (6 * k) + 1 = nI (6 * k + 1) from nI_add _ _]
    refine va_sld (xs := xs) hx hb hX hbl hbA hG.2.2 (vp_in_nI (by omega) (by omega)) dL_law_699 ?_
    rw [← ey1]
    refine lv_aload_n hx hb dL_law_700 rfl (lv_at hl 2 rfl) ?_
    refine lv_iload hx hb dL_law_701 (lv_at hl 1 rfl) ?_
    refine lv_iconst (v := 2) hx hb dL_law_703 (by decide) ?_
    refine lv_iadd hx hb dL_law_704 ?_
    rw [show nI (6 * k) + 2 = nI (6 * k + 2) from nI_add _ _]
    refine va_sld (xs := xs) hx hb hX hbl hbA hG.2.2 (vp_in_nI (by omega) (by omega)) dL_law_705 ?_
    rw [← ey2]
    refine lv_aload_n hx hb dL_law_706 rfl (lv_at hl 2 rfl) ?_
    refine lv_iload hx hb dL_law_707 (lv_at hl 1 rfl) ?_
    refine lv_iconst (v := 3) hx hb dL_law_709 (by decide) ?_
    refine lv_iadd hx hb dL_law_710 ?_
    rw [show nI (6 * k) + 3 = nI (6 * k + 3) from nI_add _ _]
    refine va_sld (xs := xs) hx hb hX hbl hbA hG.2.2 (vp_in_nI (by omega) (by omega)) dL_law_711 ?_
    rw [← ey3]
    refine lv_aload_n hx hb dL_law_712 rfl (lv_at hl 2 rfl) ?_
    refine lv_iload hx hb dL_law_713 (lv_at hl 1 rfl) ?_
    refine lv_iconst (v := 4) hx hb dL_law_715 (by decide) ?_
    refine lv_iadd hx hb dL_law_716 ?_
    rw [show nI (6 * k) + 4 = nI (6 * k + 4) from nI_add _ _]
    refine va_sld (xs := xs) hx hb hX hbl hbA hG.2.2 (vp_in_nI (by omega) (by omega)) dL_law_717 ?_
    rw [← ey4]
    refine lv_aload_n hx hb dL_law_718 rfl (lv_at hl 2 rfl) ?_
    refine lv_iload hx hb dL_law_719 (lv_at hl 1 rfl) ?_
    refine lv_iconst (v := 5) hx hb dL_law_721 (by decide) ?_
    refine lv_iadd hx hb dL_law_722 ?_
    rw [show nI (6 * k) + 5 = nI (6 * k + 5) from nI_add _ _]
    refine va_sld (xs := xs) hx hb hX hbl hbA hG.2.2 (vp_in_nI (by omega) (by omega)) dL_law_723 ?_
    rw [← ey5]
    refine g_callV (rest := []) (As := [.int y1, .int y2, .int y3, .int y4, .int y5]) hE hG hl.1 (c_X6_strokeAnew l hfl D tc A w9 ad d tk st y1 y2 y3 y4 y5 hM9 hOk) z1000 rfl mw4_98 mw4_99 mw4_100 mw1_4 mw4_101 rfl nm_X6_strokeAnew ⟨⟨Nat.le_of_ble_eq_true rfl, Nat.le_of_ble_eq_true rfl⟩, (by show 100 + 40 * k + 40 + 0 ≤ 601024; omega), (by show 5000 + 400 * k + 400 + 0 ≤ 7293034; omega)⟩ rfl rfl (Nat.le_of_ble_eq_true rfl) dL_law_724 (g_no) ?_
    intro v8 w8 H locs h8 hG
    rcases h8 with ⟨hg8, -⟩ | ⟨-, e8, hM8, hF8⟩
    · exact absurd hg8 hgo
    rw [e8]; clear e8
    have hC8 : cW tc w8 ca9 (sL d 0) tk st := cW_cg (hC9) hI9.1 (fun q h1 _ => hF8 q h1)
    have h78 := (hF8 7 (by omega)).trans h79
    have z8 := hM8.1
    show W p l e _ s m args below meth c H locs _ _ _ (F0 m 727 ls [.int (m_stroke d y1 y2 y3 y4 y5)])
    refine lv_istore (lv' := [(6, .int (m_stroke d y1 y2 y3 y4 y5)), (5, .int 0), (4, .int (nI (6 * k))), (0, .ref b), (1, .ref (ca 0)), (2, .ref (ad 0)), (3, .ref oa)]) hx hb dL_law_727 hl (by decide) rfl (fun ls hl => ?_)
    refine lv_aload_n hx hb dL_law_729 rfl (lv_at hl 5 rfl) ?_
    refine g_callV (rest := []) (As := []) hE hG hl.1 (c_X6_thrown l hfl D tc A w8 ad (sL d 0) tk st hM8) z8 rfl mw4_27 mw4_28 mw4_29 mw1_4 mw4_30 rfl nm_X6_thrown ⟨⟨Nat.le_of_ble_eq_true rfl, Nat.le_of_ble_eq_true rfl⟩, (by show 100 + 40 * k + 40 + 0 + 0 ≤ 601024; omega), (by show 5000 + 400 * k + 400 + 0 + 0 ≤ 7293034; omega)⟩ rfl rfl (Nat.le_of_ble_eq_true rfl) dL_law_730 (g_no) ?_
    intro v6 w6 H locs h6 hG
    obtain ⟨e6, f6⟩ := h6
    rw [f6] at hG; rw [e6, show (sL d 0) 9 14 = 0 from rfl]; clear e6 f6
    show W p l e _ s m args below meth c H locs _ _ _ (F0 m 733 ls [.int 0])
    refine lv_iload hx hb dL_law_733 (lv_at hl 1 rfl) ?_
    refine lv_icmp_eq (tgt := 740) hx hb dL_law_735 (by decide) (fun _ => ?_) (fun c9 => (c9 (by decide)).elim)
    refine lv_iload hx hb dL_law_740 (lv_at hl 1 rfl) ?_
    refine lv_if_ne (tgt := 757) hx hb dL_law_742 (by decide) (fun c9 => (c9 (by decide)).elim) (fun _ => ?_)
    refine lv_aload_n hx hb dL_law_745 rfl (lv_at hl 6 rfl) ?_
    refine lv_iconst (v := 0) hx hb dL_law_746 (by decide) ?_
    refine g_lald hE hG h78 (vp_in_nI (n := 0) (N := 1) (by decide) (by decide)) dL_law_747 ?_
    rw [show of9 (0 : Int32).toNatClampNeg = (m_stroke d y1 y2 y3 y4 y5).toInt64 from hof]
    refine lv_iload hx hb dL_law_748 (lv_at hl 0 rfl) ?_
    refine lv_i2l (v := (m_stroke d y1 y2 y3 y4 y5).toInt64) hx hb dL_law_750 rfl ?_
    refine W.lcmp hx hb dL_law_751 ?_
    refine lv_if_eq (tgt := 757) hx hb dL_law_752 (by decide) (fun c9 => ?_) (fun c9 => (c9 (lg_self _)).elim)
    refine lv_goto (tgt := 1825) hx hb dL_law_757 (by decide) ?_
    refine lv_iinc (v := (nI (6 * (k + 1)))) (lv' := [(4, .int (nI (6 * (k + 1)))), (6, .int (m_stroke d y1 y2 y3 y4 y5)), (5, .int 0), (0, .ref b), (1, .ref (ca 0)), (2, .ref (ad 0)), (3, .ref oa)]) hx hb dL_law_1825 hl (k := 2) rfl (by rw [show 6 * (k + 1) = 6 * k + 6 by omega]; exact nI_add (6 * k) 6) (by decide) rfl (fun ls hl => ?_)
    refine lv_goto (tgt := 23) hx hb dL_law_1828 (by decide) ?_
    refine W.widen (k := 100 + 40 * (k + 1)) (n := 5000 + 400 * (k + 1)) (by show 100 + 40 * k + 40 + 0 + 0 ≤ _; omega) (by show 5000 + 400 * k + 400 + 0 + 0 ≤ _; omega) ?_
    exact ih ca9 ad (sL d 0) tk st of9 w8 _ _ _ hC8 hM8 hI9 h78 hG (by rw [hca9]; exact lv_sub hl [0, 3, 4, 5, 6] rfl)
set_option maxHeartbeats 4000000 in
set_option maxRecDepth 100000 in
theorem lc_begin {p : Program} {l : Launch} {e : Env} {s : State} {m : MethodId} {args : Array Value} {below : List Frame} {meth : Method} {c : Code} {Q : State → Prop} (hfl : l.stackTraces = false) {D : va_G} {tc : Nat → ClassId} {A : Nat → Prop} {b L : Nat} {xs : Nat → Int32} {oa k : Nat} (hE : gE p l s m args meth c code 8 RL D tc A) (hX : va_X b L xs s s.heap) (hbl : b < s.heap.size) (hbA : ¬ A b) (hL : L ≤ 3072) (hk : 6 * k + 6 ≤ L) (ih : gLoop p l e s m args below meth c Q D tc A b oa (k + 1)) (ca ad : Nat → Nat) (d : gDt) (tk : Int64) (st of : Nat → Int64) (w : gW) (H : Heap) (locs : List Loc) (ls : Array Slot) (hC : cW tc w ca d tk st) (hM : mW tc w ad d tk st) (hI : iOk d (100 * k)) (h7 : w 7 = some (oa, .inl (tc 1, 1, .inr (.inl of)))) (hG : gS D A s.heap w H locs) (hl : lv_has ls 8 [(4, .int (nI (6 * k))), (0, .ref b), (1, .ref (ca 0)), (2, .ref (ad 0)), (3, .ref oa)]) : W p l e room_1 s m args below meth c H locs (100 + 40 * k) (5000 + 400 * k) Q (F0 m 760 ls []) := by
  have hx := hE.1
  have hb := hE.2.1
  obtain ⟨hOk, hF, hT, hpO, hrO, hj⟩ := id hI
  have z0 := hC.1.1
  have zm := hM.1
  obtain ⟨y1, ey1⟩ : ∃ y, y = xs (nI (6 * k + 1)).toNatClampNeg := ⟨_, rfl⟩
  obtain ⟨y2, ey2⟩ : ∃ y, y = xs (nI (6 * k + 2)).toNatClampNeg := ⟨_, rfl⟩
  obtain ⟨y3, ey3⟩ : ∃ y, y = xs (nI (6 * k + 3)).toNatClampNeg := ⟨_, rfl⟩
  obtain ⟨y4, ey4⟩ : ∃ y, y = xs (nI (6 * k + 4)).toNatClampNeg := ⟨_, rfl⟩
  obtain ⟨y5, ey5⟩ : ∃ y, y = xs (nI (6 * k + 5)).toNatClampNeg := ⟨_, rfl⟩
  refine lv_aload_n hx hb dL_law_760 rfl (lv_at hl 2 rfl) ?_
  refine lv_aload_n hx hb dL_law_761 rfl (lv_at hl 1 rfl) ?_
  refine lv_iload hx hb dL_law_762 (lv_at hl 0 rfl) ?_
  refine lv_iconst (v := 1) hx hb dL_law_764 (by decide) ?_
  refine lv_iadd hx hb dL_law_765 ?_
  rw [show nI (6 * k) + 1 = nI (6 * k + 1) from nI_add _ _]
  refine va_sld (xs := xs) hx hb hX hbl hbA hG.2.2 (vp_in_nI (by omega) (by omega)) dL_law_766 ?_
  rw [← ey1]
  refine lv_aload_n hx hb dL_law_767 rfl (lv_at hl 4 rfl) ?_
  refine g_callSH (rest := []) (As := [.ref (ca 0), .int y1, .ref oa]) hE hG hl.1 (c_L_begin l hfl D tc A w ca d tk st y1 oa of (100 * k) hC hI (by omega) h7) mw2_150 mw2_151 mw1_0 mw2_152 nm_L_begin ⟨⟨Nat.le_of_ble_eq_true rfl, Nat.le_of_ble_eq_true rfl⟩, (by show 100 + 40 * k + 40 ≤ 601024; omega), (by show 5000 + 400 * k + 400 ≤ 7293034; omega)⟩ rfl rfl (Nat.le_of_ble_eq_true rfl) dL_law_768 (g_no) ?_
  intro v9 w9 H locs h9 hG
  obtain ⟨hgl, of9, h79, hd⟩ := h9
  have hM9 := mW_cg hM hgl
  rcases hd with ⟨hgo, e9, hC9⟩ | ⟨hgo, e9, hof, ca9, hca9, hC9⟩
  · skip
    rw [e9]; clear e9
    have z1000 := hM9.1
    show W p l e _ s m args below meth c H locs _ _ _ (F0 m 771 ls [.int (m_la (ga_begin d y1) (gb_begin d y1) (gc_begin d y1))])
    have hI9 : iOk (sL d (m_la (ga_begin d y1) (gb_begin d y1) (gc_begin d y1))) (100 * (k + 1)) := by rw [show 100 * (k + 1) = 100 * k + 100 by omega]; exact iOk_l hI _
    refine lv_istore (lv' := [(5, .int (m_la (ga_begin d y1) (gb_begin d y1) (gc_begin d y1))), (4, .int (nI (6 * k))), (0, .ref b), (1, .ref (ca 0)), (2, .ref (ad 0)), (3, .ref oa)]) hx hb dL_law_771 hl (by decide) rfl (fun ls hl => ?_)
    refine lv_aload_n hx hb dL_law_773 rfl (lv_at hl 4 rfl) ?_
    refine lv_aload_n hx hb dL_law_774 rfl (lv_at hl 2 rfl) ?_
    refine lv_iload hx hb dL_law_775 (lv_at hl 1 rfl) ?_
    refine lv_iconst (v := 1) hx hb dL_law_777 (by decide) ?_
    refine lv_iadd hx hb dL_law_778 ?_
    rw [show nI (6 * k) + 1 = nI (6 * k + 1) from nI_add _ _]
    refine va_sld (xs := xs) hx hb hX hbl hbA hG.2.2 (vp_in_nI (by omega) (by omega)) dL_law_779 ?_
    rw [← ey1]
    refine g_callV (rest := []) (As := [.int y1]) hE hG hl.1 (c_X6_begin l hfl D tc A w9 ad d tk st y1 hM9 hOk) z1000 rfl mw4_103 mw4_104 mw4_105 mw1_4 mw4_106 rfl nm_X6_begin ⟨⟨Nat.le_of_ble_eq_true rfl, Nat.le_of_ble_eq_true rfl⟩, (by show 100 + 40 * k + 40 + 0 ≤ 601024; omega), (by show 5000 + 400 * k + 400 + 0 ≤ 7293034; omega)⟩ rfl rfl (Nat.le_of_ble_eq_true rfl) dL_law_780 (g_no) ?_
    intro v8 w8 H locs h8 hG
    rcases h8 with ⟨-, ⟨r8, e8⟩, hM8, hF8⟩ | ⟨hg8, -⟩
    rotate_left
    · exact absurd hgo hg8
    rw [e8]; clear e8
    have hC8 : cW tc w8 ca (sL d (m_la (ga_begin d y1) (gb_begin d y1) (gc_begin d y1))) tk st := cW_cg (cW_l hC9 _) hI9.1 (fun q h1 _ => hF8 q h1)
    have h78 := (hF8 7 (by omega)).trans h79
    have z8 := hM8.1
    show W p l e _ s m args below meth c H locs _ _ _ (F0 m 783 ls [.int r8])
    refine lv_istore (lv' := [(6, .int r8), (5, .int (m_la (ga_begin d y1) (gb_begin d y1) (gc_begin d y1))), (4, .int (nI (6 * k))), (0, .ref b), (1, .ref (ca 0)), (2, .ref (ad 0)), (3, .ref oa)]) hx hb dL_law_783 hl (by decide) rfl (fun ls hl => ?_)
    refine lv_aload_n hx hb dL_law_785 rfl (lv_at hl 5 rfl) ?_
    refine g_callV (rest := []) (As := []) hE hG hl.1 (c_X6_thrown l hfl D tc A w8 ad (sL d (m_la (ga_begin d y1) (gb_begin d y1) (gc_begin d y1))) tk st hM8) z8 rfl mw4_27 mw4_28 mw4_29 mw1_4 mw4_30 rfl nm_X6_thrown ⟨⟨Nat.le_of_ble_eq_true rfl, Nat.le_of_ble_eq_true rfl⟩, (by show 100 + 40 * k + 40 + 0 + 0 ≤ 601024; omega), (by show 5000 + 400 * k + 400 + 0 + 0 ≤ 7293034; omega)⟩ rfl rfl (Nat.le_of_ble_eq_true rfl) dL_law_786 (g_no) ?_
    intro v6 w6 H locs h6 hG
    obtain ⟨e6, f6⟩ := h6
    rw [f6] at hG; rw [e6, show (sL d (m_la (ga_begin d y1) (gb_begin d y1) (gc_begin d y1))) 9 14 = (m_la (ga_begin d y1) (gb_begin d y1) (gc_begin d y1)) from rfl]; clear e6 f6
    show W p l e _ s m args below meth c H locs _ _ _ (F0 m 789 ls [.int (m_la (ga_begin d y1) (gb_begin d y1) (gc_begin d y1))])
    refine lv_iload hx hb dL_law_789 (lv_at hl 1 rfl) ?_
    refine lv_icmp_eq (tgt := 796) hx hb dL_law_791 (by decide) (fun c9 => ?_) (fun c9 => (c9 rfl).elim)
    refine lv_iload hx hb dL_law_796 (lv_at hl 1 rfl) ?_
    refine lv_if_ne (tgt := 813) hx hb dL_law_798 (by decide) (fun c9 => ?_) (fun c9 => absurd c9 (la_ne hgo))
    refine lv_goto (tgt := 1825) hx hb dL_law_813 (by decide) ?_
    refine lv_iinc (v := (nI (6 * (k + 1)))) (lv' := [(4, .int (nI (6 * (k + 1)))), (6, .int r8), (5, .int (m_la (ga_begin d y1) (gb_begin d y1) (gc_begin d y1))), (0, .ref b), (1, .ref (ca 0)), (2, .ref (ad 0)), (3, .ref oa)]) hx hb dL_law_1825 hl (k := 2) rfl (by rw [show 6 * (k + 1) = 6 * k + 6 by omega]; exact nI_add (6 * k) 6) (by decide) rfl (fun ls hl => ?_)
    refine lv_goto (tgt := 23) hx hb dL_law_1828 (by decide) ?_
    refine W.widen (k := 100 + 40 * (k + 1)) (n := 5000 + 400 * (k + 1)) (by show 100 + 40 * k + 40 + 0 + 0 ≤ _; omega) (by show 5000 + 400 * k + 400 + 0 + 0 ≤ _; omega) ?_
    exact ih ca ad (sL d (m_la (ga_begin d y1) (gb_begin d y1) (gc_begin d y1))) tk st of9 w8 _ _ _ hC8 hM8 hI9 h78 hG (lv_sub hl [0, 3, 4, 5, 6] rfl)
  · skip
    rw [e9]; clear e9
    have z1000 := hM9.1
    show W p l e _ s m args below meth c H locs _ _ _ (F0 m 771 ls [.int 0])
    have hI9 : iOk (sL (gD d 9 (upd (upd (upd (upd (upd (upd (upd (upd (upd (d 9) 2 1) 3 y1) 4 0) 5 20) 6 0) 7 0) 8 0) 9 0) 10 (d 9 10 + 1))) 0) (100 * (k + 1)) := by rw [show 100 * (k + 1) = 100 * k + 100 by omega]; exact I_begin hI hgo
    refine lv_istore (lv' := [(5, .int 0), (4, .int (nI (6 * k))), (0, .ref b), (1, .ref (ca 0)), (2, .ref (ad 0)), (3, .ref oa)]) hx hb dL_law_771 hl (by decide) rfl (fun ls hl => ?_)
    refine lv_aload_n hx hb dL_law_773 rfl (lv_at hl 4 rfl) ?_
    refine lv_aload_n hx hb dL_law_774 rfl (lv_at hl 2 rfl) ?_
    refine lv_iload hx hb dL_law_775 (lv_at hl 1 rfl) ?_
    refine lv_iconst (v := 1) hx hb dL_law_777 (by decide) ?_
    refine lv_iadd hx hb dL_law_778 ?_
    rw [show nI (6 * k) + 1 = nI (6 * k + 1) from nI_add _ _]
    refine va_sld (xs := xs) hx hb hX hbl hbA hG.2.2 (vp_in_nI (by omega) (by omega)) dL_law_779 ?_
    rw [← ey1]
    refine g_callV (rest := []) (As := [.int y1]) hE hG hl.1 (c_X6_begin l hfl D tc A w9 ad d tk st y1 hM9 hOk) z1000 rfl mw4_103 mw4_104 mw4_105 mw1_4 mw4_106 rfl nm_X6_begin ⟨⟨Nat.le_of_ble_eq_true rfl, Nat.le_of_ble_eq_true rfl⟩, (by show 100 + 40 * k + 40 + 0 ≤ 601024; omega), (by show 5000 + 400 * k + 400 + 0 ≤ 7293034; omega)⟩ rfl rfl (Nat.le_of_ble_eq_true rfl) dL_law_780 (g_no) ?_
    intro v8 w8 H locs h8 hG
    rcases h8 with ⟨hg8, -⟩ | ⟨-, e8, hM8, hF8⟩
    · exact absurd hg8 hgo
    rw [e8]; clear e8
    have hC8 : cW tc w8 ca9 (sL (gD d 9 (upd (upd (upd (upd (upd (upd (upd (upd (upd (d 9) 2 1) 3 y1) 4 0) 5 20) 6 0) 7 0) 8 0) 9 0) 10 (d 9 10 + 1))) 0) tk st := cW_cg (hC9) hI9.1 (fun q h1 _ => hF8 q h1)
    have h78 := (hF8 7 (by omega)).trans h79
    have z8 := hM8.1
    show W p l e _ s m args below meth c H locs _ _ _ (F0 m 783 ls [.int (d 9 10 + 1)])
    refine lv_istore (lv' := [(6, .int (d 9 10 + 1)), (5, .int 0), (4, .int (nI (6 * k))), (0, .ref b), (1, .ref (ca 0)), (2, .ref (ad 0)), (3, .ref oa)]) hx hb dL_law_783 hl (by decide) rfl (fun ls hl => ?_)
    refine lv_aload_n hx hb dL_law_785 rfl (lv_at hl 5 rfl) ?_
    refine g_callV (rest := []) (As := []) hE hG hl.1 (c_X6_thrown l hfl D tc A w8 ad (sL (gD d 9 (upd (upd (upd (upd (upd (upd (upd (upd (upd (d 9) 2 1) 3 y1) 4 0) 5 20) 6 0) 7 0) 8 0) 9 0) 10 (d 9 10 + 1))) 0) tk st hM8) z8 rfl mw4_27 mw4_28 mw4_29 mw1_4 mw4_30 rfl nm_X6_thrown ⟨⟨Nat.le_of_ble_eq_true rfl, Nat.le_of_ble_eq_true rfl⟩, (by show 100 + 40 * k + 40 + 0 + 0 ≤ 601024; omega), (by show 5000 + 400 * k + 400 + 0 + 0 ≤ 7293034; omega)⟩ rfl rfl (Nat.le_of_ble_eq_true rfl) dL_law_786 (g_no) ?_
    intro v6 w6 H locs h6 hG
    obtain ⟨e6, f6⟩ := h6
    rw [f6] at hG; rw [e6, show (sL (gD d 9 (upd (upd (upd (upd (upd (upd (upd (upd (upd (d 9) 2 1) 3 y1) 4 0) 5 20) 6 0) 7 0) 8 0) 9 0) 10 (d 9 10 + 1))) 0) 9 14 = 0 from rfl]; clear e6 f6
    show W p l e _ s m args below meth c H locs _ _ _ (F0 m 789 ls [.int 0])
    refine lv_iload hx hb dL_law_789 (lv_at hl 1 rfl) ?_
    refine lv_icmp_eq (tgt := 796) hx hb dL_law_791 (by decide) (fun _ => ?_) (fun c9 => (c9 (by decide)).elim)
    refine lv_iload hx hb dL_law_796 (lv_at hl 1 rfl) ?_
    refine lv_if_ne (tgt := 813) hx hb dL_law_798 (by decide) (fun c9 => (c9 (by decide)).elim) (fun _ => ?_)
    refine lv_aload_n hx hb dL_law_801 rfl (lv_at hl 6 rfl) ?_
    refine lv_iconst (v := 0) hx hb dL_law_802 (by decide) ?_
    refine g_lald hE hG h78 (vp_in_nI (n := 0) (N := 1) (by decide) (by decide)) dL_law_803 ?_
    rw [show of9 (0 : Int32).toNatClampNeg = (d 9 10 + 1).toInt64 from hof]
    refine lv_iload hx hb dL_law_804 (lv_at hl 0 rfl) ?_
    refine lv_i2l (v := (d 9 10 + 1).toInt64) hx hb dL_law_806 rfl ?_
    refine W.lcmp hx hb dL_law_807 ?_
    refine lv_if_eq (tgt := 813) hx hb dL_law_808 (by decide) (fun c9 => ?_) (fun c9 => (c9 (lg_self _)).elim)
    refine lv_goto (tgt := 1825) hx hb dL_law_813 (by decide) ?_
    refine lv_iinc (v := (nI (6 * (k + 1)))) (lv' := [(4, .int (nI (6 * (k + 1)))), (6, .int (d 9 10 + 1)), (5, .int 0), (0, .ref b), (1, .ref (ca 0)), (2, .ref (ad 0)), (3, .ref oa)]) hx hb dL_law_1825 hl (k := 2) rfl (by rw [show 6 * (k + 1) = 6 * k + 6 by omega]; exact nI_add (6 * k) 6) (by decide) rfl (fun ls hl => ?_)
    refine lv_goto (tgt := 23) hx hb dL_law_1828 (by decide) ?_
    refine W.widen (k := 100 + 40 * (k + 1)) (n := 5000 + 400 * (k + 1)) (by show 100 + 40 * k + 40 + 0 + 0 ≤ _; omega) (by show 5000 + 400 * k + 400 + 0 + 0 ≤ _; omega) ?_
    exact ih ca9 ad (sL (gD d 9 (upd (upd (upd (upd (upd (upd (upd (upd (upd (d 9) 2 1) 3 y1) 4 0) 5 20) 6 0) 7 0) 8 0) 9 0) 10 (d 9 10 + 1))) 0) tk st of9 w8 _ _ _ hC8 hM8 hI9 h78 hG (by rw [hca9]; exact lv_sub hl [0, 3, 4, 5, 6] rfl)
set_option maxHeartbeats 4000000 in
set_option maxRecDepth 100000 in
theorem lc_drum {p : Program} {l : Launch} {e : Env} {s : State} {m : MethodId} {args : Array Value} {below : List Frame} {meth : Method} {c : Code} {Q : State → Prop} (hfl : l.stackTraces = false) {D : va_G} {tc : Nat → ClassId} {A : Nat → Prop} {b L : Nat} {xs : Nat → Int32} {oa k : Nat} (hE : gE p l s m args meth c code 8 RL D tc A) (hX : va_X b L xs s s.heap) (hbl : b < s.heap.size) (hbA : ¬ A b) (hL : L ≤ 3072) (hk : 6 * k + 6 ≤ L) (ih : gLoop p l e s m args below meth c Q D tc A b oa (k + 1)) (ca ad : Nat → Nat) (d : gDt) (tk : Int64) (st of : Nat → Int64) (w : gW) (H : Heap) (locs : List Loc) (ls : Array Slot) (hC : cW tc w ca d tk st) (hM : mW tc w ad d tk st) (hI : iOk d (100 * k)) (h7 : w 7 = some (oa, .inl (tc 1, 1, .inr (.inl of)))) (hG : gS D A s.heap w H locs) (hl : lv_has ls 8 [(4, .int (nI (6 * k))), (0, .ref b), (1, .ref (ca 0)), (2, .ref (ad 0)), (3, .ref oa)]) : W p l e room_1 s m args below meth c H locs (100 + 40 * k) (5000 + 400 * k) Q (F0 m 816 ls []) := by
  have hx := hE.1
  have hb := hE.2.1
  obtain ⟨hOk, hF, hT, hpO, hrO, hj⟩ := id hI
  have z0 := hC.1.1
  have zm := hM.1
  obtain ⟨y1, ey1⟩ : ∃ y, y = xs (nI (6 * k + 1)).toNatClampNeg := ⟨_, rfl⟩
  obtain ⟨y2, ey2⟩ : ∃ y, y = xs (nI (6 * k + 2)).toNatClampNeg := ⟨_, rfl⟩
  obtain ⟨y3, ey3⟩ : ∃ y, y = xs (nI (6 * k + 3)).toNatClampNeg := ⟨_, rfl⟩
  obtain ⟨y4, ey4⟩ : ∃ y, y = xs (nI (6 * k + 4)).toNatClampNeg := ⟨_, rfl⟩
  obtain ⟨y5, ey5⟩ : ∃ y, y = xs (nI (6 * k + 5)).toNatClampNeg := ⟨_, rfl⟩
  refine lv_aload_n hx hb dL_law_816 rfl (lv_at hl 2 rfl) ?_
  refine lv_aload_n hx hb dL_law_817 rfl (lv_at hl 1 rfl) ?_
  refine lv_iload hx hb dL_law_818 (lv_at hl 0 rfl) ?_
  refine lv_iconst (v := 1) hx hb dL_law_820 (by decide) ?_
  refine lv_iadd hx hb dL_law_821 ?_
  rw [show nI (6 * k) + 1 = nI (6 * k + 1) from nI_add _ _]
  refine va_sld (xs := xs) hx hb hX hbl hbA hG.2.2 (vp_in_nI (by omega) (by omega)) dL_law_822 ?_
  rw [← ey1]
  refine lv_aload_n hx hb dL_law_823 rfl (lv_at hl 4 rfl) ?_
  refine g_callSH (rest := []) (As := [.ref (ca 0), .int y1, .ref oa]) hE hG hl.1 (c_L_drum l hfl D tc A w ca d tk st y1 oa of (100 * k) hC hI (by omega) h7) mw2_167 mw2_168 mw1_0 mw2_169 nm_L_drum ⟨⟨Nat.le_of_ble_eq_true rfl, Nat.le_of_ble_eq_true rfl⟩, (by show 100 + 40 * k + 40 ≤ 601024; omega), (by show 5000 + 400 * k + 400 ≤ 7293034; omega)⟩ rfl rfl (Nat.le_of_ble_eq_true rfl) dL_law_824 (g_no) ?_
  intro v9 w9 H locs h9 hG
  obtain ⟨hgl, of9, h79, hd⟩ := h9
  have hM9 := mW_cg hM hgl
  rcases hd with ⟨hgo, e9, hC9⟩ | ⟨hgo, e9, hof, ca9, hca9, hC9⟩
  · skip
    rw [e9]; clear e9
    have z1000 := hM9.1
    show W p l e _ s m args below meth c H locs _ _ _ (F0 m 827 ls [.int (m_la (ga_drum d y1) (gb_drum d y1) (gc_drum d y1))])
    have hI9 : iOk (sL d (m_la (ga_drum d y1) (gb_drum d y1) (gc_drum d y1))) (100 * (k + 1)) := by rw [show 100 * (k + 1) = 100 * k + 100 by omega]; exact iOk_l hI _
    refine lv_istore (lv' := [(5, .int (m_la (ga_drum d y1) (gb_drum d y1) (gc_drum d y1))), (4, .int (nI (6 * k))), (0, .ref b), (1, .ref (ca 0)), (2, .ref (ad 0)), (3, .ref oa)]) hx hb dL_law_827 hl (by decide) rfl (fun ls hl => ?_)
    refine lv_aload_n hx hb dL_law_829 rfl (lv_at hl 4 rfl) ?_
    refine lv_aload_n hx hb dL_law_830 rfl (lv_at hl 2 rfl) ?_
    refine lv_iload hx hb dL_law_831 (lv_at hl 1 rfl) ?_
    refine lv_iconst (v := 1) hx hb dL_law_833 (by decide) ?_
    refine lv_iadd hx hb dL_law_834 ?_
    rw [show nI (6 * k) + 1 = nI (6 * k + 1) from nI_add _ _]
    refine va_sld (xs := xs) hx hb hX hbl hbA hG.2.2 (vp_in_nI (by omega) (by omega)) dL_law_835 ?_
    rw [← ey1]
    refine g_callV (rest := []) (As := [.int y1]) hE hG hl.1 (c_X6_drum l hfl D tc A w9 ad d tk st y1 hM9 hOk (hcu_of hj)) z1000 rfl mw4_107 mw4_108 mw4_109 mw1_4 mw4_110 rfl nm_X6_drum ⟨⟨Nat.le_of_ble_eq_true rfl, Nat.le_of_ble_eq_true rfl⟩, (by show 100 + 40 * k + 40 + 0 ≤ 601024; omega), (by show 5000 + 400 * k + 400 + 0 ≤ 7293034; omega)⟩ rfl rfl (Nat.le_of_ble_eq_true rfl) dL_law_836 (g_no) ?_
    intro v8 w8 H locs h8 hG
    rcases h8 with ⟨-, ⟨r8, e8⟩, hM8, hF8⟩ | ⟨hg8, -⟩
    rotate_left
    · exact absurd hgo hg8
    rw [e8]; clear e8
    have hC8 : cW tc w8 ca (sL d (m_la (ga_drum d y1) (gb_drum d y1) (gc_drum d y1))) tk st := cW_cg (cW_l hC9 _) hI9.1 (fun q h1 _ => hF8 q h1)
    have h78 := (hF8 7 (by omega)).trans h79
    have z8 := hM8.1
    show W p l e _ s m args below meth c H locs _ _ _ (F0 m 839 ls [.int r8])
    refine lv_istore (lv' := [(6, .int r8), (5, .int (m_la (ga_drum d y1) (gb_drum d y1) (gc_drum d y1))), (4, .int (nI (6 * k))), (0, .ref b), (1, .ref (ca 0)), (2, .ref (ad 0)), (3, .ref oa)]) hx hb dL_law_839 hl (by decide) rfl (fun ls hl => ?_)
    refine lv_aload_n hx hb dL_law_841 rfl (lv_at hl 5 rfl) ?_
    refine g_callV (rest := []) (As := []) hE hG hl.1 (c_X6_thrown l hfl D tc A w8 ad (sL d (m_la (ga_drum d y1) (gb_drum d y1) (gc_drum d y1))) tk st hM8) z8 rfl mw4_27 mw4_28 mw4_29 mw1_4 mw4_30 rfl nm_X6_thrown ⟨⟨Nat.le_of_ble_eq_true rfl, Nat.le_of_ble_eq_true rfl⟩, (by show 100 + 40 * k + 40 + 0 + 0 ≤ 601024; omega), (by show 5000 + 400 * k + 400 + 0 + 0 ≤ 7293034; omega)⟩ rfl rfl (Nat.le_of_ble_eq_true rfl) dL_law_842 (g_no) ?_
    intro v6 w6 H locs h6 hG
    obtain ⟨e6, f6⟩ := h6
    rw [f6] at hG; rw [e6, show (sL d (m_la (ga_drum d y1) (gb_drum d y1) (gc_drum d y1))) 9 14 = (m_la (ga_drum d y1) (gb_drum d y1) (gc_drum d y1)) from rfl]; clear e6 f6
    show W p l e _ s m args below meth c H locs _ _ _ (F0 m 845 ls [.int (m_la (ga_drum d y1) (gb_drum d y1) (gc_drum d y1))])
    refine lv_iload hx hb dL_law_845 (lv_at hl 1 rfl) ?_
    refine lv_icmp_eq (tgt := 852) hx hb dL_law_847 (by decide) (fun c9 => ?_) (fun c9 => (c9 rfl).elim)
    refine lv_iload hx hb dL_law_852 (lv_at hl 1 rfl) ?_
    refine lv_if_ne (tgt := 869) hx hb dL_law_854 (by decide) (fun c9 => ?_) (fun c9 => absurd c9 (la_ne hgo))
    refine lv_goto (tgt := 1825) hx hb dL_law_869 (by decide) ?_
    refine lv_iinc (v := (nI (6 * (k + 1)))) (lv' := [(4, .int (nI (6 * (k + 1)))), (6, .int r8), (5, .int (m_la (ga_drum d y1) (gb_drum d y1) (gc_drum d y1))), (0, .ref b), (1, .ref (ca 0)), (2, .ref (ad 0)), (3, .ref oa)]) hx hb dL_law_1825 hl (k := 2) rfl (by rw [show 6 * (k + 1) = 6 * k + 6 by omega]; exact nI_add (6 * k) 6) (by decide) rfl (fun ls hl => ?_)
    refine lv_goto (tgt := 23) hx hb dL_law_1828 (by decide) ?_
    refine W.widen (k := 100 + 40 * (k + 1)) (n := 5000 + 400 * (k + 1)) (by show 100 + 40 * k + 40 + 0 + 0 ≤ _; omega) (by show 5000 + 400 * k + 400 + 0 + 0 ≤ _; omega) ?_
    exact ih ca ad (sL d (m_la (ga_drum d y1) (gb_drum d y1) (gc_drum d y1))) tk st of9 w8 _ _ _ hC8 hM8 hI9 h78 hG (lv_sub hl [0, 3, 4, 5, 6] rfl)
  · skip
    rw [e9]; clear e9
    have z1000 := hM9.1
    show W p l e _ s m args below meth c H locs _ _ _ (F0 m 827 ls [.int 0])
    have hI9 : iOk (sL (m_drum d y1) 0) (100 * (k + 1)) := by rw [show 100 * (k + 1) = 100 * k + 100 by omega]; exact I_drum hI hgo
    refine lv_istore (lv' := [(5, .int 0), (4, .int (nI (6 * k))), (0, .ref b), (1, .ref (ca 0)), (2, .ref (ad 0)), (3, .ref oa)]) hx hb dL_law_827 hl (by decide) rfl (fun ls hl => ?_)
    refine lv_aload_n hx hb dL_law_829 rfl (lv_at hl 4 rfl) ?_
    refine lv_aload_n hx hb dL_law_830 rfl (lv_at hl 2 rfl) ?_
    refine lv_iload hx hb dL_law_831 (lv_at hl 1 rfl) ?_
    refine lv_iconst (v := 1) hx hb dL_law_833 (by decide) ?_
    refine lv_iadd hx hb dL_law_834 ?_
    rw [show nI (6 * k) + 1 = nI (6 * k + 1) from nI_add _ _]
    refine va_sld (xs := xs) hx hb hX hbl hbA hG.2.2 (vp_in_nI (by omega) (by omega)) dL_law_835 ?_
    rw [← ey1]
    refine g_callV (rest := []) (As := [.int y1]) hE hG hl.1 (c_X6_drum l hfl D tc A w9 ad d tk st y1 hM9 hOk (hcu_of hj)) z1000 rfl mw4_107 mw4_108 mw4_109 mw1_4 mw4_110 rfl nm_X6_drum ⟨⟨Nat.le_of_ble_eq_true rfl, Nat.le_of_ble_eq_true rfl⟩, (by show 100 + 40 * k + 40 + 0 ≤ 601024; omega), (by show 5000 + 400 * k + 400 + 0 ≤ 7293034; omega)⟩ rfl rfl (Nat.le_of_ble_eq_true rfl) dL_law_836 (g_no) ?_
    intro v8 w8 H locs h8 hG
    rcases h8 with ⟨hg8, -⟩ | ⟨-, e8, hM8, hF8⟩
    · exact absurd hg8 hgo
    rw [e8]; clear e8
    have hC8 : cW tc w8 ca9 (sL (m_drum d y1) 0) tk st := cW_cg (hC9) hI9.1 (fun q h1 _ => hF8 q h1)
    have h78 := (hF8 7 (by omega)).trans h79
    have z8 := hM8.1
    show W p l e _ s m args below meth c H locs _ _ _ (F0 m 839 ls [.int (d 9 4)])
    refine lv_istore (lv' := [(6, .int (d 9 4)), (5, .int 0), (4, .int (nI (6 * k))), (0, .ref b), (1, .ref (ca 0)), (2, .ref (ad 0)), (3, .ref oa)]) hx hb dL_law_839 hl (by decide) rfl (fun ls hl => ?_)
    refine lv_aload_n hx hb dL_law_841 rfl (lv_at hl 5 rfl) ?_
    refine g_callV (rest := []) (As := []) hE hG hl.1 (c_X6_thrown l hfl D tc A w8 ad (sL (m_drum d y1) 0) tk st hM8) z8 rfl mw4_27 mw4_28 mw4_29 mw1_4 mw4_30 rfl nm_X6_thrown ⟨⟨Nat.le_of_ble_eq_true rfl, Nat.le_of_ble_eq_true rfl⟩, (by show 100 + 40 * k + 40 + 0 + 0 ≤ 601024; omega), (by show 5000 + 400 * k + 400 + 0 + 0 ≤ 7293034; omega)⟩ rfl rfl (Nat.le_of_ble_eq_true rfl) dL_law_842 (g_no) ?_
    intro v6 w6 H locs h6 hG
    obtain ⟨e6, f6⟩ := h6
    rw [f6] at hG; rw [e6, show (sL (m_drum d y1) 0) 9 14 = 0 from rfl]; clear e6 f6
    show W p l e _ s m args below meth c H locs _ _ _ (F0 m 845 ls [.int 0])
    refine lv_iload hx hb dL_law_845 (lv_at hl 1 rfl) ?_
    refine lv_icmp_eq (tgt := 852) hx hb dL_law_847 (by decide) (fun _ => ?_) (fun c9 => (c9 (by decide)).elim)
    refine lv_iload hx hb dL_law_852 (lv_at hl 1 rfl) ?_
    refine lv_if_ne (tgt := 869) hx hb dL_law_854 (by decide) (fun c9 => (c9 (by decide)).elim) (fun _ => ?_)
    refine lv_aload_n hx hb dL_law_857 rfl (lv_at hl 6 rfl) ?_
    refine lv_iconst (v := 0) hx hb dL_law_858 (by decide) ?_
    refine g_lald hE hG h78 (vp_in_nI (n := 0) (N := 1) (by decide) (by decide)) dL_law_859 ?_
    rw [show of9 (0 : Int32).toNatClampNeg = (d 9 4).toInt64 from hof]
    refine lv_iload hx hb dL_law_860 (lv_at hl 0 rfl) ?_
    refine lv_i2l (v := (d 9 4).toInt64) hx hb dL_law_862 rfl ?_
    refine W.lcmp hx hb dL_law_863 ?_
    refine lv_if_eq (tgt := 869) hx hb dL_law_864 (by decide) (fun c9 => ?_) (fun c9 => (c9 (lg_self _)).elim)
    refine lv_goto (tgt := 1825) hx hb dL_law_869 (by decide) ?_
    refine lv_iinc (v := (nI (6 * (k + 1)))) (lv' := [(4, .int (nI (6 * (k + 1)))), (6, .int (d 9 4)), (5, .int 0), (0, .ref b), (1, .ref (ca 0)), (2, .ref (ad 0)), (3, .ref oa)]) hx hb dL_law_1825 hl (k := 2) rfl (by rw [show 6 * (k + 1) = 6 * k + 6 by omega]; exact nI_add (6 * k) 6) (by decide) rfl (fun ls hl => ?_)
    refine lv_goto (tgt := 23) hx hb dL_law_1828 (by decide) ?_
    refine W.widen (k := 100 + 40 * (k + 1)) (n := 5000 + 400 * (k + 1)) (by show 100 + 40 * k + 40 + 0 + 0 ≤ _; omega) (by show 5000 + 400 * k + 400 + 0 + 0 ≤ _; omega) ?_
    exact ih ca9 ad (sL (m_drum d y1) 0) tk st of9 w8 _ _ _ hC8 hM8 hI9 h78 hG (by rw [hca9]; exact lv_sub hl [0, 3, 4, 5, 6] rfl)
set_option maxHeartbeats 4000000 in
set_option maxRecDepth 100000 in
theorem lc_now {p : Program} {l : Launch} {e : Env} {s : State} {m : MethodId} {args : Array Value} {below : List Frame} {meth : Method} {c : Code} {Q : State → Prop} (hfl : l.stackTraces = false) {D : va_G} {tc : Nat → ClassId} {A : Nat → Prop} {b L : Nat} {xs : Nat → Int32} {oa k : Nat} (hE : gE p l s m args meth c code 8 RL D tc A) (hX : va_X b L xs s s.heap) (hbl : b < s.heap.size) (hbA : ¬ A b) (hL : L ≤ 3072) (hk : 6 * k + 6 ≤ L) (ih : gLoop p l e s m args below meth c Q D tc A b oa (k + 1)) (ca ad : Nat → Nat) (d : gDt) (tk : Int64) (st of : Nat → Int64) (w : gW) (H : Heap) (locs : List Loc) (ls : Array Slot) (hC : cW tc w ca d tk st) (hM : mW tc w ad d tk st) (hI : iOk d (100 * k)) (h7 : w 7 = some (oa, .inl (tc 1, 1, .inr (.inl of)))) (hG : gS D A s.heap w H locs) (hl : lv_has ls 8 [(4, .int (nI (6 * k))), (0, .ref b), (1, .ref (ca 0)), (2, .ref (ad 0)), (3, .ref oa)]) : W p l e room_1 s m args below meth c H locs (100 + 40 * k) (5000 + 400 * k) Q (F0 m 928 ls []) := by
  have hx := hE.1
  have hb := hE.2.1
  obtain ⟨hOk, hF, hT, hpO, hrO, hj⟩ := id hI
  have z0 := hC.1.1
  have zm := hM.1
  obtain ⟨y1, ey1⟩ : ∃ y, y = xs (nI (6 * k + 1)).toNatClampNeg := ⟨_, rfl⟩
  obtain ⟨y2, ey2⟩ : ∃ y, y = xs (nI (6 * k + 2)).toNatClampNeg := ⟨_, rfl⟩
  obtain ⟨y3, ey3⟩ : ∃ y, y = xs (nI (6 * k + 3)).toNatClampNeg := ⟨_, rfl⟩
  obtain ⟨y4, ey4⟩ : ∃ y, y = xs (nI (6 * k + 4)).toNatClampNeg := ⟨_, rfl⟩
  obtain ⟨y5, ey5⟩ : ∃ y, y = xs (nI (6 * k + 5)).toNatClampNeg := ⟨_, rfl⟩
  refine lv_aload_n hx hb dL_law_928 rfl (lv_at hl 2 rfl) ?_
  refine lv_aload_n hx hb dL_law_929 rfl (lv_at hl 1 rfl) ?_
  refine lv_iload hx hb dL_law_930 (lv_at hl 0 rfl) ?_
  refine lv_iconst (v := 1) hx hb dL_law_932 (by decide) ?_
  refine lv_iadd hx hb dL_law_933 ?_
  rw [show nI (6 * k) + 1 = nI (6 * k + 1) from nI_add _ _]
  refine va_sld (xs := xs) hx hb hX hbl hbA hG.2.2 (vp_in_nI (by omega) (by omega)) dL_law_934 ?_
  rw [← ey1]
  refine lv_aload_n hx hb dL_law_935 rfl (lv_at hl 4 rfl) ?_
  refine g_callSH (rest := []) (As := [.ref (ca 0), .int y1, .ref oa]) hE hG hl.1 (c_L_now l hfl D tc A w ca d tk st y1 oa of (100 * k) hC hI (by omega) h7) mw2_216 mw2_217 mw1_0 mw2_218 nm_L_now ⟨⟨Nat.le_of_ble_eq_true rfl, Nat.le_of_ble_eq_true rfl⟩, (by show 100 + 40 * k + 40 ≤ 601024; omega), (by show 5000 + 400 * k + 400 ≤ 7293034; omega)⟩ rfl rfl (Nat.le_of_ble_eq_true rfl) dL_law_936 (g_no) ?_
  intro v9 w9 H locs h9 hG
  obtain ⟨hgl, of9, h79, hd⟩ := h9
  have hM9 := mW_cg hM hgl
  rcases hd with ⟨hgo, e9, hC9⟩ | ⟨hgo, e9, hof, ca9, hca9, hC9⟩
  · skip
    rw [e9]; clear e9
    have z1000 := hM9.1
    show W p l e _ s m args below meth c H locs _ _ _ (F0 m 939 ls [.int (m_la (ga_now d y1) (gb_now d y1) (gc_now d y1))])
    have hI9 : iOk (sL d (m_la (ga_now d y1) (gb_now d y1) (gc_now d y1))) (100 * (k + 1)) := by rw [show 100 * (k + 1) = 100 * k + 100 by omega]; exact iOk_l hI _
    refine lv_istore (lv' := [(5, .int (m_la (ga_now d y1) (gb_now d y1) (gc_now d y1))), (4, .int (nI (6 * k))), (0, .ref b), (1, .ref (ca 0)), (2, .ref (ad 0)), (3, .ref oa)]) hx hb dL_law_939 hl (by decide) rfl (fun ls hl => ?_)
    refine lv_aload_n hx hb dL_law_941 rfl (lv_at hl 4 rfl) ?_
    refine lv_aload_n hx hb dL_law_942 rfl (lv_at hl 2 rfl) ?_
    refine lv_iload hx hb dL_law_943 (lv_at hl 1 rfl) ?_
    refine lv_iconst (v := 1) hx hb dL_law_945 (by decide) ?_
    refine lv_iadd hx hb dL_law_946 ?_
    rw [show nI (6 * k) + 1 = nI (6 * k + 1) from nI_add _ _]
    refine va_sld (xs := xs) hx hb hX hbl hbA hG.2.2 (vp_in_nI (by omega) (by omega)) dL_law_947 ?_
    rw [← ey1]
    refine g_callV (rest := []) (As := [.int y1]) hE hG hl.1 (c_X6_now l hfl D tc A w9 ad d tk st y1 hM9 hOk) z1000 rfl mw4_119 mw4_120 mw4_121 mw1_4 mw4_122 rfl nm_X6_now ⟨⟨Nat.le_of_ble_eq_true rfl, Nat.le_of_ble_eq_true rfl⟩, (by show 100 + 40 * k + 40 + 0 ≤ 601024; omega), (by show 5000 + 400 * k + 400 + 0 ≤ 7293034; omega)⟩ rfl rfl (Nat.le_of_ble_eq_true rfl) dL_law_948 (g_no) ?_
    intro v8 w8 H locs h8 hG
    rcases h8 with ⟨-, ⟨r8, e8⟩, hM8, hF8⟩ | ⟨hg8, -⟩
    rotate_left
    · exact absurd hgo hg8
    rw [e8]; clear e8
    have hC8 : cW tc w8 ca (sL d (m_la (ga_now d y1) (gb_now d y1) (gc_now d y1))) tk st := cW_cg (cW_l hC9 _) hI9.1 (fun q h1 _ => hF8 q h1)
    have h78 := (hF8 7 (by omega)).trans h79
    have z8 := hM8.1
    show W p l e _ s m args below meth c H locs _ _ _ (F0 m 951 ls [.int r8])
    refine lv_istore (lv' := [(6, .int r8), (5, .int (m_la (ga_now d y1) (gb_now d y1) (gc_now d y1))), (4, .int (nI (6 * k))), (0, .ref b), (1, .ref (ca 0)), (2, .ref (ad 0)), (3, .ref oa)]) hx hb dL_law_951 hl (by decide) rfl (fun ls hl => ?_)
    refine lv_aload_n hx hb dL_law_953 rfl (lv_at hl 5 rfl) ?_
    refine g_callV (rest := []) (As := []) hE hG hl.1 (c_X6_thrown l hfl D tc A w8 ad (sL d (m_la (ga_now d y1) (gb_now d y1) (gc_now d y1))) tk st hM8) z8 rfl mw4_27 mw4_28 mw4_29 mw1_4 mw4_30 rfl nm_X6_thrown ⟨⟨Nat.le_of_ble_eq_true rfl, Nat.le_of_ble_eq_true rfl⟩, (by show 100 + 40 * k + 40 + 0 + 0 ≤ 601024; omega), (by show 5000 + 400 * k + 400 + 0 + 0 ≤ 7293034; omega)⟩ rfl rfl (Nat.le_of_ble_eq_true rfl) dL_law_954 (g_no) ?_
    intro v6 w6 H locs h6 hG
    obtain ⟨e6, f6⟩ := h6
    rw [f6] at hG; rw [e6, show (sL d (m_la (ga_now d y1) (gb_now d y1) (gc_now d y1))) 9 14 = (m_la (ga_now d y1) (gb_now d y1) (gc_now d y1)) from rfl]; clear e6 f6
    show W p l e _ s m args below meth c H locs _ _ _ (F0 m 957 ls [.int (m_la (ga_now d y1) (gb_now d y1) (gc_now d y1))])
    refine lv_iload hx hb dL_law_957 (lv_at hl 1 rfl) ?_
    refine lv_icmp_eq (tgt := 964) hx hb dL_law_959 (by decide) (fun c9 => ?_) (fun c9 => (c9 rfl).elim)
    refine lv_iload hx hb dL_law_964 (lv_at hl 1 rfl) ?_
    refine lv_if_ne (tgt := 981) hx hb dL_law_966 (by decide) (fun c9 => ?_) (fun c9 => absurd c9 (la_ne hgo))
    refine lv_goto (tgt := 1825) hx hb dL_law_981 (by decide) ?_
    refine lv_iinc (v := (nI (6 * (k + 1)))) (lv' := [(4, .int (nI (6 * (k + 1)))), (6, .int r8), (5, .int (m_la (ga_now d y1) (gb_now d y1) (gc_now d y1))), (0, .ref b), (1, .ref (ca 0)), (2, .ref (ad 0)), (3, .ref oa)]) hx hb dL_law_1825 hl (k := 2) rfl (by rw [show 6 * (k + 1) = 6 * k + 6 by omega]; exact nI_add (6 * k) 6) (by decide) rfl (fun ls hl => ?_)
    refine lv_goto (tgt := 23) hx hb dL_law_1828 (by decide) ?_
    refine W.widen (k := 100 + 40 * (k + 1)) (n := 5000 + 400 * (k + 1)) (by show 100 + 40 * k + 40 + 0 + 0 ≤ _; omega) (by show 5000 + 400 * k + 400 + 0 + 0 ≤ _; omega) ?_
    exact ih ca ad (sL d (m_la (ga_now d y1) (gb_now d y1) (gc_now d y1))) tk st of9 w8 _ _ _ hC8 hM8 hI9 h78 hG (lv_sub hl [0, 3, 4, 5, 6] rfl)
  · skip
    rw [e9]; clear e9
    have z1000 := hM9.1
    show W p l e _ s m args below meth c H locs _ _ _ (F0 m 939 ls [.int 0])
    have hI9 : iOk (sL d 0) (100 * (k + 1)) := by rw [show 100 * (k + 1) = 100 * k + 100 by omega]; exact iOk_l hI 0
    refine lv_istore (lv' := [(5, .int 0), (4, .int (nI (6 * k))), (0, .ref b), (1, .ref (ca 0)), (2, .ref (ad 0)), (3, .ref oa)]) hx hb dL_law_939 hl (by decide) rfl (fun ls hl => ?_)
    refine lv_aload_n hx hb dL_law_941 rfl (lv_at hl 4 rfl) ?_
    refine lv_aload_n hx hb dL_law_942 rfl (lv_at hl 2 rfl) ?_
    refine lv_iload hx hb dL_law_943 (lv_at hl 1 rfl) ?_
    refine lv_iconst (v := 1) hx hb dL_law_945 (by decide) ?_
    refine lv_iadd hx hb dL_law_946 ?_
    rw [show nI (6 * k) + 1 = nI (6 * k + 1) from nI_add _ _]
    refine va_sld (xs := xs) hx hb hX hbl hbA hG.2.2 (vp_in_nI (by omega) (by omega)) dL_law_947 ?_
    rw [← ey1]
    refine g_callV (rest := []) (As := [.int y1]) hE hG hl.1 (c_X6_now l hfl D tc A w9 ad d tk st y1 hM9 hOk) z1000 rfl mw4_119 mw4_120 mw4_121 mw1_4 mw4_122 rfl nm_X6_now ⟨⟨Nat.le_of_ble_eq_true rfl, Nat.le_of_ble_eq_true rfl⟩, (by show 100 + 40 * k + 40 + 0 ≤ 601024; omega), (by show 5000 + 400 * k + 400 + 0 ≤ 7293034; omega)⟩ rfl rfl (Nat.le_of_ble_eq_true rfl) dL_law_948 (g_no) ?_
    intro v8 w8 H locs h8 hG
    rcases h8 with ⟨hg8, -⟩ | ⟨-, e8, hM8, hF8⟩
    · exact absurd hg8 hgo
    rw [e8]; clear e8
    have hC8 : cW tc w8 ca9 (sL d 0) tk st := cW_cg (hC9) hI9.1 (fun q h1 _ => hF8 q h1)
    have h78 := (hF8 7 (by omega)).trans h79
    have z8 := hM8.1
    show W p l e _ s m args below meth c H locs _ _ _ (F0 m 951 ls [.int (m_now d y1)])
    refine lv_istore (lv' := [(6, .int (m_now d y1)), (5, .int 0), (4, .int (nI (6 * k))), (0, .ref b), (1, .ref (ca 0)), (2, .ref (ad 0)), (3, .ref oa)]) hx hb dL_law_951 hl (by decide) rfl (fun ls hl => ?_)
    refine lv_aload_n hx hb dL_law_953 rfl (lv_at hl 5 rfl) ?_
    refine g_callV (rest := []) (As := []) hE hG hl.1 (c_X6_thrown l hfl D tc A w8 ad (sL d 0) tk st hM8) z8 rfl mw4_27 mw4_28 mw4_29 mw1_4 mw4_30 rfl nm_X6_thrown ⟨⟨Nat.le_of_ble_eq_true rfl, Nat.le_of_ble_eq_true rfl⟩, (by show 100 + 40 * k + 40 + 0 + 0 ≤ 601024; omega), (by show 5000 + 400 * k + 400 + 0 + 0 ≤ 7293034; omega)⟩ rfl rfl (Nat.le_of_ble_eq_true rfl) dL_law_954 (g_no) ?_
    intro v6 w6 H locs h6 hG
    obtain ⟨e6, f6⟩ := h6
    rw [f6] at hG; rw [e6, show (sL d 0) 9 14 = 0 from rfl]; clear e6 f6
    show W p l e _ s m args below meth c H locs _ _ _ (F0 m 957 ls [.int 0])
    refine lv_iload hx hb dL_law_957 (lv_at hl 1 rfl) ?_
    refine lv_icmp_eq (tgt := 964) hx hb dL_law_959 (by decide) (fun _ => ?_) (fun c9 => (c9 (by decide)).elim)
    refine lv_iload hx hb dL_law_964 (lv_at hl 1 rfl) ?_
    refine lv_if_ne (tgt := 981) hx hb dL_law_966 (by decide) (fun c9 => (c9 (by decide)).elim) (fun _ => ?_)
    refine lv_aload_n hx hb dL_law_969 rfl (lv_at hl 6 rfl) ?_
    refine lv_iconst (v := 0) hx hb dL_law_970 (by decide) ?_
    refine g_lald hE hG h78 (vp_in_nI (n := 0) (N := 1) (by decide) (by decide)) dL_law_971 ?_
    rw [show of9 (0 : Int32).toNatClampNeg = (m_now d y1).toInt64 from hof]
    refine lv_iload hx hb dL_law_972 (lv_at hl 0 rfl) ?_
    refine lv_i2l (v := (m_now d y1).toInt64) hx hb dL_law_974 rfl ?_
    refine W.lcmp hx hb dL_law_975 ?_
    refine lv_if_eq (tgt := 981) hx hb dL_law_976 (by decide) (fun c9 => ?_) (fun c9 => (c9 (lg_self _)).elim)
    refine lv_goto (tgt := 1825) hx hb dL_law_981 (by decide) ?_
    refine lv_iinc (v := (nI (6 * (k + 1)))) (lv' := [(4, .int (nI (6 * (k + 1)))), (6, .int (m_now d y1)), (5, .int 0), (0, .ref b), (1, .ref (ca 0)), (2, .ref (ad 0)), (3, .ref oa)]) hx hb dL_law_1825 hl (k := 2) rfl (by rw [show 6 * (k + 1) = 6 * k + 6 by omega]; exact nI_add (6 * k) 6) (by decide) rfl (fun ls hl => ?_)
    refine lv_goto (tgt := 23) hx hb dL_law_1828 (by decide) ?_
    refine W.widen (k := 100 + 40 * (k + 1)) (n := 5000 + 400 * (k + 1)) (by show 100 + 40 * k + 40 + 0 + 0 ≤ _; omega) (by show 5000 + 400 * k + 400 + 0 + 0 ≤ _; omega) ?_
    exact ih ca9 ad (sL d 0) tk st of9 w8 _ _ _ hC8 hM8 hI9 h78 hG (by rw [hca9]; exact lv_sub hl [0, 3, 4, 5, 6] rfl)
