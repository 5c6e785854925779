/-! GongCycles: tone -/
theorem isPlace_v {d : gDt} {i : Nat} {y : Int32} (hOk : mOk d) (hi : i < nP d) : (m_isPlace d (nI i) y = 0) ↔ f_has (lenN d i) y = 0 := by
  have := hOk.1.2.1
  unfold m_isPlace
  rw [if_neg (isPiece_s hOk hi), nI_clamp (by omega)]
  show (if f_has (lenN d i) y = 0 then (0 : Int32) else 1) = 0 ↔ _
  by_cases h : f_has (lenN d i) y = 0
  · rw [if_pos h]; exact ⟨fun _ => h, fun _ => rfl⟩
  · rw [if_neg h]; exact ⟨fun g => absurd g (by decide), fun g => absurd g h⟩
theorem isPlace_np {d : gDt} {x y : Int32} (h : m_isPiece d x = 0) : m_isPlace d x y = 0 := by unfold m_isPlace; rw [if_pos h]
theorem has_s {n : Nat} {y : Int32} (hn : n < 2 ^ 30) (r : ¬ f_has n y = 0) : ∃ j, j < n ∧ y = nI (j + 1) ∧ (y - 1).toNatClampNeg = j := by
  obtain ⟨h1, h2⟩ := f_has_ne r
  obtain ⟨j, a, b, rfl⟩ := nI_bet (a := 1) (b := n) (by omega) (Int32.not_lt.mp h1) (Int32.not_lt.mp h2) (by omega)
  refine ⟨j - 1, by omega, by rw [show j - 1 + 1 = j by omega], ?_⟩
  have e : (nI j - 1).toInt = (j : Int) - 1 := nI_prd (by omega)
  show (nI j - 1).toInt.toNat = j - 1
  omega
theorem tone_ix {d : gDt} {i j : Nat} (hOk : mOk d) (hi : i < nP d) (hj : j < lenN d i) : ((65 : Int32) * nI i + nI (j + 1)).toNatClampNeg = 65 * i + j + 1 := by
  have := hOk.1.2.1
  have := (mOk_len hOk hi).2.2.1
  rw [m_ix (by omega) (by omega), nI_clamp (by omega)]
  omega
theorem at_tone {d : gDt} {i : Nat} {y : Int32} {f : Nat → Int32} (hOk : mOk d) (hi : i < nP d) (hf : ∀ j, j < lenN d i → f j = d 3 (65 * i + j + 1)) (r : ¬ f_has (lenN d i) y = 0) : f_at (lenN d i) f y = d 3 ((65 : Int32) * nI i + y).toNatClampNeg := by
  have := (mOk_len hOk hi).2.2.1
  obtain ⟨j, hj, e, g⟩ := has_s (by omega) r
  unfold f_at
  rw [if_neg r, g, hf j hj, e, tone_ix hOk hi hj]
theorem put_tone {d : gDt} {i : Nat} {y z : Int32} {f : Nat → Int32} (hOk : mOk d) (hi : i < nP d) (hf : ∀ j, j < lenN d i → f j = d 3 (65 * i + j + 1)) (r : ¬ f_has (lenN d i) y = 0) : (∀ j, j < lenN d i → f_put (lenN d i) f y z j = upd (d 3) ((65 : Int32) * nI i + y).toNatClampNeg z (65 * i + j + 1)) ∧ (∀ i' j, i' ≠ i → j < 64 → upd (d 3) ((65 : Int32) * nI i + y).toNatClampNeg z (65 * i' + j + 1) = d 3 (65 * i' + j + 1)) := by
  have := (mOk_len hOk hi).2.2.1
  obtain ⟨q, hq, e, g⟩ := has_s (by omega) r
  unfold f_put
  rw [if_neg r, g, e, tone_ix hOk hi hq]
  constructor
  · intro j hj
    by_cases hjq : j = q
    · subst hjq; rw [upd_e, upd_e]
    · rw [upd_n hjq, upd_n (by omega)]; exact hf j hj
  · intro i' j h1 h2
    exact upd_n (by omega)
theorem cW_tone {tc : Nat → ClassId} {w w' : gW} {ca : Nat → Nat} {d : gDt} {tk : Int64} {st : Nat → Int64} {i : Nat} {y z : Int32} {f : Nat → Int32} (hC : cW tc w ca d tk st) (hOk : mOk d) (hi : i < nP d) (hf : ∀ j, j < lenN d i → f j = d 3 (65 * i + j + 1)) (r : ¬ f_has (lenN d i) y = 0) (ew : w' = gU w (30 + i) (ca (30 + i), .inl (tc 0, lenN d i, .inl (f_put (lenN d i) f y z)))) : cW tc w' ca (gD d 3 (upd (d 3) ((65 : Int32) * nI i + y).toNatClampNeg z)) tk st := by
  obtain ⟨⟨z0, z1, z2, z5, z6⟩, ⟨cy, ge, sf, z3, z4, hsf, hce, hcy⟩, zP, zS, zU, zV, zN1, zN2, zN3⟩ := hC
  have b1 := hOk.1.2.1
  have b2 := hOk.1.2.2
  obtain ⟨pt1, pt2⟩ := put_tone (z := z) hOk hi hf r
  refine ⟨⟨by rw [gU_at ew (by omega)]; exact z0, by rw [gU_at ew (by omega)]; exact z1, by rw [gU_at ew (by omega)]; exact z2, by rw [gU_at ew (by omega)]; exact z5, by rw [gU_at ew (by omega)]; exact z6⟩, ⟨cy, ge, sf, by rw [gU_at ew (by omega)]; exact z3, by rw [gU_at ew (by omega)]; exact z4, hsf, hce, hcy⟩, ?_, ?_, ?_, ?_, ?_, ?_, ?_⟩
  · intro j hj
    have hj : j < nP d := hj
    by_cases hji : j = i
    · subst hji
      obtain ⟨a, b, f, e, g⟩ := zP j hj
      exact ⟨by rw [gU_at ew (by omega)]; exact a, by rw [gU_at ew (by omega)]; exact b, _, gU_s ew, pt1⟩
    · obtain ⟨a, b, f, e, g⟩ := zP j hj
      have := (mOk_len hOk hj).2.2.1
      exact ⟨by rw [gU_at ew (by omega)]; exact a, by rw [gU_at ew (by omega)]; exact b, f, by rw [gU_at ew (by omega)]; exact e, fun q hq => (g q hq).trans (pt2 j q hji (by have : q < lenN d j := hq; omega)).symm⟩
  · intro j hj
    exact cS_fr (zS j hj) (gU_at ew (by omega)) (gU_at ew (by omega)) rfl rfl
  · intro u hu
    have hu : u < nU d := hu
    exact cU_fr (zU u hu) (gU_at ew (by omega)) (gU_at ew (by omega)) rfl rfl
  · intro u j hu hj hk
    obtain ⟨a1, a2, a3⟩ := zV u j hu hj hk
    exact ⟨a1, a2, cV_fr a3 (gU_at ew (by omega)) (gU_at ew (by omega)) rfl rfl⟩
  · intro j h1 h9
    have h1 : nP d ≤ j := h1
    rw [gU_at ew (by omega), gU_at ew (by omega), gU_at ew (by omega)]
    exact zN1 j h1 h9
  · intro u h1 h9
    rw [gU_at ew (by omega), gU_at ew (by omega)]
    exact zN2 u h1 h9
  · intro u j hu hj h9
    rw [gU_at ew (by omega), gU_at ew (by omega)]
    exact zN3 u j hu hj h9
abbrev rm_X5_tone : Room := { frames := 9, cells := 8, slots := 48, locals := 338 }
theorem nm_X5_tone : gNm yX5_tone 3 := ⟨by decide +kernel, by decide +kernel, by decide +kernel⟩
set_option maxHeartbeats 4000000 in
set_option maxRecDepth 100000 in
theorem c_X5_tone (l : Launch) (hfl : l.stackTraces = false) (D : va_G) (tc : Nat → ClassId) (A : Nat → Prop) (w : gW) (ca : Nat → Nat) (d : gDt) (tk : Int64) (st : Nat → Int64) (x : Int32) (y : Int32) (z : Int32) (hC : cW tc w ca d tk st) (hOk : mOk d) : gM l yX5_tone cX5_tone 5 (some .int) rm_X5_tone D tc A [.ref (ca 0), .int x, .int y, .int z] w (fun v w' => ¬ m_go (ga_tone d x y z) (gb_tone d x y z) (gc_tone d x y z) = 0 ∧ v = some (.int (d 3 (65 * x + y).toNatClampNeg)) ∧ (∃ ca' : Nat → Nat, ca' 0 = ca 0 ∧ cW tc w' ca' (sL (gD d 3 (upd (d 3) (65 * x + y).toNatClampNeg z)) 0) tk st) ∧ gK w w') (c_thr gIO gIA gIS (ga_tone d x y z) (gb_tone d x y z) (gc_tone d x y z)) := by
  refine gM_of (by decide +kernel) (Nat.le_of_ble_eq_true rfl) ?_
  intro p e s m args below meth c ls Q hQ hE hG hr hnt hnm hl
  have hx := hE.1
  have hb := hE.2.1
  have hl : lv_has ls 5 [(0, .ref (ca 0)), (1, .int x), (2, .int y), (3, .int z)] := hl
  obtain ⟨⟨z0, z1, z2, z5, z6⟩, ⟨cy, ge, sf, z3, z4, hsf, hce, hcy⟩, zP, zS, zU, zV, zN⟩ := id hC
  refine lv_aload_n hx hb dX5_tone_0 rfl (lv_at hl 0 rfl) ?_
  refine lv_iload_n hx hb dX5_tone_1 rfl (lv_at hl 1 rfl) ?_
  refine g_callV (rest := []) (As := [.int x]) hE hG hl.1 (c_X5_pieceAt l hfl D tc A w ca d tk st x hC hOk) z0 rfl mw2_57 mw2_59 mws_2 mw1_1 mw2_60 rfl nm_X5_pieceAt ⟨⟨Nat.le_of_ble_eq_true rfl, Nat.le_of_ble_eq_true rfl⟩, Nat.le_of_ble_eq_true rfl, Nat.le_of_ble_eq_true rfl⟩ rfl rfl (Nat.le_of_ble_eq_true rfl) dX5_tone_2 (by subst hQ; exact g_out hE hnt rfl (fun E h => Or.inl ⟨isPlace_np h.1, h.2⟩) (Nat.le_of_ble_eq_true rfl) (Nat.le_of_ble_eq_true rfl)) ?_
  intro v9 w9 H locs h9 hG
  obtain ⟨e8, i_1, hi_1, hxi_1, e9⟩ := h9
  rw [e9]; clear e9
  rw [e8] at hG; clear e8
  show W p l e _ s m args below meth c H locs _ _ _ (F0 m 5 ls [.ref (ca (10 + i_1))])
  subst hxi_1
  have b9 := hOk.1.2.1
  have b8 := (mOk_len hOk hi_1).2.2.1
  obtain ⟨q1, q2, qf, q3, q4⟩ := zP i_1 hi_1
  refine g_getN hE hG q1 rfl inG2 0 (by decide) (List.mem_of_getElem? (i := 8) rfl) rfl dX5_tone_5 ?_
  refine lv_astore (lv' := [(4, .ref (ca (20 + i_1))), (0, .ref (ca 0)), (1, .int (nI i_1)), (2, .int y), (3, .int z)]) hx hb dX5_tone_8 hl (by decide) rfl (fun ls hl => ?_)
  refine lv_aload hx hb dX5_tone_10 (lv_at hl 0 rfl) ?_
  refine lv_iload_n hx hb dX5_tone_12 rfl (lv_at hl 3 rfl) ?_
  refine g_callS (rest := []) (As := [.ref (ca (20 + i_1)), .int y]) hE hG hl.1 (c_X5_refuseNoPlace l hfl D tc A w (20 + i_1) (30 + i_1) (ca (20 + i_1)) (ca (30 + i_1)) (lenN d i_1) qf y q2 q3 ) mw2_62 mw2_63 mw1_1 mw2_64 nm_X5_refuseNoPlace ⟨⟨Nat.le_of_ble_eq_true rfl, Nat.le_of_ble_eq_true rfl⟩, Nat.le_of_ble_eq_true rfl, Nat.le_of_ble_eq_true rfl⟩ rfl rfl (Nat.le_of_ble_eq_true rfl) dX5_tone_13 (by subst hQ; exact g_out hE hnt rfl (fun E h => Or.inl ⟨(isPlace_v hOk hi_1).mpr h.1, h.2⟩) (Nat.le_of_ble_eq_true rfl) (Nat.le_of_ble_eq_true rfl)) ?_
  intro v9 w9 H locs h9 hG
  obtain ⟨e9, e8, r_2⟩ := h9
  rw [e8] at hG; rw [e9]; clear e8 e9
  show W p l e _ s m args below meth c H locs _ _ _ (F0 m 16 ls [])
  refine lv_iload_n hx hb dX5_tone_16 rfl (lv_at hl 4 rfl) ?_
  refine g_callS (rest := []) (As := [.int z]) hE hG hl.1 (c_X5_refuseNoToneOrRest l hfl D tc A w z ) mw2_70 mw2_71 mw1_1 mw2_72 nm_X5_refuseNoToneOrRest ⟨⟨Nat.le_of_ble_eq_true rfl, Nat.le_of_ble_eq_true rfl⟩, Nat.le_of_ble_eq_true rfl, Nat.le_of_ble_eq_true rfl⟩ rfl rfl (Nat.le_of_ble_eq_true rfl) dX5_tone_17 (by subst hQ; exact g_out hE hnt rfl (fun E h => Or.inr (Or.inl ⟨fun g => r_2 ((isPlace_v hOk hi_1).mp g), h.1, h.2⟩)) (Nat.le_of_ble_eq_true rfl) (Nat.le_of_ble_eq_true rfl)) ?_
  intro v9 w9 H locs h9 hG
  obtain ⟨e9, e8, r_3⟩ := h9
  rw [e8] at hG; rw [e9]; clear e8 e9
  show W p l e _ s m args below meth c H locs _ _ _ (F0 m 20 ls [])
  refine lv_aload hx hb dX5_tone_20 (lv_at hl 0 rfl) ?_
  refine lv_iload_n hx hb dX5_tone_22 rfl (lv_at hl 3 rfl) ?_
  refine lv_iload_n hx hb dX5_tone_23 rfl (lv_at hl 4 rfl) ?_
  refine g_callV (rest := []) (As := [.int y, .int z]) hE hG hl.1 (c_X1_put l hfl D tc A w (20 + i_1) (30 + i_1) (ca (20 + i_1)) (ca (30 + i_1)) (lenN d i_1) qf y z q2 q3 (by omega)) q2 rfl mw2_74 mw2_75 mw2_76 mw1_11 mw2_77 rfl nm_X1_put ⟨⟨Nat.le_of_ble_eq_true rfl, Nat.le_of_ble_eq_true rfl⟩, Nat.le_of_ble_eq_true rfl, Nat.le_of_ble_eq_true rfl⟩ rfl rfl (Nat.le_of_ble_eq_true rfl) dX5_tone_24 (g_no) ?_
  intro v9 w9 H locs h9 hG
  obtain ⟨e9, ew_4⟩ := h9
  rw [e9]; clear e9; revert w9; intro w_4 hG ew_4
  show W p l e _ s m args below meth c H locs _ _ _ (F0 m 27 ls [.int (f_at (lenN d i_1) qf y)])
  have h_5 : w_4 0 = some ((ca 0), .inr (5, [.ref (ca 1), .int (d 9 0), .ref (ca 2), .int (d 9 1), .ref (ca 3), .int (d 9 10), .int (d 9 11), .ref (ca 5), .int (d 9 12), .ref (ca 6), .int (d 9 13)])) := gU_n ew_4 (by omega) z0
  have h_6 : w_4 1 = some ((ca 1), .inl (tc 0, 4, .inl (d 0))) := gU_n ew_4 (by omega) z1
  have h_7 : w_4 2 = some ((ca 2), .inl (tc 3, 6, .inr (.inr (.inr (.inr (c_pf ca (nP d))))))) := gU_n ew_4 (by omega) z2
  have h_8 : w_4 5 = some ((ca 5), .inl (tc 4, 4, .inr (.inr (.inr (.inr (c_sf ca)))))) := gU_n ew_4 (by omega) z5
  have h_9 : w_4 6 = some ((ca 6), .inl (tc 5, 8, .inr (.inr (.inr (.inr (c_uf ca (nU d))))))) := gU_n ew_4 (by omega) z6
  have h_10 : w_4 3 = some ((ca 3), .inr (4, [.int (d 9 3), .int cy, .int (d 9 4), .int (d 9 5), .int (d 9 6), .int (d 9 7), .int (d 9 8), .int (d 9 2), .int ge, .long tk, .ref (ca 4)])) := gU_n ew_4 (by omega) z3
  have h_11 : w_4 4 = some ((ca 4), .inl (tc 1, 4, .inr (.inl sf))) := gU_n ew_4 (by omega) z4
  have h_12 : w_4 (10 + i_1) = some ((ca (10 + i_1)), .inr (2, [.ref (ca (20 + i_1)), .int (d 2 i_1)])) := gU_n ew_4 (by omega) q1
  have h_13 : w_4 (20 + i_1) = some ((ca (20 + i_1)), .inr (1, [.ref (ca (30 + i_1))])) := gU_n ew_4 (by omega) q2
  have h_14 : w_4 (30 + i_1) = some ((ca (30 + i_1)), .inl (tc 0, (lenN d i_1), .inl (f_put (lenN d i_1) qf y z))) := gU_s ew_4
  subst hQ
  exact g_iret hE hG hr (Nat.le_of_ble_eq_true rfl) (Nat.le_of_ble_eq_true rfl) dX5_tone_27 ⟨m_go_i (fun g => r_2 ((isPlace_v hOk hi_1).mp g)) r_3 one_nz, congrArg (fun a => some (Value.int a)) (at_tone hOk hi_1 q4 r_2), ⟨ca, rfl, cW_l (cW_tone hC hOk hi_1 q4 r_2 ew_4) 0⟩, gK_u (gK_rf w) ew_4 (by omega)⟩
