/-! GongCycles: sounds, now -/
theorem at_s {d : gDt} {i y : Nat} {f : Nat → Int32} (hOk : mOk d) (hi : i < nP d) (hf : ∀ j, j < lenN d i → f j = d 3 (65 * i + j + 1)) (h1 : 1 ≤ y) (h2 : y ≤ lenN d i) : f_at (lenN d i) f (nI y) = d 3 (65 * i + y) := by
  have := (mOk_len hOk hi).2.2.1
  have e1 : ¬ nI y < 1 := by rw [show (1 : Int32) = nI 1 from rfl, nI_ltI (by omega) (by omega)]; omega
  have e2 : ¬ nI (lenN d i) < nI y := by rw [nI_ltI (by omega) (by omega)]; omega
  have r : ¬ f_has (lenN d i) (nI y) = 0 := by unfold f_has; rw [if_neg e1, if_neg e2]; decide
  have g : (nI y - 1).toNatClampNeg = y - 1 := by
    have e : (nI y - 1).toInt = (y : Int) - 1 := nI_prd (by omega)
    show (nI y - 1).toInt.toNat = y - 1
    omega
  unfold f_at
  rw [if_neg r, g, hf (y - 1) (by omega)]
  exact congrArg (d 3) (by omega)
theorem snd_go {d : gDt} {i : Nat} {f : Nat → Int32} (hOk : mOk d) (hi : i < nP d) (hf : ∀ j, j < lenN d i → f j = d 3 (65 * i + j + 1)) : ∀ (k y : Nat), k ≤ lenN d i → 1 ≤ y → y ≤ lenN d i → f_snd (lenN d i) f k (nI y) = d 3 (65 * i + m_pos (d 3) i (lenN d i) k y) ∨ (f_snd (lenN d i) f k (nI y) = 0 ∧ m_pos (d 3) i (lenN d i) k y = (if k < y then y - k else lenN d i + y - k)) := by
  have hL := (mOk_len hOk hi).2.2.1
  have hL4 := (mOk_len hOk hi).2.1
  intro k
  induction k with
  | zero => intro y _ h1 h2; exact Or.inr ⟨rfl, by rw [if_pos (by omega)]; rfl⟩
  | succ k ih =>
    intro y hk h1 h2
    show (if f_at (lenN d i) f (nI y) = 0 then f_snd (lenN d i) f k (if nI y ≤ 1 then nI (lenN d i) else nI y - 1) else f_at (lenN d i) f (nI y)) = d 3 (65 * i + (if d 3 (65 * i + y) = 0 then m_pos (d 3) i (lenN d i) k (if y = 1 then lenN d i else y - 1) else y)) ∨ ((if f_at (lenN d i) f (nI y) = 0 then f_snd (lenN d i) f k (if nI y ≤ 1 then nI (lenN d i) else nI y - 1) else f_at (lenN d i) f (nI y)) = 0 ∧ (if d 3 (65 * i + y) = 0 then m_pos (d 3) i (lenN d i) k (if y = 1 then lenN d i else y - 1) else y) = (if k + 1 < y then y - (k + 1) else lenN d i + y - (k + 1)))
    rw [at_s hOk hi hf h1 h2]
    by_cases hz : d 3 (65 * i + y) = 0
    · rw [if_pos hz, if_pos hz]
      by_cases hy : y = 1
      · subst hy
        rw [if_pos (by decide), if_pos rfl]
        rcases ih (lenN d i) (by omega) (by omega) (by omega) with h | ⟨ha, hb⟩
        · exact Or.inl h
        · refine Or.inr ⟨ha, ?_⟩
          rw [hb, if_pos (by omega), if_neg (by omega)]
          omega
      · have e1 : ¬ nI y ≤ 1 := by rw [show (1 : Int32) = nI 1 from rfl, nI_leI (by omega) (by omega)]; omega
        have e2 : nI y - 1 = nI (y - 1) := by
          apply Int32.toInt_inj.mp
          rw [nI_prd (by omega), nI_toInt (by omega)]
          omega
        rw [if_neg e1, if_neg hy, e2]
        rcases ih (y - 1) (by omega) (by omega) (by omega) with h | ⟨ha, hb⟩
        · exact Or.inl h
        · refine Or.inr ⟨ha, ?_⟩
          rw [hb]
          by_cases hq : k < y - 1
          · rw [if_pos hq, if_pos (by omega)]; omega
          · rw [if_neg hq, if_neg (by omega)]; omega
    · rw [if_neg hz, if_neg hz]
      exact Or.inl rfl
theorem snd_eq {d : gDt} {i y : Nat} {f : Nat → Int32} (hOk : mOk d) (hi : i < nP d) (hf : ∀ j, j < lenN d i → f j = d 3 (65 * i + j + 1)) (h1 : 1 ≤ y) (h2 : y ≤ lenN d i) : f_snd (lenN d i) f (lenN d i) (nI y) = m_snd d i y := by
  have hL4 := (mOk_len hOk hi).2.1
  rcases snd_go hOk hi hf (lenN d i) y (by omega) h1 h2 with h | ⟨ha, hb⟩
  · exact h
  · unfold m_snd
    rw [if_neg (by omega)] at hb
    rw [hb, show lenN d i + y - lenN d i = y by omega, ha]
    by_cases hz : d 3 (65 * i + y) = 0
    · exact hz.symm
    · exfalso
      apply hz
      rw [← ha]
      obtain ⟨q, hq⟩ : ∃ q, lenN d i = q + 1 := ⟨lenN d i - 1, by omega⟩
      have e := at_s hOk hi hf h1 h2
      generalize lenN d i = n at *
      subst hq
      show _ = (if f_at (q + 1) f (nI y) = 0 then _ else f_at (q + 1) f (nI y))
      rw [e, if_neg hz]
theorem snd_x {d : gDt} {i : Nat} {y : Int32} {f : Nat → Int32} (hOk : mOk d) (hi : i < nP d) (hf : ∀ j, j < lenN d i → f j = d 3 (65 * i + j + 1)) (r : ¬ f_has (lenN d i) y = 0) : f_snd (lenN d i) f (lenN d i) y = m_snd d (nI i).toNatClampNeg y.toNatClampNeg := by
  have := (mOk_len hOk hi).2.2.1
  have := hOk.1.2.1
  obtain ⟨j, hj, e, -⟩ := has_s (by omega) r
  rw [e, nI_clamp (by omega), nI_clamp (by omega)]
  exact snd_eq hOk hi hf (by omega) (by omega)
abbrev rm_X5_sounds : Room := { frames := 9, cells := 8, slots := 48, locals := 338 }
theorem nm_X5_sounds : gNm yX5_sounds 2 := ⟨by decide +kernel, by decide +kernel, by decide +kernel⟩
set_option maxHeartbeats 4000000 in
set_option maxRecDepth 100000 in
theorem c_X5_sounds (l : Launch) (hfl : l.stackTraces = false) (D : va_G) (tc : Nat → ClassId) (A : Nat → Prop) (w : gW) (ca : Nat → Nat) (d : gDt) (tk : Int64) (st : Nat → Int64) (x : Int32) (y : Int32) (hC : cW tc w ca d tk st) (hOk : mOk d) : gM l yX5_sounds cX5_sounds 4 (some .int) rm_X5_sounds D tc A [.ref (ca 0), .int x, .int y] w (fun v w' => ¬ m_go (ga_sounds d x y) (gb_sounds d x y) (gc_sounds d x y) = 0 ∧ v = some (.int (m_snd d x.toNatClampNeg y.toNatClampNeg)) ∧ (∃ ca' : Nat → Nat, ca' 0 = ca 0 ∧ cW tc w' ca' (sL d 0) tk st) ∧ gK w w') (c_thr gIO gIS gIS (ga_sounds d x y) (gb_sounds d x y) (gc_sounds d x y)) := by
  refine gM_of (by decide +kernel) (Nat.le_of_ble_eq_true rfl) ?_
  intro p e s m args below meth c ls Q hQ hE hG hr hnt hnm hl
  have hx := hE.1
  have hb := hE.2.1
  have hl : lv_has ls 4 [(0, .ref (ca 0)), (1, .int x), (2, .int y)] := hl
  obtain ⟨⟨z0, z1, z2, z5, z6⟩, ⟨cy, ge, sf, z3, z4, hsf, hce, hcy⟩, zP, zS, zU, zV, zN⟩ := id hC
  refine lv_aload_n hx hb dX5_sounds_0 rfl (lv_at hl 0 rfl) ?_
  refine lv_iload_n hx hb dX5_sounds_1 rfl (lv_at hl 1 rfl) ?_
  refine g_callV (rest := []) (As := [.int x]) hE hG hl.1 (c_X5_pieceAt l hfl D tc A w ca d tk st x hC hOk) z0 rfl mw2_57 mw2_59 mws_2 mw1_1 mw2_60 rfl nm_X5_pieceAt ⟨⟨Nat.le_of_ble_eq_true rfl, Nat.le_of_ble_eq_true rfl⟩, Nat.le_of_ble_eq_true rfl, Nat.le_of_ble_eq_true rfl⟩ rfl rfl (Nat.le_of_ble_eq_true rfl) dX5_sounds_2 (by subst hQ; exact g_out hE hnt rfl (fun E h => Or.inl ⟨isPlace_np h.1, h.2⟩) (Nat.le_of_ble_eq_true rfl) (Nat.le_of_ble_eq_true rfl)) ?_
  intro v9 w9 H locs h9 hG
  obtain ⟨e8, i_1, hi_1, hxi_1, e9⟩ := h9
  rw [e9]; clear e9
  rw [e8] at hG; clear e8
  show W p l e _ s m args below meth c H locs _ _ _ (F0 m 5 ls [.ref (ca (10 + i_1))])
  subst hxi_1
  have b9 := hOk.1.2.1
  have b8 := (mOk_len hOk hi_1).2.2.1
  obtain ⟨q1, q2, qf, q3, q4⟩ := zP i_1 hi_1
  refine g_getN hE hG q1 rfl inG2 0 (by decide) (List.mem_of_getElem? (i := 8) rfl) rfl dX5_sounds_5 ?_
  refine lv_astore_n (lv' := [(3, .ref (ca (20 + i_1))), (0, .ref (ca 0)), (1, .int (nI i_1)), (2, .int y)]) hx hb dX5_sounds_8 rfl hl (by decide) rfl (fun ls hl => ?_)
  refine lv_aload_n hx hb dX5_sounds_9 rfl (lv_at hl 0 rfl) ?_
  refine lv_iload_n hx hb dX5_sounds_10 rfl (lv_at hl 3 rfl) ?_
  refine g_callS (rest := []) (As := [.ref (ca (20 + i_1)), .int y]) hE hG hl.1 (c_X5_refuseNoPlace l hfl D tc A w (20 + i_1) (30 + i_1) (ca (20 + i_1)) (ca (30 + i_1)) (lenN d i_1) qf y q2 q3 ) mw2_62 mw2_63 mw1_1 mw2_64 nm_X5_refuseNoPlace ⟨⟨Nat.le_of_ble_eq_true rfl, Nat.le_of_ble_eq_true rfl⟩, Nat.le_of_ble_eq_true rfl, Nat.le_of_ble_eq_true rfl⟩ rfl rfl (Nat.le_of_ble_eq_true rfl) dX5_sounds_11 (by subst hQ; exact g_out hE hnt rfl (fun E h => Or.inl ⟨(isPlace_v hOk hi_1).mpr h.1, h.2⟩) (Nat.le_of_ble_eq_true rfl) (Nat.le_of_ble_eq_true rfl)) ?_
  intro v9 w9 H locs h9 hG
  obtain ⟨e9, e8, r_2⟩ := h9
  rw [e8] at hG; rw [e9]; clear e8 e9
  show W p l e _ s m args below meth c H locs _ _ _ (F0 m 14 ls [])
  refine lv_aload_n hx hb dX5_sounds_14 rfl (lv_at hl 0 rfl) ?_
  refine lv_iload_n hx hb dX5_sounds_15 rfl (lv_at hl 3 rfl) ?_
  refine g_callV (rest := []) (As := [.int y]) hE hG hl.1 (c_X1_soundAt l hfl D tc A w (20 + i_1) (30 + i_1) (ca (20 + i_1)) (ca (30 + i_1)) (lenN d i_1) qf y q2 q3 (by omega)) q2 rfl mw3_73 mw3_74 mw3_75 mw1_11 mw3_76 rfl nm_X1_soundAt ⟨⟨Nat.le_of_ble_eq_true rfl, Nat.le_of_ble_eq_true rfl⟩, Nat.le_of_ble_eq_true rfl, Nat.le_of_ble_eq_true rfl⟩ rfl rfl (Nat.le_of_ble_eq_true rfl) dX5_sounds_16 (g_no) ?_
  intro v9 w9 H locs h9 hG
  obtain ⟨e9, f9⟩ := h9
  rw [f9] at hG; rw [e9]; clear e9 f9
  show W p l e _ s m args below meth c H locs _ _ _ (F0 m 19 ls [.int (f_snd (lenN d i_1) qf (lenN d i_1) y)])
  subst hQ
  exact g_iret hE hG hr (Nat.le_of_ble_eq_true rfl) (Nat.le_of_ble_eq_true rfl) dX5_sounds_19 ⟨m_go_i (fun g => r_2 ((isPlace_v hOk hi_1).mp g)) one_nz one_nz, congrArg (fun a => some (Value.int a)) (snd_x hOk hi_1 q4 r_2), ⟨ca, rfl, cW_l hC 0⟩, gK_rf w⟩
