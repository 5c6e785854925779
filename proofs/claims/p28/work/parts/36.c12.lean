/-! GongCycles: versions -/
theorem ix_ver2 {u i j : Nat} (hu : u < 8) (hi : i < 6) (hj : j < 64) : ((65 : Int32) * (6 * nI u + nI i) + nI (j + 1)).toNatClampNeg = 65 * (6 * u + i) + j + 1 := by
  rw [ix_ver hu hi (by omega), nI_clamp (by omega)]
  omega
theorem kn_u {d : gDt} {u i : Nat} (hu : u < 8) (hi : i < 6) : m_kn d (nI u) (nI i) = if d 7 (6 * u + i) = 0 then 0 else 1 := by
  unfold m_kn
  rw [if_neg (fun h => by have := congrArg Int32.toInt h; rw [nI_toInt (by omega), show (-1 : Int32).toInt = -1 by decide] at this; omega), ix_knI hu hi, nI_clamp (by omega)]
theorem kn_h {d : gDt} {o x : Int32} (h : o = -1) : m_kn d o x = 1 := by unfold m_kn; rw [if_pos h]
theorem tof_h {d : gDt} {o : Int32} {i y : Nat} (h : o = -1) : m_tof d o i (y + 1) = d 3 (65 * i + y + 1) := by unfold m_tof; rw [if_pos h]; rfl
theorem tof_u {d : gDt} {u i y : Nat} (hu : u < 8) : m_tof d (nI u) i (y + 1) = d 8 (65 * (6 * u + i) + y + 1) := by
  unfold m_tof
  rw [if_neg (fun h => by have := congrArg Int32.toInt h; rw [nI_toInt (by omega), show (-1 : Int32).toInt = -1 by decide] at this; omega), nI_clamp (by omega)]
  rfl
theorem unl_eq {d : gDt} {x o : Int32} {i : Nat} {f g : Nat → Int32} : ∀ n, (∀ j, j < n → f j = m_tof d x i (j + 1)) → (∀ j, j < n → g j = m_tof d o i (j + 1)) → f_unl f g n = m_unl d x o i n := by
  intro n
  induction n with
  | zero => intro _ _; rfl
  | succ n ih =>
    intro h1 h2
    show (if f n = g n then f_unl f g n else f_unl f g n + 1) = (if m_tof d x i (n + 1) = m_tof d o i (n + 1) then m_unl d x o i n else m_unl d x o i n + 1)
    rw [ih (fun j hj => h1 j (by omega)) (fun j hj => h2 j (by omega)), h1 n (by omega), h2 n (by omega)]
theorem isPlayer_s {d : gDt} {i : Nat} (hOk : mOk d) (hi : i < nU d) : ¬ m_isPlayer d (nI i) = 0 := by
  unfold m_isPlayer
  have := hOk.1.2.2
  rw [hOk.2.1.2.2]
  refine f_in_ok (nI_pos (by omega)) ?_
  rw [Int32.lt_iff_toInt_lt, nI_prd (by omega), nI_toInt (by omega)]
  omega
theorem and1_01 (x : Int32) : x &&& 1 = 0 ∨ x &&& 1 = 1 := by
  have h : (x &&& 1).toBitVec = BitVec.setWidth 32 (BitVec.ofBool (x.toBitVec.getLsbD 0)) := by
    rw [Int32.toBitVec_and]; exact BitVec.and_one_eq_setWidth_ofBool_getLsbD
  cases hb : x.toBitVec.getLsbD 0 with
  | true => right; apply Int32.toBitVec_inj.mp; rw [h, hb]; rfl
  | false => left; apply Int32.toBitVec_inj.mp; rw [h, hb]; rfl
theorem and1_s {x : Int32} : (x &&& 1 = 1) ↔ ¬ (x &&& 1 = 0) := by
  rcases and1_01 x with h | h <;> rw [h] <;> decide
theorem wI_eq (a s c : Int32) : ∀ k, f_wI a s c k = m_wI a s c k := by
  intro k
  induction k with
  | zero => rfl
  | succ k ih =>
    show (if (a >>> (nI k &&& 31)) &&& 1 = 0 then f_wI a s c k else f_wI a s c k ||| ((1 : Int32) <<< ((s ||| ((1 : Int32) <<< (nI k &&& 31))) &&& 31))) = m_wI a s c k ||| (if (a >>> (nI k &&& 31)) &&& 1 = 1 then (1 : Int32) <<< ((s ||| ((1 : Int32) <<< (nI k &&& 31))) &&& 31) else 0)
    rw [ih]
    by_cases h : (a >>> (nI k &&& 31)) &&& 1 = 0
    · rw [if_pos h, if_neg (fun g => and1_s.mp g h), Int32.or_zero]
    · rw [if_neg h, if_pos (and1_s.mpr h)]
theorem wO_eq (g a : Int32) : ∀ k, f_wO g a k = m_wO g a k := by
  intro k
  induction k with
  | zero => rfl
  | succ k ih =>
    show (if (g >>> (nI k &&& 31)) &&& 1 = 0 then f_wO g a k else f_wI a (nI k) (f_wO g a k) 4) = (if (g >>> (nI k &&& 31)) &&& 1 = 1 then m_wI a (nI k) (m_wO g a k) 4 else m_wO g a k)
    rw [ih, wI_eq]
    by_cases h : (g >>> (nI k &&& 31)) &&& 1 = 0
    · rw [if_pos h, if_neg (fun g => and1_s.mp g h)]
    · rw [if_neg h, if_pos (and1_s.mpr h)]
theorem bc_eq : ∀ k : Nat, k < 16 → f_bc (nI k) = m_bits k := by decide +kernel
theorem mp_eq (g : Int32) : ∀ k, k ≤ 16 → f_mp g k = m_most g k := by
  intro k
  induction k with
  | zero => intro _; rfl
  | succ k ih =>
    intro hk
    show (if (g >>> (nI k &&& 31)) &&& 1 = 0 then f_mp g k else (if f_mp g k < f_bc (nI k) then f_bc (nI k) else f_mp g k)) = (if (g >>> (nI k &&& 31)) &&& 1 = 1 then (if m_bits k ≤ m_most g k then m_most g k else m_bits k) else m_most g k)
    rw [ih (by omega), bc_eq k (by omega)]
    by_cases h : (g >>> (nI k &&& 31)) &&& 1 = 0
    · rw [if_pos h, if_neg (fun g => and1_s.mp g h)]
    · rw [if_neg h, if_pos (and1_s.mpr h)]
      by_cases h2 : m_bits k ≤ m_most g k
      · rw [if_pos h2, if_neg (Int32.not_lt.mpr h2)]
      · rw [if_neg h2, if_pos (Int32.not_le.mp h2)]
abbrev rm_X5_melodyOf : Room := { frames := 7, cells := 2, slots := 12, locals := 266 }
theorem nm_X5_melodyOf : gNm yX5_melodyOf 2 := ⟨by decide +kernel, by decide +kernel, by decide +kernel⟩
set_option maxHeartbeats 4000000 in
set_option maxRecDepth 100000 in
theorem c_X5_melodyOf (l : Launch) (hfl : l.stackTraces = false) (D : va_G) (tc : Nat → ClassId) (A : Nat → Prop) (w : gW) (ca : Nat → Nat) (d : gDt) (tk : Int64) (st : Nat → Int64) (o : Int32) (x : Int32) (hC : cW tc w ca d tk st) (hOk : mOk d) : gM l yX5_melodyOf cX5_melodyOf 4 (some (.object "GongCycles$Melody")) rm_X5_melodyOf D tc A [.ref (ca 0), .int o, .int x] w (fun v w' => w' = w ∧ ∃ i, i < nP d ∧ x = nI i ∧ ((o = -1 ∧ v = some (.ref (ca (20 + i)))) ∨ (¬ o = -1 ∧ ∃ u, u < nU d ∧ o = nI u ∧ v = some (va_rf (if d 7 (6 * u + i) = 0 then none else some (ca (100 + 10 * u + i))))))) (fun E => (m_isPiece d x = 0 ∨ (¬ o = -1 ∧ m_isPlayer d o = 0)) ∧ E = gIO) := by
  refine gM_of (by decide +kernel) (Nat.le_of_ble_eq_true rfl) ?_
  intro p e s m args below meth c ls Q hQ hE hG hr hnt hnm hl
  have hx := hE.1
  have hb := hE.2.1
  have hl : lv_has ls 4 [(0, .ref (ca 0)), (1, .int o), (2, .int x)] := hl
  obtain ⟨⟨z0, z1, z2, z5, z6⟩, ⟨cy, ge, sf, z3, z4, hsf, hce, hcy⟩, zP, zS, zU, zV, zN⟩ := id hC
  refine lv_aload_n hx hb dX5_melodyOf_0 rfl (lv_at hl 0 rfl) ?_
  refine lv_iload_n hx hb dX5_melodyOf_1 rfl (lv_at hl 2 rfl) ?_
  refine g_callV (rest := []) (As := [.int x]) hE hG hl.1 (c_X5_pieceAt l hfl D tc A w ca d tk st x hC hOk) z0 rfl mw2_57 mw2_59 mws_2 mw1_1 mw2_60 rfl nm_X5_pieceAt ⟨⟨Nat.le_of_ble_eq_true rfl, Nat.le_of_ble_eq_true rfl⟩, Nat.le_of_ble_eq_true rfl, Nat.le_of_ble_eq_true rfl⟩ rfl rfl (Nat.le_of_ble_eq_true rfl) dX5_melodyOf_2 (by subst hQ; exact g_out hE hnt rfl (fun E h => ⟨Or.inl h.1, h.2⟩) (Nat.le_of_ble_eq_true rfl) (Nat.le_of_ble_eq_true rfl)) ?_
  intro v9 w9 H locs h9 hG
  obtain ⟨e8, i_1, hi_1, hxi_1, e9⟩ := h9
  rw [e9]; clear e9
  rw [e8] at hG; clear e8
  show W p l e _ s m args below meth c H locs _ _ _ (F0 m 5 ls [.ref (ca (10 + i_1))])
  subst hxi_1
  have b6a : i_1 < 6 := by have := hOk.1.2.1; omega
  have b8a := (mOk_len hOk hi_1).2.2.1
  obtain ⟨p1a, p2a, pfa, p3a, p4a⟩ := zP i_1 hi_1
  refine lv_astore_n (lv' := [(3, .ref (ca (10 + i_1))), (0, .ref (ca 0)), (1, .int o), (2, .int (nI i_1))]) hx hb dX5_melodyOf_5 rfl hl (by decide) rfl (fun ls hl => ?_)
  refine lv_iload_n hx hb dX5_melodyOf_6 rfl (lv_at hl 2 rfl) ?_
  refine lv_iconst (v := (-1)) hx hb dX5_melodyOf_7 (by decide) ?_
  refine lv_icmp_ne (tgt := 18) hx hb dX5_melodyOf_8 (by decide) (fun c_2 => ?_) (fun c_2 => ?_)
  · skip
    refine lv_aload_n hx hb dX5_melodyOf_18 rfl (lv_at hl 1 rfl) ?_
    refine lv_iload_n hx hb dX5_melodyOf_19 rfl (lv_at hl 2 rfl) ?_
    refine g_callV (rest := []) (As := [.int o]) hE hG hl.1 (c_X5_playerAt l hfl D tc A w ca d tk st o hC hOk) z0 rfl mw3_17 mw3_19 mws_8 mw1_1 mw3_20 rfl nm_X5_playerAt ⟨⟨Nat.le_of_ble_eq_true rfl, Nat.le_of_ble_eq_true rfl⟩, Nat.le_of_ble_eq_true rfl, Nat.le_of_ble_eq_true rfl⟩ rfl rfl (Nat.le_of_ble_eq_true rfl) dX5_melodyOf_20 (by subst hQ; exact g_out hE hnt rfl (fun E h => ⟨Or.inr ⟨c_2, h.1⟩, h.2⟩) (Nat.le_of_ble_eq_true rfl) (Nat.le_of_ble_eq_true rfl)) ?_
    intro v9 w9 H locs h9 hG
    obtain ⟨e8, i_3, hi_3, hxi_3, e9⟩ := h9
    rw [e9]; clear e9
    rw [e8] at hG; clear e8
    show W p l e _ s m args below meth c H locs _ _ _ (F0 m 23 ls [.ref (ca (40 + i_3))])
    subst hxi_3
    have hu8b : i_3 < 8 := by have := hOk.1.2.2; omega
    obtain ⟨q1b, qgb, q3b, q4b⟩ := zU i_3 hi_3
    refine lv_iload_n hx hb dX5_melodyOf_23 rfl (lv_at hl 3 rfl) ?_
    refine g_callV (rest := []) (As := [.int (nI i_1)]) hE hG hl.1 (c_X3_versionOf l hfl D tc A w (40 + i_3) (50 + i_3) (ca (40 + i_3)) (ca (50 + i_3)) (d 6 i_3) qgb (nI i_1) q1b q3b ) q1b rfl mw3_22 mw3_23 mw3_24 mw1_13 mw3_25 rfl nm_X3_versionOf ⟨⟨Nat.le_of_ble_eq_true rfl, Nat.le_of_ble_eq_true rfl⟩, Nat.le_of_ble_eq_true rfl, Nat.le_of_ble_eq_true rfl⟩ rfl rfl (Nat.le_of_ble_eq_true rfl) dX5_melodyOf_24 (g_no) ?_
    intro v9 w9 H locs h9 hG
    obtain ⟨e9, f9⟩ := h9
    rw [f9] at hG; rw [e9]; clear e9 f9
    show W p l e _ s m args below meth c H locs _ _ _ (F0 m 27 ls [va_rf (f_ver qgb (nI i_1))])
    subst hQ
    exact g_aret hE hG hr (va_rf_or _) (Nat.le_of_ble_eq_true rfl) (Nat.le_of_ble_eq_true rfl) dX5_melodyOf_27 ⟨rfl, i_1, hi_1, rfl, Or.inr ⟨c_2, i_3, hi_3, rfl, by rw [f_ver_in b6a, q4b _ b6a]⟩⟩
  · skip
    refine lv_aload_n hx hb dX5_melodyOf_11 rfl (lv_at hl 0 rfl) ?_
    refine g_getN hE hG p1a rfl inG2 0 (by decide) (List.mem_of_getElem? (i := 8) rfl) rfl dX5_melodyOf_12 ?_
    refine lv_goto (tgt := 27) hx hb dX5_melodyOf_15 (by decide) ?_
    subst hQ
    exact g_aret hE hG hr (Or.inr ⟨_, rfl⟩) (Nat.le_of_ble_eq_true rfl) (Nat.le_of_ble_eq_true rfl) dX5_melodyOf_27 ⟨rfl, i_1, hi_1, rfl, Or.inl ⟨c_2, rfl⟩⟩
theorem unl_ga {d : gDt} {x o y : Int32} (hx : ¬ m_isPlayer d x = 0) (h : m_isPiece d y = 0 ∨ (¬ o = -1 ∧ m_isPlayer d o = 0)) : ga_unlike d x o y = 0 := by
  unfold ga_unlike
  rw [if_neg hx]
  rcases h with h | ⟨h1, h2⟩
  · rw [if_pos h]
    split
    · rfl
    · split <;> rfl
  · rw [if_neg h1, if_pos h2]
theorem unl_gb {d : gDt} {x o y : Int32} (hx : ¬ m_isPlayer d x = 0) (hy : ¬ m_isPiece d y = 0) (ho : o = -1 ∨ ¬ m_isPlayer d o = 0) : ¬ ga_unlike d x o y = 0 := by
  unfold ga_unlike
  rw [if_neg hx, if_neg hy]
  by_cases h : o = -1
  · rw [if_pos h]; decide
  · rw [if_neg h, if_neg (ho.resolve_left h)]; decide
abbrev rm_X5_unlike : Room := { frames := 9, cells := 8, slots := 48, locals := 338 }
theorem nm_X5_unlike : gNm yX5_unlike 3 := ⟨by decide +kernel, by decide +kernel, by decide +kernel⟩
set_option maxHeartbeats 4000000 in
set_option maxRecDepth 100000 in
theorem c_X5_unlike (l : Launch) (hfl : l.stackTraces = false) (D : va_G) (tc : Nat → ClassId) (A : Nat → Prop) (w : gW) (ca : Nat → Nat) (d : gDt) (tk : Int64) (st : Nat → Int64) (x : Int32) (o : Int32) (y : Int32) (hC : cW tc w ca d tk st) (hOk : mOk d) : gM l yX5_unlike cX5_unlike 7 (some .int) rm_X5_unlike D tc A [.ref (ca 0), .int x, .int o, .int y] w (fun v w' => ¬ m_go (ga_unlike d x o y) (gb_unlike d x o y) (gc_unlike d x o y) = 0 ∧ v = some (.int (m_unlike d x o y)) ∧ (∃ ca' : Nat → Nat, ca' 0 = ca 0 ∧ cW tc w' ca' (sL d 0) tk st) ∧ gK w w') (c_thr gIO gIS gIS (ga_unlike d x o y) (gb_unlike d x o y) (gc_unlike d x o y)) := by
  refine gM_of (by decide +kernel) (Nat.le_of_ble_eq_true rfl) ?_
  intro p e s m args below meth c ls Q hQ hE hG hr hnt hnm hl
  have hx := hE.1
  have hb := hE.2.1
  have hl : lv_has ls 7 [(0, .ref (ca 0)), (1, .int x), (2, .int o), (3, .int y)] := hl
  obtain ⟨⟨z0, z1, z2, z5, z6⟩, ⟨cy, ge, sf, z3, z4, hsf, hce, hcy⟩, zP, zS, zU, zV, zN⟩ := id hC
  refine lv_aload_n hx hb dX5_unlike_0 rfl (lv_at hl 0 rfl) ?_
  refine lv_iload_n hx hb dX5_unlike_1 rfl (lv_at hl 1 rfl) ?_
  refine g_callV (rest := []) (As := [.int x]) hE hG hl.1 (c_X5_playerAt l hfl D tc A w ca d tk st x hC hOk) z0 rfl mw3_17 mw3_19 mws_8 mw1_1 mw3_20 rfl nm_X5_playerAt ⟨⟨Nat.le_of_ble_eq_true rfl, Nat.le_of_ble_eq_true rfl⟩, Nat.le_of_ble_eq_true rfl, Nat.le_of_ble_eq_true rfl⟩ rfl rfl (Nat.le_of_ble_eq_true rfl) dX5_unlike_2 (by subst hQ; exact g_out hE hnt rfl (fun E h => Or.inl ⟨by unfold ga_unlike; rw [if_pos h.1], h.2⟩) (Nat.le_of_ble_eq_true rfl) (Nat.le_of_ble_eq_true rfl)) ?_
  intro v9 w9 H locs h9 hG
  obtain ⟨e8, i_1, hi_1, hxi_1, e9⟩ := h9
  rw [e9]; clear e9
  rw [e8] at hG; clear e8
  show W p l e _ s m args below meth c H locs _ _ _ (F0 m 5 ls [.ref (ca (40 + i_1))])
  subst hxi_1
  have hu8x : i_1 < 8 := by have := hOk.1.2.2; omega
  obtain ⟨q1x, qgx, q3x, q4x⟩ := zU i_1 hi_1
  refine lv_astore (lv' := [(4, .ref (ca (40 + i_1))), (0, .ref (ca 0)), (1, .int (nI i_1)), (2, .int o), (3, .int y)]) hx hb dX5_unlike_5 hl (by decide) rfl (fun ls hl => ?_)
  refine lv_aload_n hx hb dX5_unlike_7 rfl (lv_at hl 1 rfl) ?_
  refine lv_iload_n hx hb dX5_unlike_8 rfl (lv_at hl 3 rfl) ?_
  refine lv_iload_n hx hb dX5_unlike_9 rfl (lv_at hl 4 rfl) ?_
  refine g_callV (rest := []) (As := [.int o, .int y]) hE hG hl.1 (c_X5_melodyOf l hfl D tc A w ca d tk st o y hC hOk) z0 rfl mw3_31 mw3_33 mws_9 mw1_1 mw3_34 rfl nm_X5_melodyOf ⟨⟨Nat.le_of_ble_eq_true rfl, Nat.le_of_ble_eq_true rfl⟩, Nat.le_of_ble_eq_true rfl, Nat.le_of_ble_eq_true rfl⟩ rfl rfl (Nat.le_of_ble_eq_true rfl) dX5_unlike_10 (by subst hQ; exact g_out hE hnt rfl (fun E h => Or.inl ⟨unl_ga (isPlayer_s hOk hi_1) h.1, h.2⟩) (Nat.le_of_ble_eq_true rfl) (Nat.le_of_ble_eq_true rfl)) ?_
  intro v9 w9 H locs h9 hG
  obtain ⟨e8, i_2, hi_2, hxi_2, h9⟩ := h9
  rw [e8] at hG; clear e8
  subst hxi_2
  have b6p : i_2 < 6 := by have := hOk.1.2.1; omega
  have b8p := (mOk_len hOk hi_2).2.2.1
  obtain ⟨p1p, p2p, pfp, p3p, p4p⟩ := zP i_2 hi_2
  rcases h9 with ⟨ho9, e9⟩ | ⟨ho9, u9, hu9, hou9, e9⟩
  · skip
    rw [e9]; clear e9
    show W p l e _ s m args below meth c H locs _ _ _ (F0 m 13 ls [.ref (ca (20 + i_2))])
    have hsr : ∀ j, j < lenN d i_2 → pfp j = m_tof d o i_2 (j + 1) := fun j hj => (p4p j hj).trans (tof_h ho9).symm
    have hkn9 : ¬ m_kn d o (nI i_2) = 0 := by rw [kn_h ho9]; decide
    refine lv_astore (lv' := [(5, .ref (ca (20 + i_2))), (4, .ref (ca (40 + i_1))), (0, .ref (ca 0)), (1, .int (nI i_1)), (2, .int o), (3, .int (nI i_2))]) hx hb dX5_unlike_13 hl (by decide) rfl (fun ls hl => ?_)
    refine lv_aload hx hb dX5_unlike_15 (lv_at hl 1 rfl) ?_
    refine lv_iload_n hx hb dX5_unlike_17 rfl (lv_at hl 5 rfl) ?_
    refine g_callV (rest := []) (As := [.int (nI i_2)]) hE hG hl.1 (c_X3_versionOf l hfl D tc A w (40 + i_1) (50 + i_1) (ca (40 + i_1)) (ca (50 + i_1)) (d 6 i_1) qgx (nI i_2) q1x q3x ) q1x rfl mw3_22 mw3_23 mw3_24 mw1_13 mw3_25 rfl nm_X3_versionOf ⟨⟨Nat.le_of_ble_eq_true rfl, Nat.le_of_ble_eq_true rfl⟩, Nat.le_of_ble_eq_true rfl, Nat.le_of_ble_eq_true rfl⟩ rfl rfl (Nat.le_of_ble_eq_true rfl) dX5_unlike_18 (g_no) ?_
    intro v9 w9 H locs h9 hG
    obtain ⟨e9, f9⟩ := h9
    rw [f9] at hG; rw [e9]; clear e9 f9
    show W p l e _ s m args below meth c H locs _ _ _ (F0 m 21 ls [va_rf (f_ver qgx (nI i_2))])
    rw [f_ver_in b6p, q4x _ b6p]
    by_cases hk7 : d 7 (6 * i_1 + i_2) = 0
    · skip
      rw [if_pos hk7]
      show W p l e _ s m args below meth c _ _ _ _ _ (F0 m 21 ls [.null])
      have hkn7 : m_kn d (nI i_1) (nI i_2) = 0 := by rw [kn_u hu8x b6p, if_pos hk7]
      refine lv_astoreN (lv' := [(6, .null), (5, .ref (ca (20 + i_2))), (4, .ref (ca (40 + i_1))), (0, .ref (ca 0)), (1, .int (nI i_1)), (2, .int o), (3, .int (nI i_2))]) hx hb dX5_unlike_21 hl (by decide) rfl (fun ls hl => ?_)
      refine lv_aloadN hx hb dX5_unlike_23 (lv_at hl 0 rfl) ?_
      refine lv_ifnullN (tgt := 33) hx hb dX5_unlike_25 (by decide) ?_
      refine lv_iconst (v := (-1)) hx hb dX5_unlike_33 (by decide) ?_
      subst hQ
      exact g_iret hE hG hr (Nat.le_of_ble_eq_true rfl) (Nat.le_of_ble_eq_true rfl) dX5_unlike_34 ⟨m_go_i (unl_gb (isPlayer_s hOk hi_1) (isPiece_s hOk hi_2) (Or.inl ho9)) one_nz one_nz, (by unfold m_unlike; rw [if_pos hkn7]), ⟨ca, rfl, cW_l hC 0⟩, gK_rf w⟩
    · skip
      rw [if_neg hk7]
      show W p l e _ s m args below meth c _ _ _ _ _ (F0 m 21 ls [.ref (ca (100 + 10 * i_1 + i_2))])
      have hkn7 : ¬ m_kn d (nI i_1) (nI i_2) = 0 := by rw [kn_u hu8x b6p, if_neg hk7]; decide
      obtain ⟨-, -, t1, tg, t3, t4⟩ := zV i_1 i_2 hu8x b6p hk7
      have htr : ∀ j, j < lenN d i_2 → tg j = m_tof d (nI i_1) i_2 (j + 1) := fun j hj => (t4 j hj).trans (tof_u hu8x).symm
      refine lv_astore (lv' := [(6, .ref (ca (100 + 10 * i_1 + i_2))), (5, .ref (ca (20 + i_2))), (4, .ref (ca (40 + i_1))), (0, .ref (ca 0)), (1, .int (nI i_1)), (2, .int o), (3, .int (nI i_2))]) hx hb dX5_unlike_21 hl (by decide) rfl (fun ls hl => ?_)
      refine lv_aload hx hb dX5_unlike_23 (lv_at hl 0 rfl) ?_
      refine lv_ifnull hx hb dX5_unlike_25 ?_
      refine lv_aload hx hb dX5_unlike_28 (lv_at hl 1 rfl) ?_
      refine lv_ifnonnull (tgt := 35) hx hb dX5_unlike_30 (by decide) ?_
      refine lv_aload hx hb dX5_unlike_35 (lv_at hl 0 rfl) ?_
      refine lv_aload hx hb dX5_unlike_37 (lv_at hl 1 rfl) ?_
      refine g_callV (rest := []) (As := [.ref (ca (20 + i_2))]) hE hG hl.1 (c_X1_placesUnlike l hfl D tc A w (100 + 10 * i_1 + i_2) (200 + 10 * i_1 + i_2) (ca (100 + 10 * i_1 + i_2)) (ca (200 + 10 * i_1 + i_2)) (lenN d i_2) tg (20 + i_2) (30 + i_2) (ca (20 + i_2)) (ca (30 + i_2)) pfp t1 t3 p2p p3p (by omega)) t1 rfl mw3_160 mw3_161 mw3_162 mw1_11 mw3_163 rfl nm_X1_placesUnlike ⟨⟨Nat.le_of_ble_eq_true rfl, Nat.le_of_ble_eq_true rfl⟩, Nat.le_of_ble_eq_true rfl, Nat.le_of_ble_eq_true rfl⟩ rfl rfl (Nat.le_of_ble_eq_true rfl) dX5_unlike_39 (g_no) ?_
      intro v9 w9 H locs h9 hG
      obtain ⟨e9, f9⟩ := h9
      rw [f9] at hG; rw [e9]; clear e9 f9
      show W p l e _ s m args below meth c H locs _ _ _ (F0 m 42 ls [.int (nI (f_unl tg pfp (lenN d i_2)))])
      subst hQ
      exact g_iret hE hG hr (Nat.le_of_ble_eq_true rfl) (Nat.le_of_ble_eq_true rfl) dX5_unlike_42 ⟨m_go_i (unl_gb (isPlayer_s hOk hi_1) (isPiece_s hOk hi_2) (Or.inl ho9)) one_nz one_nz, (by unfold m_unlike; rw [if_neg hkn7, if_neg hkn9, nI_clamp (by omega), unl_eq _ htr hsr]), ⟨ca, rfl, cW_l hC 0⟩, gK_rf w⟩
  · skip
    have hu89 : u9 < 8 := by have := hOk.1.2.2; omega
    by_cases hk9 : d 7 (6 * u9 + i_2) = 0
    · skip
      rw [e9, if_pos hk9]; clear e9
      show W p l e _ s m args below meth c H locs _ _ _ (F0 m 13 ls [.null])
      have hkn9 : m_kn d o (nI i_2) = 0 := by rw [hou9, kn_u hu89 b6p, if_pos hk9]
      refine lv_astoreN (lv' := [(5, .null), (4, .ref (ca (40 + i_1))), (0, .ref (ca 0)), (1, .int (nI i_1)), (2, .int o), (3, .int (nI i_2))]) hx hb dX5_unlike_13 hl (by decide) rfl (fun ls hl => ?_)
      refine lv_aload hx hb dX5_unlike_15 (lv_at hl 1 rfl) ?_
      refine lv_iload_n hx hb dX5_unlike_17 rfl (lv_at hl 5 rfl) ?_
      refine g_callV (rest := []) (As := [.int (nI i_2)]) hE hG hl.1 (c_X3_versionOf l hfl D tc A w (40 + i_1) (50 + i_1) (ca (40 + i_1)) (ca (50 + i_1)) (d 6 i_1) qgx (nI i_2) q1x q3x ) q1x rfl mw3_22 mw3_23 mw3_24 mw1_13 mw3_25 rfl nm_X3_versionOf ⟨⟨Nat.le_of_ble_eq_true rfl, Nat.le_of_ble_eq_true rfl⟩, Nat.le_of_ble_eq_true rfl, Nat.le_of_ble_eq_true rfl⟩ rfl rfl (Nat.le_of_ble_eq_true rfl) dX5_unlike_18 (g_no) ?_
      intro v9 w9 H locs h9 hG
      obtain ⟨e9, f9⟩ := h9
      rw [f9] at hG; rw [e9]; clear e9 f9
      show W p l e _ s m args below meth c H locs _ _ _ (F0 m 21 ls [va_rf (f_ver qgx (nI i_2))])
      rw [f_ver_in b6p, q4x _ b6p]
      by_cases hk7 : d 7 (6 * i_1 + i_2) = 0
      · skip
        rw [if_pos hk7]
        show W p l e _ s m args below meth c _ _ _ _ _ (F0 m 21 ls [.null])
        have hkn7 : m_kn d (nI i_1) (nI i_2) = 0 := by rw [kn_u hu8x b6p, if_pos hk7]
        refine lv_astoreN (lv' := [(6, .null), (5, .null), (4, .ref (ca (40 + i_1))), (0, .ref (ca 0)), (1, .int (nI i_1)), (2, .int o), (3, .int (nI i_2))]) hx hb dX5_unlike_21 hl (by decide) rfl (fun ls hl => ?_)
        refine lv_aloadN hx hb dX5_unlike_23 (lv_at hl 0 rfl) ?_
        refine lv_ifnullN (tgt := 33) hx hb dX5_unlike_25 (by decide) ?_
        refine lv_iconst (v := (-1)) hx hb dX5_unlike_33 (by decide) ?_
        subst hQ
        exact g_iret hE hG hr (Nat.le_of_ble_eq_true rfl) (Nat.le_of_ble_eq_true rfl) dX5_unlike_34 ⟨m_go_i (unl_gb (isPlayer_s hOk hi_1) (isPiece_s hOk hi_2) (Or.inr (by rw [hou9]; exact isPlayer_s hOk hu9))) one_nz one_nz, (by unfold m_unlike; rw [if_pos hkn7]), ⟨ca, rfl, cW_l hC 0⟩, gK_rf w⟩
      · skip
        rw [if_neg hk7]
        show W p l e _ s m args below meth c _ _ _ _ _ (F0 m 21 ls [.ref (ca (100 + 10 * i_1 + i_2))])
        have hkn7 : ¬ m_kn d (nI i_1) (nI i_2) = 0 := by rw [kn_u hu8x b6p, if_neg hk7]; decide
        obtain ⟨-, -, t1, tg, t3, t4⟩ := zV i_1 i_2 hu8x b6p hk7
        have htr : ∀ j, j < lenN d i_2 → tg j = m_tof d (nI i_1) i_2 (j + 1) := fun j hj => (t4 j hj).trans (tof_u hu8x).symm
        refine lv_astore (lv' := [(6, .ref (ca (100 + 10 * i_1 + i_2))), (5, .null), (4, .ref (ca (40 + i_1))), (0, .ref (ca 0)), (1, .int (nI i_1)), (2, .int o), (3, .int (nI i_2))]) hx hb dX5_unlike_21 hl (by decide) rfl (fun ls hl => ?_)
        refine lv_aload hx hb dX5_unlike_23 (lv_at hl 0 rfl) ?_
        refine lv_ifnull hx hb dX5_unlike_25 ?_
        refine lv_aloadN hx hb dX5_unlike_28 (lv_at hl 1 rfl) ?_
        refine lv_ifnonnullN hx hb dX5_unlike_30 ?_
        refine lv_iconst (v := (-1)) hx hb dX5_unlike_33 (by decide) ?_
        subst hQ
        exact g_iret hE hG hr (Nat.le_of_ble_eq_true rfl) (Nat.le_of_ble_eq_true rfl) dX5_unlike_34 ⟨m_go_i (unl_gb (isPlayer_s hOk hi_1) (isPiece_s hOk hi_2) (Or.inr (by rw [hou9]; exact isPlayer_s hOk hu9))) one_nz one_nz, (by unfold m_unlike; rw [if_neg hkn7, if_pos hkn9]), ⟨ca, rfl, cW_l hC 0⟩, gK_rf w⟩
    · skip
      rw [e9, if_neg hk9]; clear e9
      show W p l e _ s m args below meth c H locs _ _ _ (F0 m 13 ls [.ref (ca (100 + 10 * u9 + i_2))])
      have hkn9 : ¬ m_kn d o (nI i_2) = 0 := by rw [hou9, kn_u hu89 b6p, if_neg hk9]; decide
      obtain ⟨-, -, s1, sg, s3, s4⟩ := zV u9 i_2 hu89 b6p hk9
      have hsr : ∀ j, j < lenN d i_2 → sg j = m_tof d o i_2 (j + 1) := fun j hj => (s4 j hj).trans (by rw [hou9]; exact (tof_u hu89).symm)
      refine lv_astore (lv' := [(5, .ref (ca (100 + 10 * u9 + i_2))), (4, .ref (ca (40 + i_1))), (0, .ref (ca 0)), (1, .int (nI i_1)), (2, .int o), (3, .int (nI i_2))]) hx hb dX5_unlike_13 hl (by decide) rfl (fun ls hl => ?_)
      refine lv_aload hx hb dX5_unlike_15 (lv_at hl 1 rfl) ?_
      refine lv_iload_n hx hb dX5_unlike_17 rfl (lv_at hl 5 rfl) ?_
      refine g_callV (rest := []) (As := [.int (nI i_2)]) hE hG hl.1 (c_X3_versionOf l hfl D tc A w (40 + i_1) (50 + i_1) (ca (40 + i_1)) (ca (50 + i_1)) (d 6 i_1) qgx (nI i_2) q1x q3x ) q1x rfl mw3_22 mw3_23 mw3_24 mw1_13 mw3_25 rfl nm_X3_versionOf ⟨⟨Nat.le_of_ble_eq_true rfl, Nat.le_of_ble_eq_true rfl⟩, Nat.le_of_ble_eq_true rfl, Nat.le_of_ble_eq_true rfl⟩ rfl rfl (Nat.le_of_ble_eq_true rfl) dX5_unlike_18 (g_no) ?_
      intro v9 w9 H locs h9 hG
      obtain ⟨e9, f9⟩ := h9
      rw [f9] at hG; rw [e9]; clear e9 f9
      show W p l e _ s m args below meth c H locs _ _ _ (F0 m 21 ls [va_rf (f_ver qgx (nI i_2))])
      rw [f_ver_in b6p, q4x _ b6p]
      by_cases hk7 : d 7 (6 * i_1 + i_2) = 0
      · skip
        rw [if_pos hk7]
        show W p l e _ s m args below meth c _ _ _ _ _ (F0 m 21 ls [.null])
        have hkn7 : m_kn d (nI i_1) (nI i_2) = 0 := by rw [kn_u hu8x b6p, if_pos hk7]
        refine lv_astoreN (lv' := [(6, .null), (5, .ref (ca (100 + 10 * u9 + i_2))), (4, .ref (ca (40 + i_1))), (0, .ref (ca 0)), (1, .int (nI i_1)), (2, .int o), (3, .int (nI i_2))]) hx hb dX5_unlike_21 hl (by decide) rfl (fun ls hl => ?_)
        refine lv_aloadN hx hb dX5_unlike_23 (lv_at hl 0 rfl) ?_
        refine lv_ifnullN (tgt := 33) hx hb dX5_unlike_25 (by decide) ?_
        refine lv_iconst (v := (-1)) hx hb dX5_unlike_33 (by decide) ?_
        subst hQ
        exact g_iret hE hG hr (Nat.le_of_ble_eq_true rfl) (Nat.le_of_ble_eq_true rfl) dX5_unlike_34 ⟨m_go_i (unl_gb (isPlayer_s hOk hi_1) (isPiece_s hOk hi_2) (Or.inr (by rw [hou9]; exact isPlayer_s hOk hu9))) one_nz one_nz, (by unfold m_unlike; rw [if_pos hkn7]), ⟨ca, rfl, cW_l hC 0⟩, gK_rf w⟩
      · skip
        rw [if_neg hk7]
        show W p l e _ s m args below meth c _ _ _ _ _ (F0 m 21 ls [.ref (ca (100 + 10 * i_1 + i_2))])
        have hkn7 : ¬ m_kn d (nI i_1) (nI i_2) = 0 := by rw [kn_u hu8x b6p, if_neg hk7]; decide
        obtain ⟨-, -, t1, tg, t3, t4⟩ := zV i_1 i_2 hu8x b6p hk7
        have htr : ∀ j, j < lenN d i_2 → tg j = m_tof d (nI i_1) i_2 (j + 1) := fun j hj => (t4 j hj).trans (tof_u hu8x).symm
        refine lv_astore (lv' := [(6, .ref (ca (100 + 10 * i_1 + i_2))), (5, .ref (ca (100 + 10 * u9 + i_2))), (4, .ref (ca (40 + i_1))), (0, .ref (ca 0)), (1, .int (nI i_1)), (2, .int o), (3, .int (nI i_2))]) hx hb dX5_unlike_21 hl (by decide) rfl (fun ls hl => ?_)
        refine lv_aload hx hb dX5_unlike_23 (lv_at hl 0 rfl) ?_
        refine lv_ifnull hx hb dX5_unlike_25 ?_
        refine lv_aload hx hb dX5_unlike_28 (lv_at hl 1 rfl) ?_
        refine lv_ifnonnull (tgt := 35) hx hb dX5_unlike_30 (by decide) ?_
        refine lv_aload hx hb dX5_unlike_35 (lv_at hl 0 rfl) ?_
        refine lv_aload hx hb dX5_unlike_37 (lv_at hl 1 rfl) ?_
        refine g_callV (rest := []) (As := [.ref (ca (100 + 10 * u9 + i_2))]) hE hG hl.1 (c_X1_placesUnlike l hfl D tc A w (100 + 10 * i_1 + i_2) (200 + 10 * i_1 + i_2) (ca (100 + 10 * i_1 + i_2)) (ca (200 + 10 * i_1 + i_2)) (lenN d i_2) tg (100 + 10 * u9 + i_2) (200 + 10 * u9 + i_2) (ca (100 + 10 * u9 + i_2)) (ca (200 + 10 * u9 + i_2)) sg t1 t3 s1 s3 (by omega)) t1 rfl mw3_160 mw3_161 mw3_162 mw1_11 mw3_163 rfl nm_X1_placesUnlike ⟨⟨Nat.le_of_ble_eq_true rfl, Nat.le_of_ble_eq_true rfl⟩, Nat.le_of_ble_eq_true rfl, Nat.le_of_ble_eq_true rfl⟩ rfl rfl (Nat.le_of_ble_eq_true rfl) dX5_unlike_39 (g_no) ?_
        intro v9 w9 H locs h9 hG
        obtain ⟨e9, f9⟩ := h9
        rw [f9] at hG; rw [e9]; clear e9 f9
        show W p l e _ s m args below meth c H locs _ _ _ (F0 m 42 ls [.int (nI (f_unl tg sg (lenN d i_2)))])
        subst hQ
        exact g_iret hE hG hr (Nat.le_of_ble_eq_true rfl) (Nat.le_of_ble_eq_true rfl) dX5_unlike_42 ⟨m_go_i (unl_gb (isPlayer_s hOk hi_1) (isPiece_s hOk hi_2) (Or.inr (by rw [hou9]; exact isPlayer_s hOk hu9))) one_nz one_nz, (by unfold m_unlike; rw [if_neg hkn7, if_neg hkn9, nI_clamp (by omega), unl_eq _ htr hsr]), ⟨ca, rfl, cW_l hC 0⟩, gK_rf w⟩
theorem at_ver {d : gDt} {u i : Nat} {y : Int32} {f : Nat → Int32} (hOk : mOk d) (hu : u < 8) (hi : i < nP d) (hf : ∀ j, j < lenN d i → f j = d 8 (65 * (6 * u + i) + j + 1)) (r : ¬ f_has (lenN d i) y = 0) : f_at (lenN d i) f y = d 8 ((65 : Int32) * (6 * nI u + nI i) + y).toNatClampNeg := by
  have := (mOk_len hOk hi).2.2.1
  have := hOk.1.2.1
  obtain ⟨j, hj, e, g⟩ := has_s (by omega) r
  unfold f_at
  rw [if_neg r, g, hf j hj, e, ix_ver2 hu (by omega) (by omega)]
theorem put_ver {d : gDt} {u i : Nat} {y z : Int32} {f : Nat → Int32} (hOk : mOk d) (hu : u < 8) (hi : i < nP d) (hf : ∀ j, j < lenN d i → f j = d 8 (65 * (6 * u + i) + j + 1)) (r : ¬ f_has (lenN d i) y = 0) : (∀ j, j < lenN d i → f_put (lenN d i) f y z j = upd (d 8) ((65 : Int32) * (6 * nI u + nI i) + y).toNatClampNeg z (65 * (6 * u + i) + j + 1)) ∧ (∀ q j, q ≠ 6 * u + i → j < 64 → upd (d 8) ((65 : Int32) * (6 * nI u + nI i) + y).toNatClampNeg z (65 * q + j + 1) = d 8 (65 * q + j + 1)) := by
  have := (mOk_len hOk hi).2.2.1
  have := hOk.1.2.1
  obtain ⟨q, hq, e, g⟩ := has_s (by omega) r
  unfold f_put
  rw [if_neg r, g, e, ix_ver2 hu (by omega) (by omega)]
  constructor
  · intro j hj
    by_cases hjq : j = q
    · subst hjq; rw [upd_e, upd_e]
    · rw [upd_n hjq, upd_n (by omega)]; exact hf j hj
  · intro q j h1 h2
    exact upd_n (by omega)
theorem cW_ver {tc : Nat → ClassId} {w w' : gW} {ca : Nat → Nat} {d : gDt} {tk : Int64} {st : Nat → Int64} {u i : Nat} {f' V : Nat → Int32} (hC : cW tc w ca d tk st) (hOk : mOk d) (hu : u < 8) (hi : i < nP d) (hkn : ¬ d 7 (6 * u + i) = 0) (hf : ∀ j, j < lenN d i → f' j = V (65 * (6 * u + i) + j + 1)) (ho : ∀ q j, q ≠ 6 * u + i → j < 64 → V (65 * q + j + 1) = d 8 (65 * q + j + 1)) (ew : w' = gU w (200 + 10 * u + i) (ca (200 + 10 * u + i), .inl (tc 0, lenN d i, .inl f'))) : cW tc w' ca (gD d 8 V) tk st := by
  obtain ⟨⟨z0, z1, z2, z5, z6⟩, ⟨cy, ge, sf, z3, z4, hsf, hce, hcy⟩, zP, zS, zU, zV, zN1, zN2, zN3⟩ := hC
  have b1 := hOk.1.2.1
  have b2 := hOk.1.2.2
  refine ⟨⟨by rw [gU_at ew (by omega)]; exact z0, by rw [gU_at ew (by omega)]; exact z1, by rw [gU_at ew (by omega)]; exact z2, by rw [gU_at ew (by omega)]; exact z5, by rw [gU_at ew (by omega)]; exact z6⟩, ⟨cy, ge, sf, by rw [gU_at ew (by omega)]; exact z3, by rw [gU_at ew (by omega)]; exact z4, hsf, hce, hcy⟩, ?_, ?_, ?_, ?_, ?_, ?_, ?_⟩
  · intro j hj
    have hj : j < nP d := hj
    exact cP_fr (zP j hj) (gU_at ew (by omega)) (gU_at ew (by omega)) (gU_at ew (by omega)) rfl rfl rfl
  · intro j hj
    exact cS_fr (zS j hj) (gU_at ew (by omega)) (gU_at ew (by omega)) rfl rfl
  · intro v hv
    have hv : v < nU d := hv
    exact cU_fr (zU v hv) (gU_at ew (by omega)) (gU_at ew (by omega)) rfl rfl
  · intro v j hv hj hk
    obtain ⟨a1, a2, a, f, e, g⟩ := zV v j hv hj hk
    by_cases h : 6 * v + j = 6 * u + i
    · have hvu : v = u := by omega
      have hji : j = i := by omega
      subst hvu
      subst hji
      exact ⟨a1, a2, by rw [gU_at ew (by omega)]; exact a, f', gU_s ew, hf⟩
    · have := (mOk_len hOk a2).2.2.1
      exact ⟨a1, a2, by rw [gU_at ew (by omega)]; exact a, f, by rw [gU_at ew (by omega)]; exact e, fun q hq => (g q hq).trans (ho _ q h (by have : q < lenN d j := hq; omega)).symm⟩
  · intro j h1 h9
    have h1 : nP d ≤ j := h1
    rw [gU_at ew (by omega), gU_at ew (by omega), gU_at ew (by omega)]
    exact zN1 j h1 h9
  · intro v h1 h9
    rw [gU_at ew (by omega), gU_at ew (by omega)]
    exact zN2 v h1 h9
  · intro v j hv hj h9
    have n9 := zN3 v j hv hj h9
    refine ⟨by rw [gU_at ew (by omega)]; exact n9.1, ?_⟩
    by_cases h : 6 * v + j = 6 * u + i
    · exfalso
      have hvu : v = u := by omega
      have hji : j = i := by omega
      subst hvu
      subst hji
      exact hkn h9
    · rw [gU_at ew (by omega)]
      exact n9.2
theorem sl_ga {d : gDt} {x y z a : Int32} (h : m_isPlayer d x = 0 ∨ m_isPlace d y z = 0) : ga_slip d x y z a = 0 := by
  unfold ga_slip
  by_cases hx : m_isPlayer d x = 0
  · rw [if_pos hx]
  · rw [if_neg hx, if_pos (h.resolve_left hx)]
theorem sl_gb {d : gDt} {x y z a : Int32} (hx : ¬ m_isPlayer d x = 0) (hy : ¬ m_isPlace d y z = 0) : ¬ ga_slip d x y z a = 0 := by
  unfold ga_slip
  rw [if_neg hx, if_neg hy]
  decide
theorem sl_gc {d : gDt} {x y z a : Int32} (hx : ¬ m_isPlayer d x = 0) (hy : ¬ m_isPlace d y z = 0) : gc_slip d x y z a = (if m_kn d x y = 0 then 0 else 1) := by
  unfold gc_slip
  rw [if_neg hx, if_neg hy, if_neg one_nz]
abbrev rm_X5_slip : Room := { frames := 9, cells := 8, slots := 48, locals := 338 }
theorem nm_X5_slip : gNm yX5_slip 4 := ⟨by decide +kernel, by decide +kernel, by decide +kernel⟩
set_option maxHeartbeats 4000000 in
set_option maxRecDepth 100000 in
theorem c_X5_slip (l : Launch) (hfl : l.stackTraces = false) (D : va_G) (tc : Nat → ClassId) (A : Nat → Prop) (w : gW) (ca : Nat → Nat) (d : gDt) (tk : Int64) (st : Nat → Int64) (x : Int32) (y : Int32) (z : Int32) (a : Int32) (hC : cW tc w ca d tk st) (hOk : mOk d) : gM l yX5_slip cX5_slip 7 (some .int) rm_X5_slip D tc A [.ref (ca 0), .int x, .int y, .int z, .int a] w (fun v w' => ¬ m_go (ga_slip d x y z a) (gb_slip d x y z a) (gc_slip d x y z a) = 0 ∧ v = some (.int (d 8 (65 * (6 * x + y) + z).toNatClampNeg)) ∧ (∃ ca' : Nat → Nat, ca' 0 = ca 0 ∧ cW tc w' ca' (sL (gD d 8 (upd (d 8) (65 * (6 * x + y) + z).toNatClampNeg a)) 0) tk st) ∧ gK w w') (c_thr gIO gIA gIS (ga_slip d x y z a) (gb_slip d x y z a) (gc_slip d x y z a)) := by
  refine gM_of (by decide +kernel) (Nat.le_of_ble_eq_true rfl) ?_
  intro p e s m args below meth c ls Q hQ hE hG hr hnt hnm hl
  have hx := hE.1
  have hb := hE.2.1
  have hl : lv_has ls 7 [(0, .ref (ca 0)), (1, .int x), (2, .int y), (3, .int z), (4, .int a)] := hl
  obtain ⟨⟨z0, z1, z2, z5, z6⟩, ⟨cy, ge, sf, z3, z4, hsf, hce, hcy⟩, zP, zS, zU, zV, zN⟩ := id hC
  refine lv_aload_n hx hb dX5_slip_0 rfl (lv_at hl 0 rfl) ?_
  refine lv_iload_n hx hb dX5_slip_1 rfl (lv_at hl 1 rfl) ?_
  refine g_callV (rest := []) (As := [.int x]) hE hG hl.1 (c_X5_playerAt l hfl D tc A w ca d tk st x hC hOk) z0 rfl mw3_17 mw3_19 mws_8 mw1_1 mw3_20 rfl nm_X5_playerAt ⟨⟨Nat.le_of_ble_eq_true rfl, Nat.le_of_ble_eq_true rfl⟩, Nat.le_of_ble_eq_true rfl, Nat.le_of_ble_eq_true rfl⟩ rfl rfl (Nat.le_of_ble_eq_true rfl) dX5_slip_2 (by subst hQ; exact g_out hE hnt rfl (fun E h => Or.inl ⟨sl_ga (Or.inl h.1), h.2⟩) (Nat.le_of_ble_eq_true rfl) (Nat.le_of_ble_eq_true rfl)) ?_
  intro v9 w9 H locs h9 hG
  obtain ⟨e8, i_1, hi_1, hxi_1, e9⟩ := h9
  rw [e9]; clear e9
  rw [e8] at hG; clear e8
  show W p l e _ s m args below meth c H locs _ _ _ (F0 m 5 ls [.ref (ca (40 + i_1))])
  subst hxi_1
  have hu8x : i_1 < 8 := by have := hOk.1.2.2; omega
  obtain ⟨q1x, qgx, q3x, q4x⟩ := zU i_1 hi_1
  refine lv_astore (lv' := [(5, .ref (ca (40 + i_1))), (0, .ref (ca 0)), (1, .int (nI i_1)), (2, .int y), (3, .int z), (4, .int a)]) hx hb dX5_slip_5 hl (by decide) rfl (fun ls hl => ?_)
  refine lv_aload_n hx hb dX5_slip_7 rfl (lv_at hl 1 rfl) ?_
  refine lv_iload_n hx hb dX5_slip_8 rfl (lv_at hl 3 rfl) ?_
  refine g_callV (rest := []) (As := [.int y]) hE hG hl.1 (c_X5_pieceAt l hfl D tc A w ca d tk st y hC hOk) z0 rfl mw2_57 mw2_59 mws_2 mw1_1 mw2_60 rfl nm_X5_pieceAt ⟨⟨Nat.le_of_ble_eq_true rfl, Nat.le_of_ble_eq_true rfl⟩, Nat.le_of_ble_eq_true rfl, Nat.le_of_ble_eq_true rfl⟩ rfl rfl (Nat.le_of_ble_eq_true rfl) dX5_slip_9 (by subst hQ; exact g_out hE hnt rfl (fun E h => Or.inl ⟨sl_ga (Or.inr (isPlace_np h.1)), h.2⟩) (Nat.le_of_ble_eq_true rfl) (Nat.le_of_ble_eq_true rfl)) ?_
  intro v9 w9 H locs h9 hG
  obtain ⟨e8, i_2, hi_2, hxi_2, e9⟩ := h9
  rw [e9]; clear e9
  rw [e8] at hG; clear e8
  show W p l e _ s m args below meth c H locs _ _ _ (F0 m 12 ls [.ref (ca (10 + i_2))])
  subst hxi_2
  have b6p : i_2 < 6 := by have := hOk.1.2.1; omega
  have b8p := (mOk_len hOk hi_2).2.2.1
  obtain ⟨p1p, p2p, pfp, p3p, p4p⟩ := zP i_2 hi_2
  refine g_getN hE hG p1p rfl inG2 0 (by decide) (List.mem_of_getElem? (i := 8) rfl) rfl dX5_slip_12 ?_
  refine lv_iload_n hx hb dX5_slip_15 rfl (lv_at hl 4 rfl) ?_
  refine g_callS (rest := []) (As := [.ref (ca (20 + i_2)), .int z]) hE hG hl.1 (c_X5_refuseNoPlace l hfl D tc A w (20 + i_2) (30 + i_2) (ca (20 + i_2)) (ca (30 + i_2)) (lenN d i_2) pfp z p2p p3p ) mw2_62 mw2_63 mw1_1 mw2_64 nm_X5_refuseNoPlace ⟨⟨Nat.le_of_ble_eq_true rfl, Nat.le_of_ble_eq_true rfl⟩, Nat.le_of_ble_eq_true rfl, Nat.le_of_ble_eq_true rfl⟩ rfl rfl (Nat.le_of_ble_eq_true rfl) dX5_slip_16 (by subst hQ; exact g_out hE hnt rfl (fun E h => Or.inl ⟨sl_ga (Or.inr ((isPlace_v hOk hi_2).mpr h.1)), h.2⟩) (Nat.le_of_ble_eq_true rfl) (Nat.le_of_ble_eq_true rfl)) ?_
  intro v9 w9 H locs h9 hG
  obtain ⟨e9, e8, r_3⟩ := h9
  rw [e8] at hG; rw [e9]; clear e8 e9
  show W p l e _ s m args below meth c H locs _ _ _ (F0 m 19 ls [])
  refine lv_iload hx hb dX5_slip_19 (lv_at hl 5 rfl) ?_
  refine g_callS (rest := []) (As := [.int a]) hE hG hl.1 (c_X5_refuseNoToneOrRest l hfl D tc A w a ) mw2_70 mw2_71 mw1_1 mw2_72 nm_X5_refuseNoToneOrRest ⟨⟨Nat.le_of_ble_eq_true rfl, Nat.le_of_ble_eq_true rfl⟩, Nat.le_of_ble_eq_true rfl, Nat.le_of_ble_eq_true rfl⟩ rfl rfl (Nat.le_of_ble_eq_true rfl) dX5_slip_21 (by subst hQ; exact g_out hE hnt rfl (fun E h => Or.inr (Or.inl ⟨sl_gb (isPlayer_s hOk hi_1) (fun g => r_3 ((isPlace_v hOk hi_2).mp g)), h.1, h.2⟩)) (Nat.le_of_ble_eq_true rfl) (Nat.le_of_ble_eq_true rfl)) ?_
  intro v9 w9 H locs h9 hG
  obtain ⟨e9, e8, r_4⟩ := h9
  rw [e8] at hG; rw [e9]; clear e8 e9
  show W p l e _ s m args below meth c H locs _ _ _ (F0 m 24 ls [])
  refine lv_aload hx hb dX5_slip_24 (lv_at hl 0 rfl) ?_
  refine lv_iload_n hx hb dX5_slip_26 rfl (lv_at hl 3 rfl) ?_
  refine g_callV (rest := []) (As := [.int (nI i_2)]) hE hG hl.1 (c_X3_versionOf l hfl D tc A w (40 + i_1) (50 + i_1) (ca (40 + i_1)) (ca (50 + i_1)) (d 6 i_1) qgx (nI i_2) q1x q3x ) q1x rfl mw3_22 mw3_23 mw3_24 mw1_13 mw3_25 rfl nm_X3_versionOf ⟨⟨Nat.le_of_ble_eq_true rfl, Nat.le_of_ble_eq_true rfl⟩, Nat.le_of_ble_eq_true rfl, Nat.le_of_ble_eq_true rfl⟩ rfl rfl (Nat.le_of_ble_eq_true rfl) dX5_slip_27 (g_no) ?_
  intro v9 w9 H locs h9 hG
  obtain ⟨e9, f9⟩ := h9
  rw [f9] at hG; rw [e9]; clear e9 f9
  show W p l e _ s m args below meth c H locs _ _ _ (F0 m 30 ls [va_rf (f_ver qgx (nI i_2))])
  rw [f_ver_in b6p, q4x _ b6p]
  by_cases hk7 : d 7 (6 * i_1 + i_2) = 0
  · skip
    rw [if_pos hk7]
    show W p l e _ s m args below meth c _ _ _ _ _ (F0 m 30 ls [.null])
    have hkn7 : m_kn d (nI i_1) (nI i_2) = 0 := by rw [kn_u hu8x b6p, if_pos hk7]
    refine lv_astoreN (lv' := [(6, .null), (5, .ref (ca (40 + i_1))), (0, .ref (ca 0)), (1, .int (nI i_1)), (2, .int (nI i_2)), (3, .int z), (4, .int a)]) hx hb dX5_slip_30 hl (by decide) rfl (fun ls hl => ?_)
    refine lv_aloadN hx hb dX5_slip_32 (lv_at hl 0 rfl) ?_
    refine lv_ifnonnullN hx hb dX5_slip_34 ?_
    subst hQ
    exact g_thr (E := gIS) hfl hE hG hl.1 hnt gTgIS (List.mem_of_getElem? (i := 20) rfl) dX5_slip_37 dX5_slip_40 dX5_slip_41 dX5_slip_43 dX5_slip_46 (by refine ⟨?_, ?_, ?_, ?_, ?_, ?_⟩ <;> exact Nat.le_of_ble_eq_true rfl) rfl (Or.inr (Or.inr ⟨sl_gb (isPlayer_s hOk hi_1) (fun g => r_3 ((isPlace_v hOk hi_2).mp g)), r_4, (sl_gc (isPlayer_s hOk hi_1) (fun g => r_3 ((isPlace_v hOk hi_2).mp g))).trans (if_pos hkn7), rfl⟩))
  · skip
    rw [if_neg hk7]
    show W p l e _ s m args below meth c _ _ _ _ _ (F0 m 30 ls [.ref (ca (100 + 10 * i_1 + i_2))])
    have hkn7 : ¬ m_kn d (nI i_1) (nI i_2) = 0 := by rw [kn_u hu8x b6p, if_neg hk7]; decide
    obtain ⟨-, -, t1, tg, t3, t4⟩ := zV i_1 i_2 hu8x b6p hk7
    have htr : ∀ j, j < lenN d i_2 → tg j = m_tof d (nI i_1) i_2 (j + 1) := fun j hj => (t4 j hj).trans (tof_u hu8x).symm
    refine lv_astore (lv' := [(6, .ref (ca (100 + 10 * i_1 + i_2))), (5, .ref (ca (40 + i_1))), (0, .ref (ca 0)), (1, .int (nI i_1)), (2, .int (nI i_2)), (3, .int z), (4, .int a)]) hx hb dX5_slip_30 hl (by decide) rfl (fun ls hl => ?_)
    refine lv_aload hx hb dX5_slip_32 (lv_at hl 0 rfl) ?_
    refine lv_ifnonnull (tgt := 47) hx hb dX5_slip_34 (by decide) ?_
    refine lv_aload hx hb dX5_slip_47 (lv_at hl 0 rfl) ?_
    refine lv_iload_n hx hb dX5_slip_49 rfl (lv_at hl 5 rfl) ?_
    refine lv_iload hx hb dX5_slip_50 (lv_at hl 6 rfl) ?_
    refine g_callV (rest := []) (As := [.int z, .int a]) hE hG hl.1 (c_X1_put l hfl D tc A w (100 + 10 * i_1 + i_2) (200 + 10 * i_1 + i_2) (ca (100 + 10 * i_1 + i_2)) (ca (200 + 10 * i_1 + i_2)) (lenN d i_2) tg z a t1 t3 (by omega)) t1 rfl mw2_74 mw2_75 mw2_76 mw1_11 mw2_77 rfl nm_X1_put ⟨⟨Nat.le_of_ble_eq_true rfl, Nat.le_of_ble_eq_true rfl⟩, Nat.le_of_ble_eq_true rfl, Nat.le_of_ble_eq_true rfl⟩ rfl rfl (Nat.le_of_ble_eq_true rfl) dX5_slip_52 (g_no) ?_
    intro v9 w9 H locs h9 hG
    obtain ⟨e9, ew_5⟩ := h9
    rw [e9]; clear e9; revert w9; intro w_5 hG ew_5
    show W p l e _ s m args below meth c H locs _ _ _ (F0 m 55 ls [.int (f_at (lenN d i_2) tg z)])
    have h_6 : w_5 0 = some ((ca 0), .inr (5, [.ref (ca 1), .int (d 9 0), .ref (ca 2), .int (d 9 1), .ref (ca 3), .int (d 9 10), .int (d 9 11), .ref (ca 5), .int (d 9 12), .ref (ca 6), .int (d 9 13)])) := gU_n ew_5 (by omega) z0
    have h_7 : w_5 1 = some ((ca 1), .inl (tc 0, 4, .inl (d 0))) := gU_n ew_5 (by omega) z1
    have h_8 : w_5 2 = some ((ca 2), .inl (tc 3, 6, .inr (.inr (.inr (.inr (c_pf ca (nP d))))))) := gU_n ew_5 (by omega) z2
    have h_9 : w_5 5 = some ((ca 5), .inl (tc 4, 4, .inr (.inr (.inr (.inr (c_sf ca)))))) := gU_n ew_5 (by omega) z5
    have h_10 : w_5 6 = some ((ca 6), .inl (tc 5, 8, .inr (.inr (.inr (.inr (c_uf ca (nU d))))))) := gU_n ew_5 (by omega) z6
    have h_11 : w_5 3 = some ((ca 3), .inr (4, [.int (d 9 3), .int cy, .int (d 9 4), .int (d 9 5), .int (d 9 6), .int (d 9 7), .int (d 9 8), .int (d 9 2), .int ge, .long tk, .ref (ca 4)])) := gU_n ew_5 (by omega) z3
    have h_12 : w_5 4 = some ((ca 4), .inl (tc 1, 4, .inr (.inl sf))) := gU_n ew_5 (by omega) z4
    have h_13 : w_5 (40 + i_1) = some ((ca (40 + i_1)), .inr (3, [.int (d 6 i_1), .ref (ca (50 + i_1))])) := gU_n ew_5 (by omega) q1x
    have h_14 : w_5 (50 + i_1) = some ((ca (50 + i_1)), .inl (tc 6, 6, .inr (.inr (.inr (.inr qgx))))) := gU_n ew_5 (by omega) q3x
    have h_15 : w_5 (10 + i_2) = some ((ca (10 + i_2)), .inr (2, [.ref (ca (20 + i_2)), .int (d 2 i_2)])) := gU_n ew_5 (by omega) p1p
    have h_16 : w_5 (20 + i_2) = some ((ca (20 + i_2)), .inr (1, [.ref (ca (30 + i_2))])) := gU_n ew_5 (by omega) p2p
    have h_17 : w_5 (30 + i_2) = some ((ca (30 + i_2)), .inl (tc 0, (lenN d i_2), .inl pfp)) := gU_n ew_5 (by omega) p3p
    have h_18 : w_5 (100 + 10 * i_1 + i_2) = some ((ca (100 + 10 * i_1 + i_2)), .inr (1, [.ref (ca (200 + 10 * i_1 + i_2))])) := gU_n ew_5 (by omega) t1
    have h_19 : w_5 (200 + 10 * i_1 + i_2) = some ((ca (200 + 10 * i_1 + i_2)), .inl (tc 0, (lenN d i_2), .inl (f_put (lenN d i_2) tg z a))) := gU_s ew_5
    subst hQ
    exact g_iret hE hG hr (Nat.le_of_ble_eq_true rfl) (Nat.le_of_ble_eq_true rfl) dX5_slip_55 ⟨m_go_i (sl_gb (isPlayer_s hOk hi_1) (fun g => r_3 ((isPlace_v hOk hi_2).mp g))) r_4 (by rw [sl_gc (isPlayer_s hOk hi_1) (fun g => r_3 ((isPlace_v hOk hi_2).mp g)), if_neg hkn7]; decide), congrArg (fun a => some (Value.int a)) (at_ver hOk hu8x hi_2 t4 r_3), ⟨ca, rfl, cW_l (cW_ver hC hOk hu8x hi_2 hk7 (put_ver hOk hu8x hi_2 t4 r_3).1 (put_ver hOk hu8x hi_2 t4 r_3).2 ew_5) 0⟩, gK_u (gK_rf w) ew_5 (by omega)⟩
