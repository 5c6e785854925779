/-! isSame -/
theorem same_depth {d : gDt} {i j q : Nat} (hi : i < 2) (h0 : d 0 i = nI (4 * q)) (h1 : 1 ≤ q) (h4 : q ≤ 4) (hj : j < 4 * q) : m_depth d (nI i) (nI (j + 1)) = f_dpL q (nI (j + 1)) := by
  unfold m_depth
  rw [nI_clamp (by omega), h0, nI_clamp (by omega)]
  obtain ⟨c, rfl⟩ : ∃ c, q = c + 1 := ⟨q - 1, by omega⟩
  exact (dp_tab c (by omega) j (by omega) hj).symm
theorem fst_r {z n : Nat} (h1 : 1 ≤ z) (h2 : z ≤ 4 * n) : 1 ≤ m_fst z ∧ m_fst z + 1 ≤ 4 * n ∧ (z = m_fst z ∨ z = m_fst z + 1) := by unfold m_fst; omega
theorem same_stroke {d : gDt} {i a j v t q : Nat} {r : Int64} (hOk : mOk d) (hT : tOk d) (hi : i < nP d) (hq : q ≤ 4) (hn : lenN d i = 4 * q) (hr : rRow r (lenN d i) (fun j => d 3 (65 * i + j))) (hj : j < 4 * q) (ha : a < 4) (hv : v < 4) (ht : t < kk (4 * a + v)) : m_stroke d (nI i) (nI a) (nI (j + 1)) (nI v) (nI t) = f_stL (nI a) (nI (kk (4 * a + v))) (f_sdL r (4 * q) (m_fst (j + 1)) (4 * q)) (f_sdL r (4 * q) (m_fst (j + 1) + 1) (4 * q)) (if j + 1 = m_fst (j + 1) then t else kk (4 * a + v) + t) := by
  have hP := hOk.1.2.1
  obtain ⟨f1, f2, f3⟩ := fst_r (z := j + 1) (n := q) (by omega) (by omega)
  have e1 := sd_eq (z := m_fst (j + 1)) hOk hT hi (by omega) hr f1 (by omega)
  have e2 := sd_eq (z := m_fst (j + 1) + 1) hOk hT hi (by omega) hr (by omega) (by omega)
  rw [hn] at e1 e2
  rw [e1, e2]
  obtain ⟨k1, k2, k3⟩ := kk_den (4 * a + v) (by omega)
  rw [show (4 * a + v) / 4 = a by omega, show (4 * a + v) % 4 = v by omega] at k1
  have hden : m_den (nI a) (nI v) = nI (kk (4 * a + v)) := by
    rw [← den_a (fin_nI (b := 0) (n := 3) (by omega) (by omega) (by decide) : ¬ f_in (nI a) 0 3 = 0), k1]
  obtain ⟨x, hx, ex⟩ : ∃ k : Nat, k ≤ 7 ∧ m_snd d i (m_fst (j + 1)) = nI k := hT _
  obtain ⟨y, hy, ey⟩ : ∃ k : Nat, k ≤ 7 ∧ m_snd d i (m_fst (j + 1) + 1) = nI k := hT _
  unfold m_stroke
  rw [nI_clamp (by omega), nI_clamp (by omega), hden, ex, ey]
  have hTT : (if j + 1 = m_fst (j + 1) then t else kk (4 * a + v) + t) < 2 * kk (4 * a + v) := by split <;> omega
  have hS := stL_eq (c := 4 * a + v) (x := x) (y := y) (by omega) (by omega) (by omega) _ hTT
  rw [show (4 * a + v) / 4 = a by omega] at hS
  rw [hS]
  congr 1
  by_cases e : j + 1 = m_fst (j + 1)
  · rw [if_pos e, if_pos (congrArg nI e)]
  · rw [if_neg e, if_neg (fun h => e ((nI_eq (by omega) (by omega)).mp h)), nI_add]
theorem same_beat {d : gDt} {gp : Nat → Int32} {x y z : Nat} (h : rP d gp) (hx : x < 4) (hy : y < 4) (hz : z < 7) : m_beat d (nI x) (nI y) (nI (z + 1)) = (if 0 ≤ gp (7 * x + z) - gp (7 * y + z) then gp (7 * x + z) - gp (7 * y + z) else -(gp (7 * x + z) - gp (7 * y + z))) := by
  unfold m_beat
  have e : ∀ q : Nat, q < 4 → d 4 ((8 : Int32) * nI q + nI (z + 1)).toNatClampNeg = gp (7 * q + z) := fun q hq => by
    rw [pit_ix hq hz, h.1 q z hq hz]
  rw [e x hx, e y hy]
theorem same_cov {d : gDt} {gc : Nat → Int64} {gm : Nat → Int32} (h : rU d gc gm) : (∀ k, k < 4 → (fun k => (d 6 k).toNatClampNeg) k < 16 ∧ gm (15 + k) = nI ((fun k => (d 6 k).toNatClampNeg) k)) ∧ ∀ i, i < 2 → ∀ k, k < 4 → (fun k => decide (¬ d 7 (6 * k + i) = 0)) k = decide (¬ lg_cmp (gc (2 + 2 * k + i)) 0 < 0) := by
  refine ⟨fun k hk => ?_, fun i hi k hk => ?_⟩
  · obtain ⟨h1, ⟨a, h2, h3⟩, -⟩ := h k hk
    show (d 6 k).toNatClampNeg < 16 ∧ gm (15 + k) = nI (d 6 k).toNatClampNeg
    rw [h1, h3, nI_clamp (by omega)]
    exact ⟨h2, rfl⟩
  · obtain ⟨-, -, h4⟩ := h k hk
    show decide (¬ d 7 (6 * k + i) = 0) = _
    rcases h4 i hi with ⟨h5, h6⟩ | ⟨h5, h6⟩
    · rw [h5, h6]; decide
    · rw [decide_eq_true h5, decide_eq_true (rRow_nn h6).1]
theorem tof_r {d : gDt} {u i n j : Nat} {r : Int64} (hr : rRow r n (fun j => d 8 (65 * (6 * u + i) + j))) (hn : n ≤ 16) (hj : j < n) (hu : u < 8) : f_atL r (nI (j + 1)) = m_tof d (nI u) i (j + 1) := by
  rw [tof_u hu, rRow_at hr hn hj]
  rfl
theorem tof_a {d : gDt} {i n j : Nat} {r : Int64} (hr : rRow r n (fun j => d 3 (65 * i + j))) (hn : n ≤ 16) (hj : j < n) : f_atL r (nI (j + 1)) = m_tof d (-1) i (j + 1) := by
  rw [tof_h rfl, rRow_at hr hn hj]
  rfl
abbrev rm_L_isSame : Room := { frames := 11, cells := 200, slots := 1200, locals := 410 }
theorem nm_L_isSame : gNm yL_isSame 5 := ⟨by decide +kernel, by decide +kernel, by decide +kernel⟩
set_option maxHeartbeats 4000000 in
set_option maxRecDepth 100000 in
theorem c_L_isSame (l : Launch) (hfl : l.stackTraces = false) (D : va_G) (tc : Nat → ClassId) (A : Nat → Prop) (w : gW) (oa : Nat) (ac : Nat) (am : Nat) (ap : Nat) (d : gDt) (tk : Int64) (st : Nat → Int64) (gc : Nat → Int64) (gm : Nat → Int32) (gp : Nat → Int32) (B : Nat) (Z : Nat) (h1 : w 1000 = some (ac, .inl (tc 1, 15, .inr (.inl gc)))) (h2 : w 1001 = some (am, .inl (tc 0, 19, .inl gm))) (h3 : w 1002 = some (ap, .inl (tc 0, 32, .inl gp))) (hC : cO tc w oa d tk st) (hI : iOk d B) (hR : rl d tk st gc gm gp) (hZ : Z < 1000000000) : gM l yL_isSame cL_isSame 25 (some .boolean) rm_L_isSame D tc A [.ref oa, .ref ac, .ref am, .ref ap, .int (nI Z)] w (fun v w' => v = some (.int 1) ∧ cO tc w' oa d tk st ∧ gK w w') (fun _ => False) := by
  refine gM_of (by decide +kernel) (Nat.le_of_ble_eq_true rfl) ?_
  intro p e s m args below meth c ls Q hQ hE hG hr hnt hnm hl
  have hx := hE.1
  have hb := hE.2.1
  have hl : lv_has ls 25 [(0, .ref oa), (1, .ref ac), (2, .ref am), (3, .ref ap), (4, .int (nI Z))] := hl
  obtain ⟨hRA, hRB, hRT, hRU, hRP⟩ := id hR
  have hnP := hRA.1.2.1
  have hnU := hRA.1.2.2
  have hnF := hRA.1.1
  have hnow := now_eq hRB
  refine lv_iload hx hb dL_isSame_0 (lv_at hl 4 rfl) ?_
  refine lv_iconst (v := 2) hx hb dL_isSame_2 (by decide) ?_
  refine lv_irem hx hb dL_isSame_3 (by decide) ?_
  refine lv_topi (fun k_1 ek_1 => ?_)
  obtain rfl : k_1 = nI (Z % 2) := ek_1.trans (pk_rem (a := Z) (d := 2) (by omega) (by omega) (by omega))
  refine lv_topi (fun k_2 ek_2 => ?_)
  obtain ⟨i, hi, rfl⟩ : ∃ i : Nat, (i < 2) ∧ k_2 = nI i := ⟨Z % 2, by omega, ek_2⟩
  refine lv_istore (lv' := [(5, .int (nI i)), (0, .ref oa), (1, .ref ac), (2, .ref am), (3, .ref ap), (4, .int (nI Z))]) hx hb dL_isSame_4 hl (by decide) rfl (fun ls hl => ?_)
  refine lv_aload_n hx hb dL_isSame_6 rfl (lv_at hl 3 rfl) ?_
  refine lv_iload hx hb dL_isSame_7 (lv_at hl 0 rfl) ?_
  refine g_ialdN hE hG h2 i rfl (by omega) (by decide) dL_isSame_9 ?_
  obtain ⟨q, hq1, hq4, hlen, h0, hgm⟩ := rA_i hRA hi
  rw [hgm]
  refine lv_istore (lv' := [(6, .int (nI (4 * q))), (5, .int (nI i)), (0, .ref oa), (1, .ref ac), (2, .ref am), (3, .ref ap), (4, .int (nI Z))]) hx hb dL_isSame_10 hl (by decide) rfl (fun ls hl => ?_)
  refine lv_iconst (v := 1) hx hb dL_isSame_12 (by decide) ?_
  refine lv_iload hx hb dL_isSame_13 (lv_at hl 6 rfl) ?_
  refine lv_iconst (v := 2) hx hb dL_isSame_15 (by decide) ?_
  refine lv_idiv hx hb dL_isSame_16 (by decide) ?_
  refine lv_topi (fun k_3 ek_3 => ?_)
  obtain rfl : k_3 = nI (Z / 2) := ek_3.trans (pk_div (a := Z) (d := 2) (by omega) (by omega) (by omega))
  refine lv_iload hx hb dL_isSame_17 (lv_at hl 0 rfl) ?_
  refine lv_irem hx hb dL_isSame_19 (nI_ne0 (by omega) (by omega)) ?_
  refine lv_topi (fun k_4 ek_4 => ?_)
  obtain rfl : k_4 = nI ((Z / 2) % (4 * q)) := ek_4.trans (pk_rem (a := (Z / 2)) (d := (4 * q)) (by omega) (by omega) (by omega))
  refine lv_iadd hx hb dL_isSame_20 ?_
  refine lv_topi (fun k_5 ek_5 => ?_)
  obtain rfl : k_5 = nI (1 + ((Z / 2) % (4 * q))) := ek_5.trans (nI_add 1 ((Z / 2) % (4 * q)))
  refine lv_topi (fun k_6 ek_6 => ?_)
  obtain ⟨j, hj, rfl⟩ : ∃ j : Nat, (j < 4 * q) ∧ k_6 = nI (j + 1) := ⟨Z / 2 % (4 * q), Nat.mod_lt _ (by omega), ek_6.trans (by rw [Nat.add_comm])⟩
  refine lv_istore (lv' := [(7, .int (nI (j + 1))), (6, .int (nI (4 * q))), (5, .int (nI i)), (0, .ref oa), (1, .ref ac), (2, .ref am), (3, .ref ap), (4, .int (nI Z))]) hx hb dL_isSame_21 hl (by decide) rfl (fun ls hl => ?_)
  refine lv_iload hx hb dL_isSame_23 (lv_at hl 7 rfl) ?_
  refine lv_bipush (v := 32) hx hb dL_isSame_25 (by decide) ?_
  refine lv_idiv hx hb dL_isSame_27 (by decide) ?_
  refine lv_topi (fun k_7 ek_7 => ?_)
  obtain rfl : k_7 = nI (Z / 32) := ek_7.trans (pk_div (a := Z) (d := 32) (by omega) (by omega) (by omega))
  refine lv_iconst (v := 4) hx hb dL_isSame_28 (by decide) ?_
  refine lv_irem hx hb dL_isSame_29 (by decide) ?_
  refine lv_topi (fun k_8 ek_8 => ?_)
  obtain rfl : k_8 = nI ((Z / 32) % 4) := ek_8.trans (pk_rem (a := (Z / 32)) (d := 4) (by omega) (by omega) (by omega))
  refine lv_topi (fun k_9 ek_9 => ?_)
  obtain ⟨pa, hpa, rfl⟩ : ∃ pa : Nat, (pa < 4) ∧ k_9 = nI pa := ⟨(Z / 32) % 4, by omega, ek_9⟩
  refine lv_istore (lv' := [(8, .int (nI pa)), (7, .int (nI (j + 1))), (6, .int (nI (4 * q))), (5, .int (nI i)), (0, .ref oa), (1, .ref ac), (2, .ref am), (3, .ref ap), (4, .int (nI Z))]) hx hb dL_isSame_30 hl (by decide) rfl (fun ls hl => ?_)
  refine lv_iload hx hb dL_isSame_32 (lv_at hl 8 rfl) ?_
  refine lv_sipush (v := 128) hx hb dL_isSame_34 (by decide) ?_
  refine lv_idiv hx hb dL_isSame_37 (by decide) ?_
  refine lv_topi (fun k_10 ek_10 => ?_)
  obtain rfl : k_10 = nI (Z / 128) := ek_10.trans (pk_div (a := Z) (d := 128) (by omega) (by omega) (by omega))
  refine lv_iconst (v := 4) hx hb dL_isSame_38 (by decide) ?_
  refine lv_irem hx hb dL_isSame_39 (by decide) ?_
  refine lv_topi (fun k_11 ek_11 => ?_)
  obtain rfl : k_11 = nI ((Z / 128) % 4) := ek_11.trans (pk_rem (a := (Z / 128)) (d := 4) (by omega) (by omega) (by omega))
  refine lv_topi (fun k_12 ek_12 => ?_)
  obtain ⟨vl, hvl, rfl⟩ : ∃ vl : Nat, (vl < 4) ∧ k_12 = nI vl := ⟨(Z / 128) % 4, by omega, ek_12⟩
  refine lv_istore (lv' := [(9, .int (nI vl)), (8, .int (nI pa)), (7, .int (nI (j + 1))), (6, .int (nI (4 * q))), (5, .int (nI i)), (0, .ref oa), (1, .ref ac), (2, .ref am), (3, .ref ap), (4, .int (nI Z))]) hx hb dL_isSame_40 hl (by decide) rfl (fun ls hl => ?_)
  refine lv_iload hx hb dL_isSame_42 (lv_at hl 1 rfl) ?_
  refine lv_iload hx hb dL_isSame_44 (lv_at hl 0 rfl) ?_
  refine g_callS (rest := []) (As := [.int (nI pa), .int (nI vl)]) hE hG hl.1 (c_L_density l hfl D tc A w pa vl (by omega) (by omega)) mw2_149 mw2_150 mw1_0 mw2_151 nm_L_density ⟨⟨Nat.le_of_ble_eq_true rfl, Nat.le_of_ble_eq_true rfl⟩, Nat.le_of_ble_eq_true rfl, Nat.le_of_ble_eq_true rfl⟩ rfl rfl (Nat.le_of_ble_eq_true rfl) dL_isSame_46 (g_no) ?_
  intro v9 w9 H locs h9 hG
  obtain ⟨e9, f9⟩ := h9
  rw [f9] at hG; rw [e9]; clear e9 f9
  show W p l e _ s m args below meth c H locs _ _ _ (F0 m 49 ls [.int (nI (kk (4 * pa + vl)))])
  refine lv_istore (lv' := [(10, .int (nI (kk (4 * pa + vl)))), (9, .int (nI vl)), (8, .int (nI pa)), (7, .int (nI (j + 1))), (6, .int (nI (4 * q))), (5, .int (nI i)), (0, .ref oa), (1, .ref ac), (2, .ref am), (3, .ref ap), (4, .int (nI Z))]) hx hb dL_isSame_49 hl (by decide) rfl (fun ls hl => ?_)
  have hkk := (kk_den (4 * pa + vl) (by omega)).2
  refine lv_iload hx hb dL_isSame_51 (lv_at hl 10 rfl) ?_
  refine lv_sipush (v := 512) hx hb dL_isSame_53 (by decide) ?_
  refine lv_idiv hx hb dL_isSame_56 (by decide) ?_
  refine lv_topi (fun k_13 ek_13 => ?_)
  obtain rfl : k_13 = nI (Z / 512) := ek_13.trans (pk_div (a := Z) (d := 512) (by omega) (by omega) (by omega))
  refine lv_iload hx hb dL_isSame_57 (lv_at hl 0 rfl) ?_
  refine lv_irem hx hb dL_isSame_59 (nI_ne0 (by omega) (by omega)) ?_
  refine lv_topi (fun k_14 ek_14 => ?_)
  obtain rfl : k_14 = nI ((Z / 512) % (kk (4 * pa + vl))) := ek_14.trans (pk_rem (a := (Z / 512)) (d := (kk (4 * pa + vl))) (by omega) (by omega) (by omega))
  refine lv_topi (fun k_15 ek_15 => ?_)
  obtain ⟨sq, hsq, rfl⟩ : ∃ sq : Nat, (sq < kk (4 * pa + vl)) ∧ k_15 = nI sq := ⟨(Z / 512) % (kk (4 * pa + vl)), Nat.mod_lt _ (by omega), ek_15⟩
  refine lv_istore (lv' := [(11, .int (nI sq)), (10, .int (nI (kk (4 * pa + vl)))), (9, .int (nI vl)), (8, .int (nI pa)), (7, .int (nI (j + 1))), (6, .int (nI (4 * q))), (5, .int (nI i)), (0, .ref oa), (1, .ref ac), (2, .ref am), (3, .ref ap), (4, .int (nI Z))]) hx hb dL_isSame_60 hl (by decide) rfl (fun ls hl => ?_)
  refine lv_iload hx hb dL_isSame_62 (lv_at hl 4 rfl) ?_
  refine lv_iconst (v := 2) hx hb dL_isSame_64 (by decide) ?_
  refine lv_irem hx hb dL_isSame_65 (by decide) ?_
  refine lv_topi (fun k_16 ek_16 => ?_)
  obtain rfl : k_16 = nI ((j + 1) % 2) := ek_16.trans (pk_rem (a := (j + 1)) (d := 2) (by omega) (by omega) (by omega))
  refine lv_iconst (v := 1) hx hb dL_isSame_66 (by decide) ?_
  have j_18 : ∀ (v_17 : Int32) (H : Heap) (locs : List Loc), v_17 = (if (nI ((j + 1) % 2)) = 1 then (nI (j + 1)) else (nI ((j + 1) - 1)) : Int32) → gS D A s.heap w H locs → W p l e rm_L_isSame s m args below meth c H locs (0 + rm_L_density.cells) (0 + rm_L_density.slots) Q (F0 m 79 ls (.int v_17 :: [])) := by
    intro v_17 H locs ev_17 hG
    obtain ⟨hf1, hf2, hf3⟩ := fst_r (z := j + 1) (n := q) (by omega) (by omega)
    obtain ⟨fs, efs⟩ : ∃ fs, fs = m_fst (j + 1) := ⟨_, rfl⟩
    rw [← efs] at hf1 hf2 hf3
    have ev_179 : v_17 = nI fs := by
      rw [ev_17, efs]
      unfold m_fst
      by_cases h9 : (j + 1) % 2 = 1
      · rw [if_pos (show nI ((j + 1) % 2) = 1 from congrArg nI h9), show j + 1 - 1 + (j + 1) % 2 = j + 1 by omega]
      · rw [if_neg (show ¬ nI ((j + 1) % 2) = 1 from fun h => h9 ((nI_eq (b := 1) (by omega) (by decide)).mp h)), show j + 1 - 1 + (j + 1) % 2 = j + 1 - 1 by omega]
    rw [ev_179]
    refine lv_istore (lv' := [(12, .int (nI fs)), (11, .int (nI sq)), (10, .int (nI (kk (4 * pa + vl)))), (9, .int (nI vl)), (8, .int (nI pa)), (7, .int (nI (j + 1))), (6, .int (nI (4 * q))), (5, .int (nI i)), (0, .ref oa), (1, .ref ac), (2, .ref am), (3, .ref ap), (4, .int (nI Z))]) hx hb dL_isSame_79 hl (by decide) rfl (fun ls hl => ?_)
    refine lv_iload hx hb dL_isSame_81 (lv_at hl 4 rfl) ?_
    refine lv_iload hx hb dL_isSame_83 (lv_at hl 2 rfl) ?_
    refine lv_iload hx hb dL_isSame_85 (lv_at hl 5 rfl) ?_
    refine lv_iload hx hb dL_isSame_87 (lv_at hl 0 rfl) ?_
    have j_20 : ∀ (v_19 : Int32) (H : Heap) (locs : List Loc), v_19 = (if (nI (j + 1)) = (nI fs) then (nI sq) else (nI ((kk (4 * pa + vl)) + sq)) : Int32) → gS D A s.heap w H locs → W p l e rm_L_isSame s m args below meth c H locs (0 + rm_L_density.cells) (0 + rm_L_density.slots) Q (F0 m 102 ls (.int v_19 :: [.int (nI (kk (4 * pa + vl))), .int (nI pa)])) := by
      intro v_19 H locs ev_19 hG
      obtain ⟨t9, et9⟩ : ∃ t9, t9 = (if j + 1 = fs then sq else kk (4 * pa + vl) + sq) := ⟨_, rfl⟩
      have ev_199 : v_19 = nI t9 := by
        rw [ev_19, et9]
        by_cases h9 : j + 1 = fs
        · rw [if_pos h9, if_pos (congrArg nI h9)]
        · rw [if_neg h9, if_neg (fun h => h9 ((nI_eq (by omega) (by omega)).mp h))]
      have ht9 : t9 < 1000 := by rw [et9]; split <;> omega
      rw [ev_199]
      refine lv_aload_n hx hb dL_isSame_102 rfl (lv_at hl 9 rfl) ?_
      refine lv_iload hx hb dL_isSame_103 (lv_at hl 7 rfl) ?_
      refine g_laldN hE hG h1 i rfl (by omega) (by decide) dL_isSame_105 ?_
      refine lv_iload hx hb dL_isSame_106 (lv_at hl 6 rfl) ?_
      refine lv_iload hx hb dL_isSame_108 (lv_at hl 0 rfl) ?_
      refine g_callS (rest := [.int (nI t9), .int (nI (kk (4 * pa + vl))), .int (nI pa)]) (As := [.long (gc i), .int (nI (4 * q)), .int (nI fs)]) hE hG hl.1 (c_L_sounds l hfl D tc A w (gc i) (4 * q) fs (by omega) (by omega) (by omega)) mw3_56 mw3_57 mw1_0 mw3_58 nm_L_sounds ⟨⟨Nat.le_of_ble_eq_true rfl, Nat.le_of_ble_eq_true rfl⟩, Nat.le_of_ble_eq_true rfl, Nat.le_of_ble_eq_true rfl⟩ rfl rfl (Nat.le_of_ble_eq_true rfl) dL_isSame_110 (g_no) ?_
      intro v9 w9 H locs h9 hG
      obtain ⟨e9, f9⟩ := h9
      rw [f9] at hG; rw [e9]; clear e9 f9
      show W p l e _ s m args below meth c H locs _ _ _ (F0 m 113 ls [.int (f_sdL (gc i) (4 * q) fs (4 * q)), .int (nI t9), .int (nI (kk (4 * pa + vl))), .int (nI pa)])
      refine lv_aload_n hx hb dL_isSame_113 rfl (lv_at hl 9 rfl) ?_
      refine lv_iload hx hb dL_isSame_114 (lv_at hl 7 rfl) ?_
      refine g_laldN hE hG h1 i rfl (by omega) (by decide) dL_isSame_116 ?_
      refine lv_iload hx hb dL_isSame_117 (lv_at hl 6 rfl) ?_
      refine lv_iload hx hb dL_isSame_119 (lv_at hl 0 rfl) ?_
      refine lv_iconst (v := 1) hx hb dL_isSame_121 (by decide) ?_
      refine lv_iadd hx hb dL_isSame_122 ?_
      refine lv_topi (fun k_21 ek_21 => ?_)
      obtain rfl : k_21 = nI (fs + 1) := ek_21.trans (nI_add fs 1)
      refine g_callS (rest := [.int (f_sdL (gc i) (4 * q) fs (4 * q)), .int (nI t9), .int (nI (kk (4 * pa + vl))), .int (nI pa)]) (As := [.long (gc i), .int (nI (4 * q)), .int (nI (fs + 1))]) hE hG hl.1 (c_L_sounds l hfl D tc A w (gc i) (4 * q) (fs + 1) (by omega) (by omega) (by omega)) mw3_56 mw3_57 mw1_0 mw3_58 nm_L_sounds ⟨⟨Nat.le_of_ble_eq_true rfl, Nat.le_of_ble_eq_true rfl⟩, Nat.le_of_ble_eq_true rfl, Nat.le_of_ble_eq_true rfl⟩ rfl rfl (Nat.le_of_ble_eq_true rfl) dL_isSame_123 (g_no) ?_
      intro v9 w9 H locs h9 hG
      obtain ⟨e9, f9⟩ := h9
      rw [f9] at hG; rw [e9]; clear e9 f9
      show W p l e _ s m args below meth c H locs _ _ _ (F0 m 126 ls [.int (f_sdL (gc i) (4 * q) (fs + 1) (4 * q)), .int (f_sdL (gc i) (4 * q) fs (4 * q)), .int (nI t9), .int (nI (kk (4 * pa + vl))), .int (nI pa)])
      refine g_callS (rest := []) (As := [.int (nI pa), .int (nI (kk (4 * pa + vl))), .int (nI t9), .int (f_sdL (gc i) (4 * q) fs (4 * q)), .int (f_sdL (gc i) (4 * q) (fs + 1) (4 * q))]) hE hG hl.1 (c_L_stroke l hfl D tc A w (nI pa) (nI (kk (4 * pa + vl))) t9 (f_sdL (gc i) (4 * q) fs (4 * q)) (f_sdL (gc i) (4 * q) (fs + 1) (4 * q)) (by omega)) mw3_59 mw3_60 mw1_0 mw3_61 nm_L_stroke ⟨⟨Nat.le_of_ble_eq_true rfl, Nat.le_of_ble_eq_true rfl⟩, Nat.le_of_ble_eq_true rfl, Nat.le_of_ble_eq_true rfl⟩ rfl rfl (Nat.le_of_ble_eq_true rfl) dL_isSame_126 (g_no) ?_
      intro v9 w9 H locs h9 hG
      obtain ⟨e9, f9⟩ := h9
      rw [f9] at hG; rw [e9]; clear e9 f9
      show W p l e _ s m args below meth c H locs _ _ _ (F0 m 129 ls [.int (f_stL (nI pa) (nI (kk (4 * pa + vl))) (f_sdL (gc i) (4 * q) fs (4 * q)) (f_sdL (gc i) (4 * q) (fs + 1) (4 * q)) t9)])
      refine lv_istore (lv' := [(13, .int (f_stL (nI pa) (nI (kk (4 * pa + vl))) (f_sdL (gc i) (4 * q) fs (4 * q)) (f_sdL (gc i) (4 * q) (fs + 1) (4 * q)) t9)), (12, .int (nI fs)), (11, .int (nI sq)), (10, .int (nI (kk (4 * pa + vl)))), (9, .int (nI vl)), (8, .int (nI pa)), (7, .int (nI (j + 1))), (6, .int (nI (4 * q))), (5, .int (nI i)), (0, .ref oa), (1, .ref ac), (2, .ref am), (3, .ref ap), (4, .int (nI Z))]) hx hb dL_isSame_129 hl (by decide) rfl (fun ls hl => ?_)
      refine lv_aload_n hx hb dL_isSame_131 rfl (lv_at hl 9 rfl) ?_
      refine lv_iload hx hb dL_isSame_132 (lv_at hl 8 rfl) ?_
      refine lv_iload hx hb dL_isSame_134 (lv_at hl 6 rfl) ?_
      obtain ⟨fsz_22, z_22⟩ := cO_z hC
      refine g_callV (rest := []) (As := [.int (nI i), .int (nI (j + 1))]) hE hG hl.1 (k_depth l hfl D tc A w oa d tk st (nI i) (nI (j + 1)) hC hI.1 (go_depth hI.1 (by omega) h0 (by omega) (by omega) (by omega))) z_22 rfl mw3_62 mw3_63 mw3_64 mw1_1 mw3_65 rfl nm_X5_depth ⟨⟨Nat.le_of_ble_eq_true rfl, Nat.le_of_ble_eq_true rfl⟩, Nat.le_of_ble_eq_true rfl, Nat.le_of_ble_eq_true rfl⟩ rfl rfl (Nat.le_of_ble_eq_true rfl) dL_isSame_136 (g_no) ?_
      intro v9 w_23 H locs h9 hG
      obtain ⟨e9, hC, g_24⟩ := h9
      rw [e9]; clear e9
      show W p l e _ s m args below meth c H locs _ _ _ (F0 m 139 ls [.int (m_depth d (nI i) (nI (j + 1)))])
      have h_25 : w_23 1000 = some (ac, .inl (tc 1, 15, .inr (.inl gc))) := (g_24 1000 (by decide)).trans h1
      have h_26 : w_23 1001 = some (am, .inl (tc 0, 19, .inl gm)) := (g_24 1001 (by decide)).trans h2
      have h_27 : w_23 1002 = some (ap, .inl (tc 0, 32, .inl gp)) := (g_24 1002 (by decide)).trans h3
      have hC : cO tc w_23 oa d tk st := hC
      refine lv_iload hx hb dL_isSame_139 (lv_at hl 7 rfl) ?_
      refine lv_iload hx hb dL_isSame_141 (lv_at hl 6 rfl) ?_
      refine g_callS (rest := [.int (m_depth d (nI i) (nI (j + 1)))]) (As := [.int (nI (4 * q)), .int (nI (j + 1))]) hE hG hl.1 (c_L_depth l hfl D tc A w_23 q (nI (j + 1)) (by omega) (by omega)) mw3_66 mw3_67 mw1_0 mw3_68 nm_L_depth ⟨⟨Nat.le_of_ble_eq_true rfl, Nat.le_of_ble_eq_true rfl⟩, Nat.le_of_ble_eq_true rfl, Nat.le_of_ble_eq_true rfl⟩ rfl rfl (Nat.le_of_ble_eq_true rfl) dL_isSame_143 (g_no) ?_
      intro v9 w9 H locs h9 hG
      obtain ⟨e9, f9⟩ := h9
      rw [f9] at hG; rw [e9]; clear e9 f9
      show W p l e _ s m args below meth c H locs _ _ _ (F0 m 146 ls [.int (f_dpL q (nI (j + 1))), .int (m_depth d (nI i) (nI (j + 1)))])
      refine lv_icmp_ne (tgt := 213) hx hb dL_isSame_146 (by decide) (fun c9 => (c9 (same_depth hi h0 hq1 hq4 hj)).elim) (fun c9 => ?_)
      refine lv_aload_n hx hb dL_isSame_149 rfl (lv_at hl 9 rfl) ?_
      refine lv_iload hx hb dL_isSame_150 (lv_at hl 8 rfl) ?_
      refine lv_iload hx hb dL_isSame_152 (lv_at hl 6 rfl) ?_
      obtain ⟨fsz_28, z_28⟩ := cO_z hC
      refine g_callV (rest := []) (As := [.int (nI i), .int (nI (j + 1))]) hE hG hl.1 (k_sounds l hfl D tc A w_23 oa d tk st (nI i) (nI (j + 1)) hC hI.1 (go_sounds hI.1 (by omega) (by omega) (by omega))) z_28 rfl mw3_69 mw3_70 mw3_71 mw1_1 mw3_72 rfl nm_X5_sounds ⟨⟨Nat.le_of_ble_eq_true rfl, Nat.le_of_ble_eq_true rfl⟩, Nat.le_of_ble_eq_true rfl, Nat.le_of_ble_eq_true rfl⟩ rfl rfl (Nat.le_of_ble_eq_true rfl) dL_isSame_154 (g_no) ?_
      intro v9 w_29 H locs h9 hG
      obtain ⟨e9, hC, g_30⟩ := h9
      rw [e9]; clear e9
      show W p l e _ s m args below meth c H locs _ _ _ (F0 m 157 ls [.int (m_snd d (nI i).toNatClampNeg (nI (j + 1)).toNatClampNeg)])
      have h_31 : w_29 1000 = some (ac, .inl (tc 1, 15, .inr (.inl gc))) := (g_30 1000 (by decide)).trans h_25
      have h_32 : w_29 1001 = some (am, .inl (tc 0, 19, .inl gm)) := (g_30 1001 (by decide)).trans h_26
      have h_33 : w_29 1002 = some (ap, .inl (tc 0, 32, .inl gp)) := (g_30 1002 (by decide)).trans h_27
      have hC : cO tc w_29 oa d tk st := hC
      refine lv_aload_n hx hb dL_isSame_157 rfl (lv_at hl 10 rfl) ?_
      refine lv_iload hx hb dL_isSame_158 (lv_at hl 8 rfl) ?_
      refine g_laldN hE hG h_31 i rfl (by omega) (by decide) dL_isSame_160 ?_
      refine lv_iload hx hb dL_isSame_161 (lv_at hl 7 rfl) ?_
      refine lv_iload hx hb dL_isSame_163 (lv_at hl 6 rfl) ?_
      refine g_callS (rest := [.int (m_snd d (nI i).toNatClampNeg (nI (j + 1)).toNatClampNeg)]) (As := [.long (gc i), .int (nI (4 * q)), .int (nI (j + 1))]) hE hG hl.1 (c_L_sounds l hfl D tc A w_29 (gc i) (4 * q) (j + 1) (by omega) (by omega) (by omega)) mw3_56 mw3_57 mw1_0 mw3_58 nm_L_sounds ⟨⟨Nat.le_of_ble_eq_true rfl, Nat.le_of_ble_eq_true rfl⟩, Nat.le_of_ble_eq_true rfl, Nat.le_of_ble_eq_true rfl⟩ rfl rfl (Nat.le_of_ble_eq_true rfl) dL_isSame_165 (g_no) ?_
      intro v9 w9 H locs h9 hG
      obtain ⟨e9, f9⟩ := h9
      rw [f9] at hG; rw [e9]; clear e9 f9
      show W p l e _ s m args below meth c H locs _ _ _ (F0 m 168 ls [.int (f_sdL (gc i) (4 * q) (j + 1) (4 * q)), .int (m_snd d (nI i).toNatClampNeg (nI (j + 1)).toNatClampNeg)])
      refine lv_icmp_ne (tgt := 213) hx hb dL_isSame_168 (by decide) (fun c9 => (c9 (by rw [nI_clamp (by omega), nI_clamp (by omega), ← hlen]; exact (sd_eq hI.1 hI.2.2.1 (by omega) (by omega) (hRA.2 i hi).2.2.2.2.2 (by omega) (by omega)).symm)).elim) (fun c9 => ?_)
      refine lv_aload_n hx hb dL_isSame_171 rfl (lv_at hl 9 rfl) ?_
      refine lv_iload hx hb dL_isSame_172 (lv_at hl 8 rfl) ?_
      refine lv_iload hx hb dL_isSame_174 (lv_at hl 5 rfl) ?_
      refine lv_iload hx hb dL_isSame_176 (lv_at hl 6 rfl) ?_
      refine lv_iload hx hb dL_isSame_178 (lv_at hl 4 rfl) ?_
      refine lv_iload hx hb dL_isSame_180 (lv_at hl 2 rfl) ?_
      obtain ⟨fsz_34, z_34⟩ := cO_z hC
      refine g_callV (rest := []) (As := [.int (nI i), .int (nI pa), .int (nI (j + 1)), .int (nI vl), .int (nI sq)]) hE hG hl.1 (k_stroke l hfl D tc A w_29 oa d tk st (nI i) (nI pa) (nI (j + 1)) (nI vl) (nI sq) hC hI.1 hI.2.2.1 (go_stroke hI.1 (by omega) (by omega) (by omega) hpa hvl hsq)) z_34 rfl mw3_77 mw3_78 mw3_79 mw1_1 mw3_80 rfl nm_X5_stroke ⟨⟨Nat.le_of_ble_eq_true rfl, Nat.le_of_ble_eq_true rfl⟩, Nat.le_of_ble_eq_true rfl, Nat.le_of_ble_eq_true rfl⟩ rfl rfl (Nat.le_of_ble_eq_true rfl) dL_isSame_182 (g_no) ?_
      intro v9 w_35 H locs h9 hG
      obtain ⟨e9, hC, g_36⟩ := h9
      rw [e9]; clear e9
      show W p l e _ s m args below meth c H locs _ _ _ (F0 m 185 ls [.int (m_stroke d (nI i) (nI pa) (nI (j + 1)) (nI vl) (nI sq))])
      have h_37 : w_35 1000 = some (ac, .inl (tc 1, 15, .inr (.inl gc))) := (g_36 1000 (by decide)).trans h_31
      have h_38 : w_35 1001 = some (am, .inl (tc 0, 19, .inl gm)) := (g_36 1001 (by decide)).trans h_32
      have h_39 : w_35 1002 = some (ap, .inl (tc 0, 32, .inl gp)) := (g_36 1002 (by decide)).trans h_33
      have hC : cO tc w_35 oa d tk st := hC
      refine lv_iload hx hb dL_isSame_185 (lv_at hl 0 rfl) ?_
      refine lv_icmp_ne (tgt := 213) hx hb dL_isSame_187 (by decide) (fun c9 => (c9 (by rw [et9, efs]; exact same_stroke hI.1 hI.2.2.1 (by omega) hq4 hlen (hRA.2 i hi).2.2.2.2.2 hj hpa hvl hsq)).elim) (fun c9 => ?_)
      refine lv_aload_n hx hb dL_isSame_190 rfl (lv_at hl 9 rfl) ?_
      refine lv_iload hx hb dL_isSame_191 (lv_at hl 8 rfl) ?_
      refine lv_iload hx hb dL_isSame_193 (lv_at hl 5 rfl) ?_
      refine lv_iload hx hb dL_isSame_195 (lv_at hl 6 rfl) ?_
      refine lv_iload hx hb dL_isSame_197 (lv_at hl 4 rfl) ?_
      refine lv_iload hx hb dL_isSame_199 (lv_at hl 2 rfl) ?_
      obtain ⟨fsz_40, z_40⟩ := cO_z hC
      refine g_callV (rest := []) (As := [.int (nI i), .int (nI pa), .int (nI (j + 1)), .int (nI vl), .int (nI sq)]) hE hG hl.1 (k_strokeAnew l hfl D tc A w_35 oa d tk st (nI i) (nI pa) (nI (j + 1)) (nI vl) (nI sq) hC hI.1 hI.2.2.1 (go_stroke hI.1 (by omega) (by omega) (by omega) hpa hvl hsq)) z_40 rfl mw3_116 mw3_117 mw3_118 mw1_1 mw3_119 rfl nm_X5_strokeAnew ⟨⟨Nat.le_of_ble_eq_true rfl, Nat.le_of_ble_eq_true rfl⟩, Nat.le_of_ble_eq_true rfl, Nat.le_of_ble_eq_true rfl⟩ rfl rfl (Nat.le_of_ble_eq_true rfl) dL_isSame_201 (g_no) ?_
      intro v9 w_41 H locs h9 hG
      obtain ⟨e9, hC, g_42⟩ := h9
      rw [e9]; clear e9
      show W p l e _ s m args below meth c H locs _ _ _ (F0 m 204 ls [.int (m_stroke d (nI i) (nI pa) (nI (j + 1)) (nI vl) (nI sq))])
      have h_43 : w_41 1000 = some (ac, .inl (tc 1, 15, .inr (.inl gc))) := (g_42 1000 (by decide)).trans h_37
      have h_44 : w_41 1001 = some (am, .inl (tc 0, 19, .inl gm)) := (g_42 1001 (by decide)).trans h_38
      have h_45 : w_41 1002 = some (ap, .inl (tc 0, 32, .inl gp)) := (g_42 1002 (by decide)).trans h_39
      have hC : cO tc w_41 oa d tk st := hC
      refine lv_iload hx hb dL_isSame_204 (lv_at hl 0 rfl) ?_
      refine lv_icmp_ne (tgt := 213) hx hb dL_isSame_206 (by decide) (fun c9 => (c9 (by rw [et9, efs]; exact same_stroke hI.1 hI.2.2.1 (by omega) hq4 hlen (hRA.2 i hi).2.2.2.2.2 hj hpa hvl hsq)).elim) (fun c9 => ?_)
      refine lv_iconst (v := 1) hx hb dL_isSame_209 (by decide) ?_
      refine lv_goto (tgt := 214) hx hb dL_isSame_210 (by decide) ?_
      refine lv_istore (lv' := [(14, .int 1), (13, .int (f_stL (nI pa) (nI (kk (4 * pa + vl))) (f_sdL (gc i) (4 * q) fs (4 * q)) (f_sdL (gc i) (4 * q) (fs + 1) (4 * q)) t9)), (12, .int (nI fs)), (11, .int (nI sq)), (10, .int (nI (kk (4 * pa + vl)))), (9, .int (nI vl)), (8, .int (nI pa)), (7, .int (nI (j + 1))), (6, .int (nI (4 * q))), (5, .int (nI i)), (0, .ref oa), (1, .ref ac), (2, .ref am), (3, .ref ap), (4, .int (nI Z))]) hx hb dL_isSame_214 hl (by decide) rfl (fun ls hl => ?_)
      refine lv_iload hx hb dL_isSame_216 (lv_at hl 0 rfl) ?_
      refine lv_if_eq (tgt := 324) hx hb dL_isSame_218 (by decide) (fun c9 => absurd c9 (by decide)) (fun _ => ?_)
      refine lv_aload_n hx hb dL_isSame_221 rfl (lv_at hl 10 rfl) ?_
      refine lv_iconst (v := 0) hx hb dL_isSame_222 (by decide) ?_
      obtain ⟨fsz_46, z_46⟩ := cO_z hC
      refine g_callV (rest := []) (As := [.int 0]) hE hG hl.1 (k_now l hfl D tc A w_41 oa d tk st 0 hC hI.1 (go_now (d := d) 0 (by decide))) z_46 rfl mw1_138 mw1_139 mw1_140 mw1_1 mw1_141 rfl nm_X5_now ⟨⟨Nat.le_of_ble_eq_true rfl, Nat.le_of_ble_eq_true rfl⟩, Nat.le_of_ble_eq_true rfl, Nat.le_of_ble_eq_true rfl⟩ rfl rfl (Nat.le_of_ble_eq_true rfl) dL_isSame_223 (g_no) ?_
      intro v9 w_47 H locs h9 hG
      obtain ⟨e9, hC, g_48⟩ := h9
      rw [e9]; clear e9
      show W p l e _ s m args below meth c H locs _ _ _ (F0 m 226 ls [.int (m_now d 0)])
      have h_49 : w_47 1000 = some (ac, .inl (tc 1, 15, .inr (.inl gc))) := (g_48 1000 (by decide)).trans h_43
      have h_50 : w_47 1001 = some (am, .inl (tc 0, 19, .inl gm)) := (g_48 1001 (by decide)).trans h_44
      have h_51 : w_47 1002 = some (ap, .inl (tc 0, 32, .inl gp)) := (g_48 1002 (by decide)).trans h_45
      have hC : cO tc w_47 oa d tk st := hC
      refine lv_aload_n hx hb dL_isSame_226 rfl (lv_at hl 12 rfl) ?_
      refine lv_bipush (v := 6) hx hb dL_isSame_227 (by decide) ?_
      refine g_ialdN hE hG h_50 6 rfl (by decide) (by decide) dL_isSame_229 ?_
      refine lv_icmp_ne (tgt := 324) hx hb dL_isSame_230 (by decide) (fun c9 => (c9 hnow.1).elim) (fun c9 => ?_)
      refine lv_aload_n hx hb dL_isSame_233 rfl (lv_at hl 10 rfl) ?_
      refine lv_iconst (v := 1) hx hb dL_isSame_234 (by decide) ?_
      obtain ⟨fsz_52, z_52⟩ := cO_z hC
      refine g_callV (rest := []) (As := [.int 1]) hE hG hl.1 (k_now l hfl D tc A w_47 oa d tk st 1 hC hI.1 (go_now (d := d) 1 (by decide))) z_52 rfl mw1_138 mw1_139 mw1_140 mw1_1 mw1_141 rfl nm_X5_now ⟨⟨Nat.le_of_ble_eq_true rfl, Nat.le_of_ble_eq_true rfl⟩, Nat.le_of_ble_eq_true rfl, Nat.le_of_ble_eq_true rfl⟩ rfl rfl (Nat.le_of_ble_eq_true rfl) dL_isSame_235 (g_no) ?_
      intro v9 w_53 H locs h9 hG
      obtain ⟨e9, hC, g_54⟩ := h9
      rw [e9]; clear e9
      show W p l e _ s m args below meth c H locs _ _ _ (F0 m 238 ls [.int (m_now d 1)])
      have h_55 : w_53 1000 = some (ac, .inl (tc 1, 15, .inr (.inl gc))) := (g_54 1000 (by decide)).trans h_49
      have h_56 : w_53 1001 = some (am, .inl (tc 0, 19, .inl gm)) := (g_54 1001 (by decide)).trans h_50
      have h_57 : w_53 1002 = some (ap, .inl (tc 0, 32, .inl gp)) := (g_54 1002 (by decide)).trans h_51
      have hC : cO tc w_53 oa d tk st := hC
      refine lv_aload_n hx hb dL_isSame_238 rfl (lv_at hl 12 rfl) ?_
      refine lv_bipush (v := 7) hx hb dL_isSame_239 (by decide) ?_
      refine g_ialdN hE hG h_56 7 rfl (by decide) (by decide) dL_isSame_241 ?_
      refine lv_icmp_ne (tgt := 324) hx hb dL_isSame_242 (by decide) (fun c9 => (c9 hnow.2.1).elim) (fun c9 => ?_)
      refine lv_aload_n hx hb dL_isSame_245 rfl (lv_at hl 10 rfl) ?_
      refine lv_iconst (v := 2) hx hb dL_isSame_246 (by decide) ?_
      obtain ⟨fsz_58, z_58⟩ := cO_z hC
      refine g_callV (rest := []) (As := [.int 2]) hE hG hl.1 (k_now l hfl D tc A w_53 oa d tk st 2 hC hI.1 (go_now (d := d) 2 (by decide))) z_58 rfl mw1_138 mw1_139 mw1_140 mw1_1 mw1_141 rfl nm_X5_now ⟨⟨Nat.le_of_ble_eq_true rfl, Nat.le_of_ble_eq_true rfl⟩, Nat.le_of_ble_eq_true rfl, Nat.le_of_ble_eq_true rfl⟩ rfl rfl (Nat.le_of_ble_eq_true rfl) dL_isSame_247 (g_no) ?_
      intro v9 w_59 H locs h9 hG
      obtain ⟨e9, hC, g_60⟩ := h9
      rw [e9]; clear e9
      show W p l e _ s m args below meth c H locs _ _ _ (F0 m 250 ls [.int (m_now d 2)])
      have h_61 : w_59 1000 = some (ac, .inl (tc 1, 15, .inr (.inl gc))) := (g_60 1000 (by decide)).trans h_55
      have h_62 : w_59 1001 = some (am, .inl (tc 0, 19, .inl gm)) := (g_60 1001 (by decide)).trans h_56
      have h_63 : w_59 1002 = some (ap, .inl (tc 0, 32, .inl gp)) := (g_60 1002 (by decide)).trans h_57
      have hC : cO tc w_59 oa d tk st := hC
      refine lv_aload_n hx hb dL_isSame_250 rfl (lv_at hl 12 rfl) ?_
      refine lv_bipush (v := 8) hx hb dL_isSame_251 (by decide) ?_
      refine g_ialdN hE hG h_62 8 rfl (by decide) (by decide) dL_isSame_253 ?_
      refine lv_icmp_ne (tgt := 324) hx hb dL_isSame_254 (by decide) (fun c9 => (c9 hnow.2.2.1).elim) (fun c9 => ?_)
      refine lv_aload_n hx hb dL_isSame_257 rfl (lv_at hl 10 rfl) ?_
      refine lv_iconst (v := 3) hx hb dL_isSame_258 (by decide) ?_
      obtain ⟨fsz_64, z_64⟩ := cO_z hC
      refine g_callV (rest := []) (As := [.int 3]) hE hG hl.1 (k_now l hfl D tc A w_59 oa d tk st 3 hC hI.1 (go_now (d := d) 3 (by decide))) z_64 rfl mw1_138 mw1_139 mw1_140 mw1_1 mw1_141 rfl nm_X5_now ⟨⟨Nat.le_of_ble_eq_true rfl, Nat.le_of_ble_eq_true rfl⟩, Nat.le_of_ble_eq_true rfl, Nat.le_of_ble_eq_true rfl⟩ rfl rfl (Nat.le_of_ble_eq_true rfl) dL_isSame_259 (g_no) ?_
      intro v9 w_65 H locs h9 hG
      obtain ⟨e9, hC, g_66⟩ := h9
      rw [e9]; clear e9
      show W p l e _ s m args below meth c H locs _ _ _ (F0 m 262 ls [.int (m_now d 3)])
      have h_67 : w_65 1000 = some (ac, .inl (tc 1, 15, .inr (.inl gc))) := (g_66 1000 (by decide)).trans h_61
      have h_68 : w_65 1001 = some (am, .inl (tc 0, 19, .inl gm)) := (g_66 1001 (by decide)).trans h_62
      have h_69 : w_65 1002 = some (ap, .inl (tc 0, 32, .inl gp)) := (g_66 1002 (by decide)).trans h_63
      have hC : cO tc w_65 oa d tk st := hC
      refine lv_aload_n hx hb dL_isSame_262 rfl (lv_at hl 12 rfl) ?_
      refine lv_bipush (v := 9) hx hb dL_isSame_263 (by decide) ?_
      refine g_ialdN hE hG h_68 9 rfl (by decide) (by decide) dL_isSame_265 ?_
      refine lv_icmp_ne (tgt := 324) hx hb dL_isSame_266 (by decide) (fun c9 => (c9 hnow.2.2.2.1).elim) (fun c9 => ?_)
      refine lv_aload_n hx hb dL_isSame_269 rfl (lv_at hl 10 rfl) ?_
      refine lv_iconst (v := 4) hx hb dL_isSame_270 (by decide) ?_
      obtain ⟨fsz_70, z_70⟩ := cO_z hC
      refine g_callV (rest := []) (As := [.int 4]) hE hG hl.1 (k_now l hfl D tc A w_65 oa d tk st 4 hC hI.1 (go_now (d := d) 4 (by decide))) z_70 rfl mw1_138 mw1_139 mw1_140 mw1_1 mw1_141 rfl nm_X5_now ⟨⟨Nat.le_of_ble_eq_true rfl, Nat.le_of_ble_eq_true rfl⟩, Nat.le_of_ble_eq_true rfl, Nat.le_of_ble_eq_true rfl⟩ rfl rfl (Nat.le_of_ble_eq_true rfl) dL_isSame_271 (g_no) ?_
      intro v9 w_71 H locs h9 hG
      obtain ⟨e9, hC, g_72⟩ := h9
      rw [e9]; clear e9
      show W p l e _ s m args below meth c H locs _ _ _ (F0 m 274 ls [.int (m_now d 4)])
      have h_73 : w_71 1000 = some (ac, .inl (tc 1, 15, .inr (.inl gc))) := (g_72 1000 (by decide)).trans h_67
      have h_74 : w_71 1001 = some (am, .inl (tc 0, 19, .inl gm)) := (g_72 1001 (by decide)).trans h_68
      have h_75 : w_71 1002 = some (ap, .inl (tc 0, 32, .inl gp)) := (g_72 1002 (by decide)).trans h_69
      have hC : cO tc w_71 oa d tk st := hC
      refine lv_aload_n hx hb dL_isSame_274 rfl (lv_at hl 12 rfl) ?_
      refine lv_iconst (v := 4) hx hb dL_isSame_275 (by decide) ?_
      refine g_ialdN hE hG h_74 4 rfl (by decide) (by decide) dL_isSame_276 ?_
      refine lv_icmp_ne (tgt := 324) hx hb dL_isSame_277 (by decide) (fun c9 => (c9 hnow.2.2.2.2.1).elim) (fun c9 => ?_)
      refine lv_aload_n hx hb dL_isSame_280 rfl (lv_at hl 10 rfl) ?_
      refine lv_iconst (v := 5) hx hb dL_isSame_281 (by decide) ?_
      obtain ⟨fsz_76, z_76⟩ := cO_z hC
      refine g_callV (rest := []) (As := [.int 5]) hE hG hl.1 (k_now l hfl D tc A w_71 oa d tk st 5 hC hI.1 (go_now (d := d) 5 (by decide))) z_76 rfl mw1_138 mw1_139 mw1_140 mw1_1 mw1_141 rfl nm_X5_now ⟨⟨Nat.le_of_ble_eq_true rfl, Nat.le_of_ble_eq_true rfl⟩, Nat.le_of_ble_eq_true rfl, Nat.le_of_ble_eq_true rfl⟩ rfl rfl (Nat.le_of_ble_eq_true rfl) dL_isSame_282 (g_no) ?_
      intro v9 w_77 H locs h9 hG
      obtain ⟨e9, hC, g_78⟩ := h9
      rw [e9]; clear e9
      show W p l e _ s m args below meth c H locs _ _ _ (F0 m 285 ls [.int (m_now d 5)])
      have h_79 : w_77 1000 = some (ac, .inl (tc 1, 15, .inr (.inl gc))) := (g_78 1000 (by decide)).trans h_73
      have h_80 : w_77 1001 = some (am, .inl (tc 0, 19, .inl gm)) := (g_78 1001 (by decide)).trans h_74
      have h_81 : w_77 1002 = some (ap, .inl (tc 0, 32, .inl gp)) := (g_78 1002 (by decide)).trans h_75
      have hC : cO tc w_77 oa d tk st := hC
      refine lv_aload_n hx hb dL_isSame_285 rfl (lv_at hl 12 rfl) ?_
      refine lv_iconst (v := 5) hx hb dL_isSame_286 (by decide) ?_
      refine g_ialdN hE hG h_80 5 rfl (by decide) (by decide) dL_isSame_287 ?_
      refine lv_icmp_ne (tgt := 324) hx hb dL_isSame_288 (by decide) (fun c9 => (c9 hnow.2.2.2.2.2).elim) (fun c9 => ?_)
      refine lv_aload_n hx hb dL_isSame_291 rfl (lv_at hl 10 rfl) ?_
      obtain ⟨fsz_82, z_82⟩ := cO_z hC
      refine g_callV (rest := []) (As := []) hE hG hl.1 (k_ticks l hfl D tc A w_77 oa d tk st hC hI.1) z_82 rfl mw3_120 mw3_121 mw3_122 mw1_1 mw3_123 rfl nm_X5_ticks ⟨⟨Nat.le_of_ble_eq_true rfl, Nat.le_of_ble_eq_true rfl⟩, Nat.le_of_ble_eq_true rfl, Nat.le_of_ble_eq_true rfl⟩ rfl rfl (Nat.le_of_ble_eq_true rfl) dL_isSame_292 (g_no) ?_
      intro v9 w_83 H locs h9 hG
      obtain ⟨e9, hC, g_84⟩ := h9
      rw [e9]; clear e9
      show W p l e _ s m args below meth c H locs _ _ _ (F0 m 295 ls [.long tk])
      have h_85 : w_83 1000 = some (ac, .inl (tc 1, 15, .inr (.inl gc))) := (g_84 1000 (by decide)).trans h_79
      have h_86 : w_83 1001 = some (am, .inl (tc 0, 19, .inl gm)) := (g_84 1001 (by decide)).trans h_80
      have h_87 : w_83 1002 = some (ap, .inl (tc 0, 32, .inl gp)) := (g_84 1002 (by decide)).trans h_81
      refine lv_aload_n hx hb dL_isSame_295 rfl (lv_at hl 11 rfl) ?_
      refine lv_bipush (v := 10) hx hb dL_isSame_296 (by decide) ?_
      refine g_laldN hE hG h_85 10 rfl (by decide) (by decide) dL_isSame_298 ?_
      refine W.lcmp hx hb dL_isSame_299 ?_
      refine lv_if_ne (tgt := 324) hx hb dL_isSame_300 (by decide) (fun c9 => (c9 (by rw [hRT.1]; exact lg_self _)).elim) (fun c9 => ?_)
      refine lv_aload_n hx hb dL_isSame_303 rfl (lv_at hl 10 rfl) ?_
      refine lv_iload hx hb dL_isSame_304 (lv_at hl 6 rfl) ?_
      obtain ⟨fsz_88, z_88⟩ := cO_z hC
      refine g_callV (rest := []) (As := [.int (nI pa)]) hE hG hl.1 (k_strokes l hfl D tc A w_83 oa d tk st (nI pa) hC hI.1 (isPart_o hpa)) z_88 rfl mw3_124 mw3_125 mw3_126 mw1_1 mw3_127 rfl nm_X5_strokes ⟨⟨Nat.le_of_ble_eq_true rfl, Nat.le_of_ble_eq_true rfl⟩, Nat.le_of_ble_eq_true rfl, Nat.le_of_ble_eq_true rfl⟩ rfl rfl (Nat.le_of_ble_eq_true rfl) dL_isSame_306 (g_no) ?_
      intro v9 w_89 H locs h9 hG
      obtain ⟨e9, hC, g_90⟩ := h9
      rw [e9]; clear e9
      show W p l e _ s m args below meth c H locs _ _ _ (F0 m 309 ls [.long (st (nI pa).toNatClampNeg)])
      have h_91 : w_89 1000 = some (ac, .inl (tc 1, 15, .inr (.inl gc))) := (g_90 1000 (by decide)).trans h_85
      have h_92 : w_89 1001 = some (am, .inl (tc 0, 19, .inl gm)) := (g_90 1001 (by decide)).trans h_86
      have h_93 : w_89 1002 = some (ap, .inl (tc 0, 32, .inl gp)) := (g_90 1002 (by decide)).trans h_87
      refine lv_aload_n hx hb dL_isSame_309 rfl (lv_at hl 11 rfl) ?_
      refine lv_bipush (v := 11) hx hb dL_isSame_310 (by decide) ?_
      refine lv_iload hx hb dL_isSame_312 (lv_at hl 6 rfl) ?_
      refine lv_iadd hx hb dL_isSame_314 ?_
      refine lv_topi (fun k_94 ek_94 => ?_)
      obtain rfl : k_94 = nI (11 + pa) := ek_94.trans (nI_add 11 pa)
      refine g_laldN hE hG h_91 (11 + pa) rfl (by omega) (by decide) dL_isSame_315 ?_
      refine W.lcmp hx hb dL_isSame_316 ?_
      refine lv_if_ne (tgt := 324) hx hb dL_isSame_317 (by decide) (fun c9 => (c9 (by rw [nI_clamp (by omega), hRT.2 pa hpa]; exact lg_self _)).elim) (fun c9 => ?_)
      refine lv_iconst (v := 1) hx hb dL_isSame_320 (by decide) ?_
      refine lv_goto (tgt := 325) hx hb dL_isSame_321 (by decide) ?_
      refine lv_istore (lv' := [(14, .int 1), (13, .int (f_stL (nI pa) (nI (kk (4 * pa + vl))) (f_sdL (gc i) (4 * q) fs (4 * q)) (f_sdL (gc i) (4 * q) (fs + 1) (4 * q)) t9)), (12, .int (nI fs)), (11, .int (nI sq)), (10, .int (nI (kk (4 * pa + vl)))), (9, .int (nI vl)), (8, .int (nI pa)), (7, .int (nI (j + 1))), (6, .int (nI (4 * q))), (5, .int (nI i)), (0, .ref oa), (1, .ref ac), (2, .ref am), (3, .ref ap), (4, .int (nI Z))]) hx hb dL_isSame_325 hl (by decide) rfl (fun ls hl => ?_)
      refine lv_iload hx hb dL_isSame_327 (lv_at hl 14 rfl) ?_
      refine lv_iconst (v := 3) hx hb dL_isSame_329 (by decide) ?_
      refine lv_idiv hx hb dL_isSame_330 (by decide) ?_
      refine lv_topi (fun k_95 ek_95 => ?_)
      obtain rfl : k_95 = nI (Z / 3) := ek_95.trans (pk_div (a := Z) (d := 3) (by omega) (by omega) (by omega))
      refine lv_iconst (v := 4) hx hb dL_isSame_331 (by decide) ?_
      refine lv_irem hx hb dL_isSame_332 (by decide) ?_
      refine lv_topi (fun k_96 ek_96 => ?_)
      obtain rfl : k_96 = nI ((Z / 3) % 4) := ek_96.trans (pk_rem (a := (Z / 3)) (d := 4) (by omega) (by omega) (by omega))
      refine lv_topi (fun k_97 ek_97 => ?_)
      obtain ⟨u1, hu1, rfl⟩ : ∃ u1 : Nat, (u1 < 4) ∧ k_97 = nI u1 := ⟨(Z / 3) % 4, by omega, ek_97⟩
      refine lv_istore (lv' := [(15, .int (nI u1)), (14, .int 1), (13, .int (f_stL (nI pa) (nI (kk (4 * pa + vl))) (f_sdL (gc i) (4 * q) fs (4 * q)) (f_sdL (gc i) (4 * q) (fs + 1) (4 * q)) t9)), (12, .int (nI fs)), (11, .int (nI sq)), (10, .int (nI (kk (4 * pa + vl)))), (9, .int (nI vl)), (8, .int (nI pa)), (7, .int (nI (j + 1))), (6, .int (nI (4 * q))), (5, .int (nI i)), (0, .ref oa), (1, .ref ac), (2, .ref am), (3, .ref ap), (4, .int (nI Z))]) hx hb dL_isSame_333 hl (by decide) rfl (fun ls hl => ?_)
      refine lv_iload hx hb dL_isSame_335 (lv_at hl 15 rfl) ?_
      refine lv_bipush (v := 12) hx hb dL_isSame_337 (by decide) ?_
      refine lv_idiv hx hb dL_isSame_339 (by decide) ?_
      refine lv_topi (fun k_98 ek_98 => ?_)
      obtain rfl : k_98 = nI (Z / 12) := ek_98.trans (pk_div (a := Z) (d := 12) (by omega) (by omega) (by omega))
      refine lv_iconst (v := 4) hx hb dL_isSame_340 (by decide) ?_
      refine lv_irem hx hb dL_isSame_341 (by decide) ?_
      refine lv_topi (fun k_99 ek_99 => ?_)
      obtain rfl : k_99 = nI ((Z / 12) % 4) := ek_99.trans (pk_rem (a := (Z / 12)) (d := 4) (by omega) (by omega) (by omega))
      refine lv_topi (fun k_100 ek_100 => ?_)
      obtain ⟨u2, hu2, rfl⟩ : ∃ u2 : Nat, (u2 < 4) ∧ k_100 = nI u2 := ⟨(Z / 12) % 4, by omega, ek_100⟩
      refine lv_istore (lv' := [(16, .int (nI u2)), (15, .int (nI u1)), (14, .int 1), (13, .int (f_stL (nI pa) (nI (kk (4 * pa + vl))) (f_sdL (gc i) (4 * q) fs (4 * q)) (f_sdL (gc i) (4 * q) (fs + 1) (4 * q)) t9)), (12, .int (nI fs)), (11, .int (nI sq)), (10, .int (nI (kk (4 * pa + vl)))), (9, .int (nI vl)), (8, .int (nI pa)), (7, .int (nI (j + 1))), (6, .int (nI (4 * q))), (5, .int (nI i)), (0, .ref oa), (1, .ref ac), (2, .ref am), (3, .ref ap), (4, .int (nI Z))]) hx hb dL_isSame_342 hl (by decide) rfl (fun ls hl => ?_)
      refine lv_iload hx hb dL_isSame_344 (lv_at hl 16 rfl) ?_
      refine lv_bipush (v := 48) hx hb dL_isSame_346 (by decide) ?_
      refine lv_idiv hx hb dL_isSame_348 (by decide) ?_
      refine lv_topi (fun k_101 ek_101 => ?_)
      obtain rfl : k_101 = nI (Z / 48) := ek_101.trans (pk_div (a := Z) (d := 48) (by omega) (by omega) (by omega))
      refine lv_bipush (v := 7) hx hb dL_isSame_349 (by decide) ?_
      refine lv_irem hx hb dL_isSame_351 (by decide) ?_
      refine lv_topi (fun k_102 ek_102 => ?_)
      obtain rfl : k_102 = nI ((Z / 48) % 7) := ek_102.trans (pk_rem (a := (Z / 48)) (d := 7) (by omega) (by omega) (by omega))
      refine lv_topi (fun k_103 ek_103 => ?_)
      obtain ⟨tn, htn, rfl⟩ : ∃ tn : Nat, (tn < 7) ∧ k_103 = nI tn := ⟨(Z / 48) % 7, by omega, ek_103⟩
      refine lv_istore (lv' := [(17, .int (nI tn)), (16, .int (nI u2)), (15, .int (nI u1)), (14, .int 1), (13, .int (f_stL (nI pa) (nI (kk (4 * pa + vl))) (f_sdL (gc i) (4 * q) fs (4 * q)) (f_sdL (gc i) (4 * q) (fs + 1) (4 * q)) t9)), (12, .int (nI fs)), (11, .int (nI sq)), (10, .int (nI (kk (4 * pa + vl)))), (9, .int (nI vl)), (8, .int (nI pa)), (7, .int (nI (j + 1))), (6, .int (nI (4 * q))), (5, .int (nI i)), (0, .ref oa), (1, .ref ac), (2, .ref am), (3, .ref ap), (4, .int (nI Z))]) hx hb dL_isSame_352 hl (by decide) rfl (fun ls hl => ?_)
      refine lv_aload_n hx hb dL_isSame_354 rfl (lv_at hl 16 rfl) ?_
      refine lv_bipush (v := 7) hx hb dL_isSame_355 (by decide) ?_
      refine lv_iload hx hb dL_isSame_357 (lv_at hl 2 rfl) ?_
      refine lv_imul hx hb dL_isSame_359 ?_
      refine lv_topi (fun k_104 ek_104 => ?_)
      obtain rfl : k_104 = nI (7 * u1) := ek_104.trans (pk_mul 7 u1)
      refine lv_iload hx hb dL_isSame_360 (lv_at hl 0 rfl) ?_
      refine lv_iadd hx hb dL_isSame_362 ?_
      refine lv_topi (fun k_105 ek_105 => ?_)
      obtain rfl : k_105 = nI ((7 * u1) + tn) := ek_105.trans (nI_add (7 * u1) tn)
      refine g_ialdN hE hG h_93 ((7 * u1) + tn) rfl (by omega) (by decide) dL_isSame_363 ?_
      refine lv_aload_n hx hb dL_isSame_364 rfl (lv_at hl 16 rfl) ?_
      refine lv_bipush (v := 7) hx hb dL_isSame_365 (by decide) ?_
      refine lv_iload hx hb dL_isSame_367 (lv_at hl 1 rfl) ?_
      refine lv_imul hx hb dL_isSame_369 ?_
      refine lv_topi (fun k_106 ek_106 => ?_)
      obtain rfl : k_106 = nI (7 * u2) := ek_106.trans (pk_mul 7 u2)
      refine lv_iload hx hb dL_isSame_370 (lv_at hl 0 rfl) ?_
      refine lv_iadd hx hb dL_isSame_372 ?_
      refine lv_topi (fun k_107 ek_107 => ?_)
      obtain rfl : k_107 = nI ((7 * u2) + tn) := ek_107.trans (nI_add (7 * u2) tn)
      refine g_ialdN hE hG h_93 ((7 * u2) + tn) rfl (by omega) (by decide) dL_isSame_373 ?_
      refine lv_isub hx hb dL_isSame_374 ?_
      refine lv_istore (lv' := [(18, .int ((gp ((7 * u1) + tn)) - (gp ((7 * u2) + tn)))), (17, .int (nI tn)), (16, .int (nI u2)), (15, .int (nI u1)), (14, .int 1), (13, .int (f_stL (nI pa) (nI (kk (4 * pa + vl))) (f_sdL (gc i) (4 * q) fs (4 * q)) (f_sdL (gc i) (4 * q) (fs + 1) (4 * q)) t9)), (12, .int (nI fs)), (11, .int (nI sq)), (10, .int (nI (kk (4 * pa + vl)))), (9, .int (nI vl)), (8, .int (nI pa)), (7, .int (nI (j + 1))), (6, .int (nI (4 * q))), (5, .int (nI i)), (0, .ref oa), (1, .ref ac), (2, .ref am), (3, .ref ap), (4, .int (nI Z))]) hx hb dL_isSame_375 hl (by decide) rfl (fun ls hl => ?_)
      refine lv_iload hx hb dL_isSame_377 (lv_at hl 4 rfl) ?_
      refine lv_if_eq (tgt := 430) hx hb dL_isSame_379 (by decide) (fun c9 => absurd c9 (by decide)) (fun _ => ?_)
      refine lv_aload_n hx hb dL_isSame_382 rfl (lv_at hl 14 rfl) ?_
      refine lv_iload hx hb dL_isSame_383 (lv_at hl 3 rfl) ?_
      refine lv_iload hx hb dL_isSame_385 (lv_at hl 2 rfl) ?_
      refine lv_iload hx hb dL_isSame_387 (lv_at hl 1 rfl) ?_
      refine lv_iconst (v := 1) hx hb dL_isSame_389 (by decide) ?_
      refine lv_iadd hx hb dL_isSame_390 ?_
      refine lv_topi (fun k_108 ek_108 => ?_)
      obtain rfl : k_108 = nI (tn + 1) := ek_108.trans (nI_add tn 1)
      obtain ⟨fsz_109, z_109⟩ := cO_z hC
      refine g_callV (rest := []) (As := [.int (nI u1), .int (nI u2), .int (nI (tn + 1))]) hE hG hl.1 (k_beat l hfl D tc A w_89 oa d tk st (nI u1) (nI u2) (nI (tn + 1)) hC hI.1 (go_beat hu1 hu2 htn)) z_109 rfl mw3_132 mw3_133 mw3_134 mw1_1 mw3_135 rfl nm_X5_beat ⟨⟨Nat.le_of_ble_eq_true rfl, Nat.le_of_ble_eq_true rfl⟩, Nat.le_of_ble_eq_true rfl, Nat.le_of_ble_eq_true rfl⟩ rfl rfl (Nat.le_of_ble_eq_true rfl) dL_isSame_391 (g_no) ?_
      intro v9 w_110 H locs h9 hG
      obtain ⟨e9, hC, g_111⟩ := h9
      rw [e9]; clear e9
      show W p l e _ s m args below meth c H locs _ _ _ (F0 m 394 ls [.int (m_beat d (nI u1) (nI u2) (nI (tn + 1)))])
      have h_112 : w_110 1000 = some (ac, .inl (tc 1, 15, .inr (.inl gc))) := (g_111 1000 (by decide)).trans h_91
      have h_113 : w_110 1001 = some (am, .inl (tc 0, 19, .inl gm)) := (g_111 1001 (by decide)).trans h_92
      have h_114 : w_110 1002 = some (ap, .inl (tc 0, 32, .inl gp)) := (g_111 1002 (by decide)).trans h_93
      have hC : cO tc w_110 oa d tk st := hC
      refine lv_iload hx hb dL_isSame_394 (lv_at hl 0 rfl) ?_
      have j_116 : ∀ (v_115 : Int32) (H : Heap) (locs : List Loc), v_115 = (if 0 ≤ ((gp ((7 * u1) + tn)) - (gp ((7 * u2) + tn))) then ((gp ((7 * u1) + tn)) - (gp ((7 * u2) + tn))) else (-((gp ((7 * u1) + tn)) - (gp ((7 * u2) + tn)))) : Int32) → gS D A s.heap w_110 H locs → W p l e rm_L_isSame s m args below meth c H locs (((((((((((((((((((0 + rm_L_density.cells) + rm_L_sounds.cells) + rm_L_sounds.cells) + rm_L_stroke.cells) + rm_X5_depth.cells) + rm_L_depth.cells) + rm_X5_sounds.cells) + rm_L_sounds.cells) + rm_X5_stroke.cells) + rm_X5_strokeAnew.cells) + rm_X5_now.cells) + rm_X5_now.cells) + rm_X5_now.cells) + rm_X5_now.cells) + rm_X5_now.cells) + rm_X5_now.cells) + rm_X5_ticks.cells) + rm_X5_strokes.cells) + rm_X5_beat.cells) (((((((((((((((((((0 + rm_L_density.slots) + rm_L_sounds.slots) + rm_L_sounds.slots) + rm_L_stroke.slots) + rm_X5_depth.slots) + rm_L_depth.slots) + rm_X5_sounds.slots) + rm_L_sounds.slots) + rm_X5_stroke.slots) + rm_X5_strokeAnew.slots) + rm_X5_now.slots) + rm_X5_now.slots) + rm_X5_now.slots) + rm_X5_now.slots) + rm_X5_now.slots) + rm_X5_now.slots) + rm_X5_ticks.slots) + rm_X5_strokes.slots) + rm_X5_beat.slots) Q (F0 m 407 ls (.int v_115 :: [.int (m_beat d (nI u1) (nI u2) (nI (tn + 1)))])) := by
        intro v_115 H locs ev_115 hG
        refine lv_icmp_ne (tgt := 430) hx hb dL_isSame_407 (by decide) (fun c9 => (c9 ((same_beat hRP hu1 hu2 htn).trans ev_115.symm)).elim) (fun c9 => ?_)
        refine lv_aload_n hx hb dL_isSame_410 rfl (lv_at hl 14 rfl) ?_
        refine lv_iload hx hb dL_isSame_411 (lv_at hl 13 rfl) ?_
        obtain ⟨fsz_117, z_117⟩ := cO_z hC
        refine g_callV (rest := []) (As := [.int (nI i)]) hE hG hl.1 (k_covered l hfl D tc A w_110 oa d tk st (nI i) hC hI.1 (go_covered hI.1 (by omega))) z_117 rfl mw3_136 mw3_137 mw3_138 mw1_1 mw3_139 rfl nm_X5_covered ⟨⟨Nat.le_of_ble_eq_true rfl, Nat.le_of_ble_eq_true rfl⟩, Nat.le_of_ble_eq_true rfl, Nat.le_of_ble_eq_true rfl⟩ rfl rfl (Nat.le_of_ble_eq_true rfl) dL_isSame_413 (g_no) ?_
        intro v9 w_118 H locs h9 hG
        obtain ⟨e9, hC, g_119⟩ := h9
        rw [e9]; clear e9
        show W p l e _ s m args below meth c H locs _ _ _ (F0 m 416 ls [.int (m_most (m_cv d (nI i).toNatClampNeg (nU d)) 16)])
        have h_120 : w_118 1000 = some (ac, .inl (tc 1, 15, .inr (.inl gc))) := (g_119 1000 (by decide)).trans h_112
        have h_121 : w_118 1001 = some (am, .inl (tc 0, 19, .inl gm)) := (g_119 1001 (by decide)).trans h_113
        have h_122 : w_118 1002 = some (ap, .inl (tc 0, 32, .inl gp)) := (g_119 1002 (by decide)).trans h_114
        have hC : cO tc w_118 oa d tk st := hC
        refine lv_aload_n hx hb dL_isSame_416 rfl (lv_at hl 15 rfl) ?_
        refine lv_aload_n hx hb dL_isSame_417 rfl (lv_at hl 16 rfl) ?_
        refine lv_iload hx hb dL_isSame_418 (lv_at hl 13 rfl) ?_
        refine g_callS (rest := [.int (m_most (m_cv d (nI i).toNatClampNeg (nU d)) 16)]) (As := [.ref ac, .ref am, .int (nI i)]) hE hG hl.1 (c_L_covered l hfl D tc A w_118 gc gm ac am i (fun k => decide (¬ d 7 (6 * k + i) = 0)) (fun k => (d 6 k).toNatClampNeg) h_120 h_121 (by omega) (same_cov hRU).1 ((same_cov hRU).2 i hi)) mw3_153 mw3_154 mw1_0 mw3_155 nm_L_covered ⟨⟨Nat.le_of_ble_eq_true rfl, Nat.le_of_ble_eq_true rfl⟩, Nat.le_of_ble_eq_true rfl, Nat.le_of_ble_eq_true rfl⟩ rfl rfl (Nat.le_of_ble_eq_true rfl) dL_isSame_420 (g_no) ?_
        intro v9 w9 H locs h9 hG
        obtain ⟨e9, f9⟩ := h9
        rw [f9] at hG; rw [e9]; clear e9 f9
        show W p l e _ s m args below meth c H locs _ _ _ (F0 m 423 ls [.int (nI (cvM (fun k => decide (¬ d 7 (6 * k + i) = 0)) (fun k => (d 6 k).toNatClampNeg) 625)), .int (m_most (m_cv d (nI i).toNatClampNeg (nU d)) 16)])
        refine lv_icmp_ne (tgt := 430) hx hb dL_isSame_423 (by decide) (fun c9 => (c9 (by rw [nI_clamp (by omega), hnU]; exact (cov_eq (fun k hk => rfl) (fun k hk => ⟨((same_cov hRU).1 k hk).1, by obtain ⟨h8, ⟨a9, h9, e9⟩, -⟩ := hRU k hk; rw [e9, nI_clamp (by omega)]⟩)).symm)).elim) (fun c9 => ?_)
        refine lv_iconst (v := 1) hx hb dL_isSame_426 (by decide) ?_
        refine lv_goto (tgt := 431) hx hb dL_isSame_427 (by decide) ?_
        refine lv_istore (lv' := [(14, .int 1), (18, .int ((gp ((7 * u1) + tn)) - (gp ((7 * u2) + tn)))), (17, .int (nI tn)), (16, .int (nI u2)), (15, .int (nI u1)), (13, .int (f_stL (nI pa) (nI (kk (4 * pa + vl))) (f_sdL (gc i) (4 * q) fs (4 * q)) (f_sdL (gc i) (4 * q) (fs + 1) (4 * q)) t9)), (12, .int (nI fs)), (11, .int (nI sq)), (10, .int (nI (kk (4 * pa + vl)))), (9, .int (nI vl)), (8, .int (nI pa)), (7, .int (nI (j + 1))), (6, .int (nI (4 * q))), (5, .int (nI i)), (0, .ref oa), (1, .ref ac), (2, .ref am), (3, .ref ap), (4, .int (nI Z))]) hx hb dL_isSame_431 hl (by decide) rfl (fun ls hl => ?_)
        refine lv_aload_n hx hb dL_isSame_433 rfl (lv_at hl 15 rfl) ?_
        refine lv_iconst (v := 2) hx hb dL_isSame_434 (by decide) ?_
        refine lv_iconst (v := 2) hx hb dL_isSame_435 (by decide) ?_
        refine lv_iload hx hb dL_isSame_436 (lv_at hl 4 rfl) ?_
        refine lv_imul hx hb dL_isSame_438 ?_
        refine lv_topi (fun k_123 ek_123 => ?_)
        obtain rfl : k_123 = nI (2 * u1) := ek_123.trans (pk_mul 2 u1)
        refine lv_iadd hx hb dL_isSame_439 ?_
        refine lv_topi (fun k_124 ek_124 => ?_)
        obtain rfl : k_124 = nI (2 + (2 * u1)) := ek_124.trans (nI_add 2 (2 * u1))
        refine lv_iload hx hb dL_isSame_440 (lv_at hl 13 rfl) ?_
        refine lv_iadd hx hb dL_isSame_442 ?_
        refine lv_topi (fun k_125 ek_125 => ?_)
        obtain rfl : k_125 = nI ((2 + (2 * u1)) + i) := ek_125.trans (nI_add (2 + (2 * u1)) i)
        refine g_laldN hE hG h_120 ((2 + (2 * u1)) + i) rfl (by omega) (by decide) dL_isSame_443 ?_
        refine lv_lstore (lv' := [(19, .long (gc ((2 + (2 * u1)) + i))), (14, .int 1), (18, .int ((gp ((7 * u1) + tn)) - (gp ((7 * u2) + tn)))), (17, .int (nI tn)), (16, .int (nI u2)), (15, .int (nI u1)), (13, .int (f_stL (nI pa) (nI (kk (4 * pa + vl))) (f_sdL (gc i) (4 * q) fs (4 * q)) (f_sdL (gc i) (4 * q) (fs + 1) (4 * q)) t9)), (12, .int (nI fs)), (11, .int (nI sq)), (10, .int (nI (kk (4 * pa + vl)))), (9, .int (nI vl)), (8, .int (nI pa)), (7, .int (nI (j + 1))), (6, .int (nI (4 * q))), (5, .int (nI i)), (0, .ref oa), (1, .ref ac), (2, .ref am), (3, .ref ap), (4, .int (nI Z))]) hx hb dL_isSame_444 hl (by decide) rfl (fun ls hl => ?_)
        have hru := (hRU u1 hu1).2.2 i hi
        refine lv_iload hx hb dL_isSame_446 (lv_at hl 19 rfl) ?_
        refine lv_sipush (v := 400) hx hb dL_isSame_448 (by decide) ?_
        refine lv_idiv hx hb dL_isSame_451 (by decide) ?_
        refine lv_topi (fun k_126 ek_126 => ?_)
        obtain rfl : k_126 = nI (Z / 400) := ek_126.trans (pk_div (a := Z) (d := 400) (by omega) (by omega) (by omega))
        refine lv_iconst (v := 2) hx hb dL_isSame_452 (by decide) ?_
        refine lv_irem hx hb dL_isSame_453 (by decide) ?_
        refine lv_topi (fun k_127 ek_127 => ?_)
        obtain rfl : k_127 = nI ((Z / 400) % 2) := ek_127.trans (pk_rem (a := (Z / 400)) (d := 2) (by omega) (by omega) (by omega))
        refine lv_if_ne (tgt := 464) hx hb dL_isSame_454 (by decide) (fun c_128 => ?_) (fun c_128 => ?_)
        · skip
          have nc_128 : ¬ (((Z / 400) % 2) = 0) := fun h9 => c_128 ((nI_eq (a := ((Z / 400) % 2)) (b := 0) (by omega) (by omega)).mpr h9)
          refine lv_aload_n hx hb dL_isSame_464 rfl (lv_at hl 16 rfl) ?_
          refine lv_iconst (v := 2) hx hb dL_isSame_465 (by decide) ?_
          refine lv_iconst (v := 2) hx hb dL_isSame_466 (by decide) ?_
          refine lv_iload hx hb dL_isSame_467 (lv_at hl 4 rfl) ?_
          refine lv_imul hx hb dL_isSame_469 ?_
          refine lv_topi (fun k_129 ek_129 => ?_)
          obtain rfl : k_129 = nI (2 * u2) := ek_129.trans (pk_mul 2 u2)
          refine lv_iadd hx hb dL_isSame_470 ?_
          refine lv_topi (fun k_130 ek_130 => ?_)
          obtain rfl : k_130 = nI (2 + (2 * u2)) := ek_130.trans (nI_add 2 (2 * u2))
          refine lv_iload hx hb dL_isSame_471 (lv_at hl 14 rfl) ?_
          refine lv_iadd hx hb dL_isSame_473 ?_
          refine lv_topi (fun k_131 ek_131 => ?_)
          obtain rfl : k_131 = nI ((2 + (2 * u2)) + i) := ek_131.trans (nI_add (2 + (2 * u2)) i)
          refine g_laldN hE hG h_120 ((2 + (2 * u2)) + i) rfl (by omega) (by decide) dL_isSame_474 ?_
          refine lv_lstore (lv' := [(21, .long (gc ((2 + (2 * u2)) + i))), (19, .long (gc ((2 + (2 * u1)) + i))), (14, .int 1), (18, .int ((gp ((7 * u1) + tn)) - (gp ((7 * u2) + tn)))), (17, .int (nI tn)), (16, .int (nI u2)), (15, .int (nI u1)), (13, .int (f_stL (nI pa) (nI (kk (4 * pa + vl))) (f_sdL (gc i) (4 * q) fs (4 * q)) (f_sdL (gc i) (4 * q) (fs + 1) (4 * q)) t9)), (12, .int (nI fs)), (11, .int (nI sq)), (10, .int (nI (kk (4 * pa + vl)))), (9, .int (nI vl)), (8, .int (nI pa)), (7, .int (nI (j + 1))), (6, .int (nI (4 * q))), (5, .int (nI i)), (0, .ref oa), (1, .ref ac), (2, .ref am), (3, .ref ap), (4, .int (nI Z))]) hx hb dL_isSame_475 hl (by decide) rfl (fun ls hl => ?_)
          rcases hru with ⟨hk1, hr1⟩ | ⟨hk1, hr1⟩
          · skip
            rcases (hRU u2 hu2).2.2 i hi with ⟨hk2, hr2⟩ | ⟨hk2, hr2⟩
            · skip
              refine lv_iconst (v := 0) hx hb dL_isSame_477 (by decide) ?_
              refine lv_istore (lv' := [(23, .int 0), (21, .long (gc ((2 + (2 * u2)) + i))), (19, .long (gc ((2 + (2 * u1)) + i))), (14, .int 1), (18, .int ((gp ((7 * u1) + tn)) - (gp ((7 * u2) + tn)))), (17, .int (nI tn)), (16, .int (nI u2)), (15, .int (nI u1)), (13, .int (f_stL (nI pa) (nI (kk (4 * pa + vl))) (f_sdL (gc i) (4 * q) fs (4 * q)) (f_sdL (gc i) (4 * q) (fs + 1) (4 * q)) t9)), (12, .int (nI fs)), (11, .int (nI sq)), (10, .int (nI (kk (4 * pa + vl)))), (9, .int (nI vl)), (8, .int (nI pa)), (7, .int (nI (j + 1))), (6, .int (nI (4 * q))), (5, .int (nI i)), (0, .ref oa), (1, .ref ac), (2, .ref am), (3, .ref ap), (4, .int (nI Z))]) hx hb dL_isSame_478 hl (by decide) rfl (fun ls hl => ?_)
              refine lv_iconst (v := 1) hx hb dL_isSame_480 (by decide) ?_
              refine lv_istore (lv' := [(24, .int 1), (23, .int 0), (21, .long (gc ((2 + (2 * u2)) + i))), (19, .long (gc ((2 + (2 * u1)) + i))), (14, .int 1), (18, .int ((gp ((7 * u1) + tn)) - (gp ((7 * u2) + tn)))), (17, .int (nI tn)), (16, .int (nI u2)), (15, .int (nI u1)), (13, .int (f_stL (nI pa) (nI (kk (4 * pa + vl))) (f_sdL (gc i) (4 * q) fs (4 * q)) (f_sdL (gc i) (4 * q) (fs + 1) (4 * q)) t9)), (12, .int (nI fs)), (11, .int (nI sq)), (10, .int (nI (kk (4 * pa + vl)))), (9, .int (nI vl)), (8, .int (nI pa)), (7, .int (nI (j + 1))), (6, .int (nI (4 * q))), (5, .int (nI i)), (0, .ref oa), (1, .ref ac), (2, .ref am), (3, .ref ap), (4, .int (nI Z))]) hx hb dL_isSame_481 hl (by decide) rfl (fun ls hl => ?_)
              have hl : lv_has ls 25 [(24, .int (nI (0 + 1))), (23, .int 0), (21, .long (gc ((2 + (2 * u2)) + i))), (19, .long (gc ((2 + (2 * u1)) + i))), (14, .int 1), (18, .int ((gp ((7 * u1) + tn)) - (gp ((7 * u2) + tn)))), (17, .int (nI tn)), (16, .int (nI u2)), (15, .int (nI u1)), (13, .int (f_stL (nI pa) (nI (kk (4 * pa + vl))) (f_sdL (gc i) (4 * q) fs (4 * q)) (f_sdL (gc i) (4 * q) (fs + 1) (4 * q)) t9)), (12, .int (nI fs)), (11, .int (nI sq)), (10, .int (nI (kk (4 * pa + vl)))), (9, .int (nI vl)), (8, .int (nI pa)), (7, .int (nI (j + 1))), (6, .int (nI (4 * q))), (5, .int (nI i)), (0, .ref oa), (1, .ref ac), (2, .ref am), (3, .ref ap), (4, .int (nI Z))] := lv_sub hl [0, 1, 2, 3, 4, 5, 6, 7, 8, 9, 10, 11, 12, 13, 14, 15, 16, 17, 18, 19, 20, 21, 22] rfl
              have hloop_134 : ∀ (n_132 k : Nat) (H : Heap) (locs : List Loc) (ls : Array Slot), k + n_132 = (4 * q) → gS D A s.heap w_118 H locs → lv_has ls 25 [(24, .int (nI (k + 1))), (23, .int 0), (21, .long (gc ((2 + (2 * u2)) + i))), (19, .long (gc ((2 + (2 * u1)) + i))), (14, .int 1), (18, .int ((gp ((7 * u1) + tn)) - (gp ((7 * u2) + tn)))), (17, .int (nI tn)), (16, .int (nI u2)), (15, .int (nI u1)), (13, .int (f_stL (nI pa) (nI (kk (4 * pa + vl))) (f_sdL (gc i) (4 * q) fs (4 * q)) (f_sdL (gc i) (4 * q) (fs + 1) (4 * q)) t9)), (12, .int (nI fs)), (11, .int (nI sq)), (10, .int (nI (kk (4 * pa + vl)))), (9, .int (nI vl)), (8, .int (nI pa)), (7, .int (nI (j + 1))), (6, .int (nI (4 * q))), (5, .int (nI i)), (0, .ref oa), (1, .ref ac), (2, .ref am), (3, .ref ap), (4, .int (nI Z))] → W p l e rm_L_isSame s m args below meth c H locs (((((((((((((((((((((0 + rm_L_density.cells) + rm_L_sounds.cells) + rm_L_sounds.cells) + rm_L_stroke.cells) + rm_X5_depth.cells) + rm_L_depth.cells) + rm_X5_sounds.cells) + rm_L_sounds.cells) + rm_X5_stroke.cells) + rm_X5_strokeAnew.cells) + rm_X5_now.cells) + rm_X5_now.cells) + rm_X5_now.cells) + rm_X5_now.cells) + rm_X5_now.cells) + rm_X5_now.cells) + rm_X5_ticks.cells) + rm_X5_strokes.cells) + rm_X5_beat.cells) + rm_X5_covered.cells) + rm_L_covered.cells) (((((((((((((((((((((0 + rm_L_density.slots) + rm_L_sounds.slots) + rm_L_sounds.slots) + rm_L_stroke.slots) + rm_X5_depth.slots) + rm_L_depth.slots) + rm_X5_sounds.slots) + rm_L_sounds.slots) + rm_X5_stroke.slots) + rm_X5_strokeAnew.slots) + rm_X5_now.slots) + rm_X5_now.slots) + rm_X5_now.slots) + rm_X5_now.slots) + rm_X5_now.slots) + rm_X5_now.slots) + rm_X5_ticks.slots) + rm_X5_strokes.slots) + rm_X5_beat.slots) + rm_X5_covered.slots) + rm_L_covered.slots) Q (F0 m 483 ls []) := by
                intro n_132
                induction n_132 with
                | zero =>
                  intro k H locs ls hk_133 hG hl
                  have ei9 : k = (4 * q) := by omega
                  rw [ei9] at hl
                  refine lv_iload hx hb dL_isSame_483 (lv_at hl 0 rfl) ?_
                  refine lv_iload hx hb dL_isSame_485 (lv_at hl 16 rfl) ?_
                  refine lv_icmp_gt (tgt := 541) hx hb dL_isSame_487 (by decide) (fun c9 => ?_) (fun c9 => (c9 ((nI_ltI (a := (4 * q)) (b := ((4 * q) + 1)) (by omega) (by omega)).mpr (by omega))).elim)
                  refine lv_lload hx hb dL_isSame_541 (lv_at hl 3 rfl) ?_
                  refine lv_lconst (v := 0) hx hb dL_isSame_543 (by decide) ?_
                  refine W.lcmp hx hb dL_isSame_544 ?_
                  refine lv_if_lt (tgt := 555) hx hb dL_isSame_545 (by decide) (fun c9 => ?_) (fun c9 => (c9 (by rw [hr1]; decide)).elim)
                  refine lv_iconst (v := (-1)) hx hb dL_isSame_555 (by decide) ?_
                  refine lv_goto (tgt := 561) hx hb dL_isSame_556 (by decide) ?_
                  refine lv_istore (lv' := [(23, .int (-1)), (24, .int (nI ((4 * q) + 1))), (21, .long (gc ((2 + (2 * u2)) + i))), (19, .long (gc ((2 + (2 * u1)) + i))), (14, .int 1), (18, .int ((gp ((7 * u1) + tn)) - (gp ((7 * u2) + tn)))), (17, .int (nI tn)), (16, .int (nI u2)), (15, .int (nI u1)), (13, .int (f_stL (nI pa) (nI (kk (4 * pa + vl))) (f_sdL (gc i) (4 * q) fs (4 * q)) (f_sdL (gc i) (4 * q) (fs + 1) (4 * q)) t9)), (12, .int (nI fs)), (11, .int (nI sq)), (10, .int (nI (kk (4 * pa + vl)))), (9, .int (nI vl)), (8, .int (nI pa)), (7, .int (nI (j + 1))), (6, .int (nI (4 * q))), (5, .int (nI i)), (0, .ref oa), (1, .ref ac), (2, .ref am), (3, .ref ap), (4, .int (nI Z))]) hx hb dL_isSame_561 hl (by decide) rfl (fun ls hl => ?_)
                  refine lv_iload hx hb dL_isSame_563 (lv_at hl 4 rfl) ?_
                  refine lv_if_eq (tgt := 602) hx hb dL_isSame_565 (by decide) (fun c9 => absurd c9 (by decide)) (fun _ => ?_)
                  refine lv_aload_n hx hb dL_isSame_568 rfl (lv_at hl 18 rfl) ?_
                  refine lv_iload hx hb dL_isSame_569 (lv_at hl 8 rfl) ?_
                  refine lv_iload hx hb dL_isSame_571 (lv_at hl 22 rfl) ?_
                  refine lv_sipush (v := 400) hx hb dL_isSame_573 (by decide) ?_
                  refine lv_idiv hx hb dL_isSame_576 (by decide) ?_
                  refine lv_topi (fun k_135 ek_135 => ?_)
                  obtain rfl : k_135 = nI (Z / 400) := ek_135.trans (pk_div (a := Z) (d := 400) (by omega) (by omega) (by omega))
                  refine lv_iconst (v := 2) hx hb dL_isSame_577 (by decide) ?_
                  refine lv_irem hx hb dL_isSame_578 (by decide) ?_
                  refine lv_topi (fun k_136 ek_136 => ?_)
                  obtain rfl : k_136 = nI ((Z / 400) % 2) := ek_136.trans (pk_rem (a := (Z / 400)) (d := 2) (by omega) (by omega) (by omega))
                  refine lv_if_ne (tgt := 586) hx hb dL_isSame_579 (by decide) (fun c9 => ?_) (fun c9 => absurd c9 (fun h9 => absurd ((nI_eq (a := ((Z / 400) % 2)) (b := 0) (by omega) (by omega)).mp h9) (by omega)))
                  refine lv_iload hx hb dL_isSame_586 (lv_at hl 7 rfl) ?_
                  refine lv_iload hx hb dL_isSame_588 (lv_at hl 17 rfl) ?_
                  obtain ⟨fsz_137, z_137⟩ := cO_z hC
                  refine g_callV (rest := []) (As := [.int (nI u1), .int (nI u2), .int (nI i)]) hE hG hl.1 (k_unlike l hfl D tc A w_118 oa d tk st (nI u1) (nI u2) (nI i) hC hI.1 (go_unlike hI.1 (by omega) (by omega) (Or.inr ⟨u2, by omega, rfl⟩))) z_137 rfl mw3_156 mw3_157 mw3_158 mw1_1 mw3_159 rfl nm_X5_unlike ⟨⟨Nat.le_of_ble_eq_true rfl, Nat.le_of_ble_eq_true rfl⟩, Nat.le_of_ble_eq_true rfl, Nat.le_of_ble_eq_true rfl⟩ rfl rfl (Nat.le_of_ble_eq_true rfl) dL_isSame_590 (g_no) ?_
                  intro v9 w_138 H locs h9 hG
                  obtain ⟨e9, hC, g_139⟩ := h9
                  rw [e9]; clear e9
                  show W p l e _ s m args below meth c H locs _ _ _ (F0 m 593 ls [.int (m_unlike d (nI u1) (nI u2) (nI i))])
                  have h_140 : w_138 1000 = some (ac, .inl (tc 1, 15, .inr (.inl gc))) := (g_139 1000 (by decide)).trans h_120
                  have h_141 : w_138 1001 = some (am, .inl (tc 0, 19, .inl gm)) := (g_139 1001 (by decide)).trans h_121
                  have h_142 : w_138 1002 = some (ap, .inl (tc 0, 32, .inl gp)) := (g_139 1002 (by decide)).trans h_122
                  have hC : cO tc w_138 oa d tk st := hC
                  refine lv_iload hx hb dL_isSame_593 (lv_at hl 0 rfl) ?_
                  refine lv_icmp_ne (tgt := 602) hx hb dL_isSame_595 (by decide) (fun c9 => (c9 (by unfold m_unlike; rw [kn_u (by omega) (by omega)]; rw [if_pos hk1, if_pos rfl])).elim) (fun c9 => ?_)
                  refine lv_iconst (v := 1) hx hb dL_isSame_598 (by decide) ?_
                  refine lv_goto (tgt := 603) hx hb dL_isSame_599 (by decide) ?_
                  subst hQ
                  exact g_zret hE hG hr (by decide) (Nat.le_of_ble_eq_true rfl) (Nat.le_of_ble_eq_true rfl) dL_isSame_603 ⟨rfl, hC, gK_tr (gK_tr (gK_tr (gK_tr (gK_tr (gK_tr (gK_tr (gK_tr (gK_tr (gK_tr (gK_tr (gK_tr (gK_tr (gK_tr (g_24) g_30) g_36) g_42) g_48) g_54) g_60) g_66) g_72) g_78) g_84) g_90) g_111) g_119) g_139⟩
                | succ n_132 ihn_132 =>
                  intro k H locs ls hk_133 hG hl
                  refine lv_iload hx hb dL_isSame_483 (lv_at hl 0 rfl) ?_
                  refine lv_iload hx hb dL_isSame_485 (lv_at hl 16 rfl) ?_
                  refine lv_icmp_gt (tgt := 541) hx hb dL_isSame_487 (by decide) (fun c9 => absurd c9 (fun h9 => absurd ((nI_ltI (a := (4 * q)) (b := (k + 1)) (by omega) (by omega)).mp h9) (by omega))) (fun c9 => ?_)
                  refine lv_iload hx hb dL_isSame_490 (lv_at hl 1 rfl) ?_
                  refine lv_lload hx hb dL_isSame_492 (lv_at hl 3 rfl) ?_
                  refine lv_lconst (v := 0) hx hb dL_isSame_494 (by decide) ?_
                  refine W.lcmp hx hb dL_isSame_495 ?_
                  refine lv_if_lt (tgt := 506) hx hb dL_isSame_496 (by decide) (fun c9 => ?_) (fun c9 => (c9 (by rw [hr1]; decide)).elim)
                  refine lv_iconst (v := 0) hx hb dL_isSame_506 (by decide) ?_
                  refine lv_goto (tgt := 532) hx hb dL_isSame_507 (by decide) ?_
                  refine lv_iadd hx hb dL_isSame_532 ?_
                  refine lv_topi (fun k_143 ek_143 => ?_)
                  obtain rfl : k_143 = 0 := ek_143.trans (by decide)
                  refine lv_istore (lv' := [(23, .int 0), (24, .int (nI (k + 1))), (21, .long (gc ((2 + (2 * u2)) + i))), (19, .long (gc ((2 + (2 * u1)) + i))), (14, .int 1), (18, .int ((gp ((7 * u1) + tn)) - (gp ((7 * u2) + tn)))), (17, .int (nI tn)), (16, .int (nI u2)), (15, .int (nI u1)), (13, .int (f_stL (nI pa) (nI (kk (4 * pa + vl))) (f_sdL (gc i) (4 * q) fs (4 * q)) (f_sdL (gc i) (4 * q) (fs + 1) (4 * q)) t9)), (12, .int (nI fs)), (11, .int (nI sq)), (10, .int (nI (kk (4 * pa + vl)))), (9, .int (nI vl)), (8, .int (nI pa)), (7, .int (nI (j + 1))), (6, .int (nI (4 * q))), (5, .int (nI i)), (0, .ref oa), (1, .ref ac), (2, .ref am), (3, .ref ap), (4, .int (nI Z))]) hx hb dL_isSame_533 hl (by decide) rfl (fun ls hl => ?_)
                  refine lv_iinc (v := (nI ((k + 1) + 1))) (lv' := [(24, .int (nI ((k + 1) + 1))), (23, .int 0), (21, .long (gc ((2 + (2 * u2)) + i))), (19, .long (gc ((2 + (2 * u1)) + i))), (14, .int 1), (18, .int ((gp ((7 * u1) + tn)) - (gp ((7 * u2) + tn)))), (17, .int (nI tn)), (16, .int (nI u2)), (15, .int (nI u1)), (13, .int (f_stL (nI pa) (nI (kk (4 * pa + vl))) (f_sdL (gc i) (4 * q) fs (4 * q)) (f_sdL (gc i) (4 * q) (fs + 1) (4 * q)) t9)), (12, .int (nI fs)), (11, .int (nI sq)), (10, .int (nI (kk (4 * pa + vl)))), (9, .int (nI vl)), (8, .int (nI pa)), (7, .int (nI (j + 1))), (6, .int (nI (4 * q))), (5, .int (nI i)), (0, .ref oa), (1, .ref ac), (2, .ref am), (3, .ref ap), (4, .int (nI Z))]) hx hb dL_isSame_535 hl (k := 1) rfl (by rw [show k + 1 + 1 = (k + 1) + 1 by omega]; exact (nI_1 _)) (by decide) rfl (fun ls hl => ?_)
                  refine lv_goto (tgt := 483) hx hb dL_isSame_538 (by decide) ?_
                  have hl : lv_has ls 25 [(24, .int (nI ((k + 1) + 1))), (23, .int 0), (21, .long (gc ((2 + (2 * u2)) + i))), (19, .long (gc ((2 + (2 * u1)) + i))), (14, .int 1), (18, .int ((gp ((7 * u1) + tn)) - (gp ((7 * u2) + tn)))), (17, .int (nI tn)), (16, .int (nI u2)), (15, .int (nI u1)), (13, .int (f_stL (nI pa) (nI (kk (4 * pa + vl))) (f_sdL (gc i) (4 * q) fs (4 * q)) (f_sdL (gc i) (4 * q) (fs + 1) (4 * q)) t9)), (12, .int (nI fs)), (11, .int (nI sq)), (10, .int (nI (kk (4 * pa + vl)))), (9, .int (nI vl)), (8, .int (nI pa)), (7, .int (nI (j + 1))), (6, .int (nI (4 * q))), (5, .int (nI i)), (0, .ref oa), (1, .ref ac), (2, .ref am), (3, .ref ap), (4, .int (nI Z))] := hl
                  exact ihn_132 (k + 1) _ _ _ (by omega) hG (lv_sub hl [0, 1, 2, 3, 4, 5, 6, 7, 8, 9, 10, 11, 12, 13, 14, 15, 16, 17, 18, 19, 20, 21, 22] rfl)
              exact hloop_134 (4 * q) 0 _ _ _ (by omega) hG (lv_sub hl [0, 1, 2, 3, 4, 5, 6, 7, 8, 9, 10, 11, 12, 13, 14, 15, 16, 17, 18, 19, 20, 21, 22] rfl)
            · skip
              refine lv_iconst (v := 0) hx hb dL_isSame_477 (by decide) ?_
              refine lv_istore (lv' := [(23, .int 0), (21, .long (gc ((2 + (2 * u2)) + i))), (19, .long (gc ((2 + (2 * u1)) + i))), (14, .int 1), (18, .int ((gp ((7 * u1) + tn)) - (gp ((7 * u2) + tn)))), (17, .int (nI tn)), (16, .int (nI u2)), (15, .int (nI u1)), (13, .int (f_stL (nI pa) (nI (kk (4 * pa + vl))) (f_sdL (gc i) (4 * q) fs (4 * q)) (f_sdL (gc i) (4 * q) (fs + 1) (4 * q)) t9)), (12, .int (nI fs)), (11, .int (nI sq)), (10, .int (nI (kk (4 * pa + vl)))), (9, .int (nI vl)), (8, .int (nI pa)), (7, .int (nI (j + 1))), (6, .int (nI (4 * q))), (5, .int (nI i)), (0, .ref oa), (1, .ref ac), (2, .ref am), (3, .ref ap), (4, .int (nI Z))]) hx hb dL_isSame_478 hl (by decide) rfl (fun ls hl => ?_)
              refine lv_iconst (v := 1) hx hb dL_isSame_480 (by decide) ?_
              refine lv_istore (lv' := [(24, .int 1), (23, .int 0), (21, .long (gc ((2 + (2 * u2)) + i))), (19, .long (gc ((2 + (2 * u1)) + i))), (14, .int 1), (18, .int ((gp ((7 * u1) + tn)) - (gp ((7 * u2) + tn)))), (17, .int (nI tn)), (16, .int (nI u2)), (15, .int (nI u1)), (13, .int (f_stL (nI pa) (nI (kk (4 * pa + vl))) (f_sdL (gc i) (4 * q) fs (4 * q)) (f_sdL (gc i) (4 * q) (fs + 1) (4 * q)) t9)), (12, .int (nI fs)), (11, .int (nI sq)), (10, .int (nI (kk (4 * pa + vl)))), (9, .int (nI vl)), (8, .int (nI pa)), (7, .int (nI (j + 1))), (6, .int (nI (4 * q))), (5, .int (nI i)), (0, .ref oa), (1, .ref ac), (2, .ref am), (3, .ref ap), (4, .int (nI Z))]) hx hb dL_isSame_481 hl (by decide) rfl (fun ls hl => ?_)
              have hl : lv_has ls 25 [(24, .int (nI (0 + 1))), (23, .int 0), (21, .long (gc ((2 + (2 * u2)) + i))), (19, .long (gc ((2 + (2 * u1)) + i))), (14, .int 1), (18, .int ((gp ((7 * u1) + tn)) - (gp ((7 * u2) + tn)))), (17, .int (nI tn)), (16, .int (nI u2)), (15, .int (nI u1)), (13, .int (f_stL (nI pa) (nI (kk (4 * pa + vl))) (f_sdL (gc i) (4 * q) fs (4 * q)) (f_sdL (gc i) (4 * q) (fs + 1) (4 * q)) t9)), (12, .int (nI fs)), (11, .int (nI sq)), (10, .int (nI (kk (4 * pa + vl)))), (9, .int (nI vl)), (8, .int (nI pa)), (7, .int (nI (j + 1))), (6, .int (nI (4 * q))), (5, .int (nI i)), (0, .ref oa), (1, .ref ac), (2, .ref am), (3, .ref ap), (4, .int (nI Z))] := lv_sub hl [0, 1, 2, 3, 4, 5, 6, 7, 8, 9, 10, 11, 12, 13, 14, 15, 16, 17, 18, 19, 20, 21, 22] rfl
              have hloop_146 : ∀ (n_144 k : Nat) (H : Heap) (locs : List Loc) (ls : Array Slot), k + n_144 = (4 * q) → gS D A s.heap w_118 H locs → lv_has ls 25 [(24, .int (nI (k + 1))), (23, .int 0), (21, .long (gc ((2 + (2 * u2)) + i))), (19, .long (gc ((2 + (2 * u1)) + i))), (14, .int 1), (18, .int ((gp ((7 * u1) + tn)) - (gp ((7 * u2) + tn)))), (17, .int (nI tn)), (16, .int (nI u2)), (15, .int (nI u1)), (13, .int (f_stL (nI pa) (nI (kk (4 * pa + vl))) (f_sdL (gc i) (4 * q) fs (4 * q)) (f_sdL (gc i) (4 * q) (fs + 1) (4 * q)) t9)), (12, .int (nI fs)), (11, .int (nI sq)), (10, .int (nI (kk (4 * pa + vl)))), (9, .int (nI vl)), (8, .int (nI pa)), (7, .int (nI (j + 1))), (6, .int (nI (4 * q))), (5, .int (nI i)), (0, .ref oa), (1, .ref ac), (2, .ref am), (3, .ref ap), (4, .int (nI Z))] → W p l e rm_L_isSame s m args below meth c H locs (((((((((((((((((((((0 + rm_L_density.cells) + rm_L_sounds.cells) + rm_L_sounds.cells) + rm_L_stroke.cells) + rm_X5_depth.cells) + rm_L_depth.cells) + rm_X5_sounds.cells) + rm_L_sounds.cells) + rm_X5_stroke.cells) + rm_X5_strokeAnew.cells) + rm_X5_now.cells) + rm_X5_now.cells) + rm_X5_now.cells) + rm_X5_now.cells) + rm_X5_now.cells) + rm_X5_now.cells) + rm_X5_ticks.cells) + rm_X5_strokes.cells) + rm_X5_beat.cells) + rm_X5_covered.cells) + rm_L_covered.cells) (((((((((((((((((((((0 + rm_L_density.slots) + rm_L_sounds.slots) + rm_L_sounds.slots) + rm_L_stroke.slots) + rm_X5_depth.slots) + rm_L_depth.slots) + rm_X5_sounds.slots) + rm_L_sounds.slots) + rm_X5_stroke.slots) + rm_X5_strokeAnew.slots) + rm_X5_now.slots) + rm_X5_now.slots) + rm_X5_now.slots) + rm_X5_now.slots) + rm_X5_now.slots) + rm_X5_now.slots) + rm_X5_ticks.slots) + rm_X5_strokes.slots) + rm_X5_beat.slots) + rm_X5_covered.slots) + rm_L_covered.slots) Q (F0 m 483 ls []) := by
                intro n_144
                induction n_144 with
                | zero =>
                  intro k H locs ls hk_145 hG hl
                  have ei9 : k = (4 * q) := by omega
                  rw [ei9] at hl
                  refine lv_iload hx hb dL_isSame_483 (lv_at hl 0 rfl) ?_
                  refine lv_iload hx hb dL_isSame_485 (lv_at hl 16 rfl) ?_
                  refine lv_icmp_gt (tgt := 541) hx hb dL_isSame_487 (by decide) (fun c9 => ?_) (fun c9 => (c9 ((nI_ltI (a := (4 * q)) (b := ((4 * q) + 1)) (by omega) (by omega)).mpr (by omega))).elim)
                  refine lv_lload hx hb dL_isSame_541 (lv_at hl 3 rfl) ?_
                  refine lv_lconst (v := 0) hx hb dL_isSame_543 (by decide) ?_
                  refine W.lcmp hx hb dL_isSame_544 ?_
                  refine lv_if_lt (tgt := 555) hx hb dL_isSame_545 (by decide) (fun c9 => ?_) (fun c9 => (c9 (by rw [hr1]; decide)).elim)
                  refine lv_iconst (v := (-1)) hx hb dL_isSame_555 (by decide) ?_
                  refine lv_goto (tgt := 561) hx hb dL_isSame_556 (by decide) ?_
                  refine lv_istore (lv' := [(23, .int (-1)), (24, .int (nI ((4 * q) + 1))), (21, .long (gc ((2 + (2 * u2)) + i))), (19, .long (gc ((2 + (2 * u1)) + i))), (14, .int 1), (18, .int ((gp ((7 * u1) + tn)) - (gp ((7 * u2) + tn)))), (17, .int (nI tn)), (16, .int (nI u2)), (15, .int (nI u1)), (13, .int (f_stL (nI pa) (nI (kk (4 * pa + vl))) (f_sdL (gc i) (4 * q) fs (4 * q)) (f_sdL (gc i) (4 * q) (fs + 1) (4 * q)) t9)), (12, .int (nI fs)), (11, .int (nI sq)), (10, .int (nI (kk (4 * pa + vl)))), (9, .int (nI vl)), (8, .int (nI pa)), (7, .int (nI (j + 1))), (6, .int (nI (4 * q))), (5, .int (nI i)), (0, .ref oa), (1, .ref ac), (2, .ref am), (3, .ref ap), (4, .int (nI Z))]) hx hb dL_isSame_561 hl (by decide) rfl (fun ls hl => ?_)
                  refine lv_iload hx hb dL_isSame_563 (lv_at hl 4 rfl) ?_
                  refine lv_if_eq (tgt := 602) hx hb dL_isSame_565 (by decide) (fun c9 => absurd c9 (by decide)) (fun _ => ?_)
                  refine lv_aload_n hx hb dL_isSame_568 rfl (lv_at hl 18 rfl) ?_
                  refine lv_iload hx hb dL_isSame_569 (lv_at hl 8 rfl) ?_
                  refine lv_iload hx hb dL_isSame_571 (lv_at hl 22 rfl) ?_
                  refine lv_sipush (v := 400) hx hb dL_isSame_573 (by decide) ?_
                  refine lv_idiv hx hb dL_isSame_576 (by decide) ?_
                  refine lv_topi (fun k_147 ek_147 => ?_)
                  obtain rfl : k_147 = nI (Z / 400) := ek_147.trans (pk_div (a := Z) (d := 400) (by omega) (by omega) (by omega))
                  refine lv_iconst (v := 2) hx hb dL_isSame_577 (by decide) ?_
                  refine lv_irem hx hb dL_isSame_578 (by decide) ?_
                  refine lv_topi (fun k_148 ek_148 => ?_)
                  obtain rfl : k_148 = nI ((Z / 400) % 2) := ek_148.trans (pk_rem (a := (Z / 400)) (d := 2) (by omega) (by omega) (by omega))
                  refine lv_if_ne (tgt := 586) hx hb dL_isSame_579 (by decide) (fun c9 => ?_) (fun c9 => absurd c9 (fun h9 => absurd ((nI_eq (a := ((Z / 400) % 2)) (b := 0) (by omega) (by omega)).mp h9) (by omega)))
                  refine lv_iload hx hb dL_isSame_586 (lv_at hl 7 rfl) ?_
                  refine lv_iload hx hb dL_isSame_588 (lv_at hl 17 rfl) ?_
                  obtain ⟨fsz_149, z_149⟩ := cO_z hC
                  refine g_callV (rest := []) (As := [.int (nI u1), .int (nI u2), .int (nI i)]) hE hG hl.1 (k_unlike l hfl D tc A w_118 oa d tk st (nI u1) (nI u2) (nI i) hC hI.1 (go_unlike hI.1 (by omega) (by omega) (Or.inr ⟨u2, by omega, rfl⟩))) z_149 rfl mw3_156 mw3_157 mw3_158 mw1_1 mw3_159 rfl nm_X5_unlike ⟨⟨Nat.le_of_ble_eq_true rfl, Nat.le_of_ble_eq_true rfl⟩, Nat.le_of_ble_eq_true rfl, Nat.le_of_ble_eq_true rfl⟩ rfl rfl (Nat.le_of_ble_eq_true rfl) dL_isSame_590 (g_no) ?_
                  intro v9 w_150 H locs h9 hG
                  obtain ⟨e9, hC, g_151⟩ := h9
                  rw [e9]; clear e9
                  show W p l e _ s m args below meth c H locs _ _ _ (F0 m 593 ls [.int (m_unlike d (nI u1) (nI u2) (nI i))])
                  have h_152 : w_150 1000 = some (ac, .inl (tc 1, 15, .inr (.inl gc))) := (g_151 1000 (by decide)).trans h_120
                  have h_153 : w_150 1001 = some (am, .inl (tc 0, 19, .inl gm)) := (g_151 1001 (by decide)).trans h_121
                  have h_154 : w_150 1002 = some (ap, .inl (tc 0, 32, .inl gp)) := (g_151 1002 (by decide)).trans h_122
                  have hC : cO tc w_150 oa d tk st := hC
                  refine lv_iload hx hb dL_isSame_593 (lv_at hl 0 rfl) ?_
                  refine lv_icmp_ne (tgt := 602) hx hb dL_isSame_595 (by decide) (fun c9 => (c9 (by unfold m_unlike; rw [kn_u (by omega) (by omega)]; rw [if_pos hk1, if_pos rfl])).elim) (fun c9 => ?_)
                  refine lv_iconst (v := 1) hx hb dL_isSame_598 (by decide) ?_
                  refine lv_goto (tgt := 603) hx hb dL_isSame_599 (by decide) ?_
                  subst hQ
                  exact g_zret hE hG hr (by decide) (Nat.le_of_ble_eq_true rfl) (Nat.le_of_ble_eq_true rfl) dL_isSame_603 ⟨rfl, hC, gK_tr (gK_tr (gK_tr (gK_tr (gK_tr (gK_tr (gK_tr (gK_tr (gK_tr (gK_tr (gK_tr (gK_tr (gK_tr (gK_tr (g_24) g_30) g_36) g_42) g_48) g_54) g_60) g_66) g_72) g_78) g_84) g_90) g_111) g_119) g_151⟩
                | succ n_144 ihn_144 =>
                  intro k H locs ls hk_145 hG hl
                  refine lv_iload hx hb dL_isSame_483 (lv_at hl 0 rfl) ?_
                  refine lv_iload hx hb dL_isSame_485 (lv_at hl 16 rfl) ?_
                  refine lv_icmp_gt (tgt := 541) hx hb dL_isSame_487 (by decide) (fun c9 => absurd c9 (fun h9 => absurd ((nI_ltI (a := (4 * q)) (b := (k + 1)) (by omega) (by omega)).mp h9) (by omega))) (fun c9 => ?_)
                  refine lv_iload hx hb dL_isSame_490 (lv_at hl 1 rfl) ?_
                  refine lv_lload hx hb dL_isSame_492 (lv_at hl 3 rfl) ?_
                  refine lv_lconst (v := 0) hx hb dL_isSame_494 (by decide) ?_
                  refine W.lcmp hx hb dL_isSame_495 ?_
                  refine lv_if_lt (tgt := 506) hx hb dL_isSame_496 (by decide) (fun c9 => ?_) (fun c9 => (c9 (by rw [hr1]; decide)).elim)
                  refine lv_iconst (v := 0) hx hb dL_isSame_506 (by decide) ?_
                  refine lv_goto (tgt := 532) hx hb dL_isSame_507 (by decide) ?_
                  refine lv_iadd hx hb dL_isSame_532 ?_
                  refine lv_topi (fun k_155 ek_155 => ?_)
                  obtain rfl : k_155 = 0 := ek_155.trans (by decide)
                  refine lv_istore (lv' := [(23, .int 0), (24, .int (nI (k + 1))), (21, .long (gc ((2 + (2 * u2)) + i))), (19, .long (gc ((2 + (2 * u1)) + i))), (14, .int 1), (18, .int ((gp ((7 * u1) + tn)) - (gp ((7 * u2) + tn)))), (17, .int (nI tn)), (16, .int (nI u2)), (15, .int (nI u1)), (13, .int (f_stL (nI pa) (nI (kk (4 * pa + vl))) (f_sdL (gc i) (4 * q) fs (4 * q)) (f_sdL (gc i) (4 * q) (fs + 1) (4 * q)) t9)), (12, .int (nI fs)), (11, .int (nI sq)), (10, .int (nI (kk (4 * pa + vl)))), (9, .int (nI vl)), (8, .int (nI pa)), (7, .int (nI (j + 1))), (6, .int (nI (4 * q))), (5, .int (nI i)), (0, .ref oa), (1, .ref ac), (2, .ref am), (3, .ref ap), (4, .int (nI Z))]) hx hb dL_isSame_533 hl (by decide) rfl (fun ls hl => ?_)
                  refine lv_iinc (v := (nI ((k + 1) + 1))) (lv' := [(24, .int (nI ((k + 1) + 1))), (23, .int 0), (21, .long (gc ((2 + (2 * u2)) + i))), (19, .long (gc ((2 + (2 * u1)) + i))), (14, .int 1), (18, .int ((gp ((7 * u1) + tn)) - (gp ((7 * u2) + tn)))), (17, .int (nI tn)), (16, .int (nI u2)), (15, .int (nI u1)), (13, .int (f_stL (nI pa) (nI (kk (4 * pa + vl))) (f_sdL (gc i) (4 * q) fs (4 * q)) (f_sdL (gc i) (4 * q) (fs + 1) (4 * q)) t9)), (12, .int (nI fs)), (11, .int (nI sq)), (10, .int (nI (kk (4 * pa + vl)))), (9, .int (nI vl)), (8, .int (nI pa)), (7, .int (nI (j + 1))), (6, .int (nI (4 * q))), (5, .int (nI i)), (0, .ref oa), (1, .ref ac), (2, .ref am), (3, .ref ap), (4, .int (nI Z))]) hx hb dL_isSame_535 hl (k := 1) rfl (by rw [show k + 1 + 1 = (k + 1) + 1 by omega]; exact (nI_1 _)) (by decide) rfl (fun ls hl => ?_)
                  refine lv_goto (tgt := 483) hx hb dL_isSame_538 (by decide) ?_
                  have hl : lv_has ls 25 [(24, .int (nI ((k + 1) + 1))), (23, .int 0), (21, .long (gc ((2 + (2 * u2)) + i))), (19, .long (gc ((2 + (2 * u1)) + i))), (14, .int 1), (18, .int ((gp ((7 * u1) + tn)) - (gp ((7 * u2) + tn)))), (17, .int (nI tn)), (16, .int (nI u2)), (15, .int (nI u1)), (13, .int (f_stL (nI pa) (nI (kk (4 * pa + vl))) (f_sdL (gc i) (4 * q) fs (4 * q)) (f_sdL (gc i) (4 * q) (fs + 1) (4 * q)) t9)), (12, .int (nI fs)), (11, .int (nI sq)), (10, .int (nI (kk (4 * pa + vl)))), (9, .int (nI vl)), (8, .int (nI pa)), (7, .int (nI (j + 1))), (6, .int (nI (4 * q))), (5, .int (nI i)), (0, .ref oa), (1, .ref ac), (2, .ref am), (3, .ref ap), (4, .int (nI Z))] := hl
                  exact ihn_144 (k + 1) _ _ _ (by omega) hG (lv_sub hl [0, 1, 2, 3, 4, 5, 6, 7, 8, 9, 10, 11, 12, 13, 14, 15, 16, 17, 18, 19, 20, 21, 22] rfl)
              exact hloop_146 (4 * q) 0 _ _ _ (by omega) hG (lv_sub hl [0, 1, 2, 3, 4, 5, 6, 7, 8, 9, 10, 11, 12, 13, 14, 15, 16, 17, 18, 19, 20, 21, 22] rfl)
          · skip
            rcases (hRU u2 hu2).2.2 i hi with ⟨hk2, hr2⟩ | ⟨hk2, hr2⟩
            · skip
              refine lv_iconst (v := 0) hx hb dL_isSame_477 (by decide) ?_
              refine lv_istore (lv' := [(23, .int 0), (21, .long (gc ((2 + (2 * u2)) + i))), (19, .long (gc ((2 + (2 * u1)) + i))), (14, .int 1), (18, .int ((gp ((7 * u1) + tn)) - (gp ((7 * u2) + tn)))), (17, .int (nI tn)), (16, .int (nI u2)), (15, .int (nI u1)), (13, .int (f_stL (nI pa) (nI (kk (4 * pa + vl))) (f_sdL (gc i) (4 * q) fs (4 * q)) (f_sdL (gc i) (4 * q) (fs + 1) (4 * q)) t9)), (12, .int (nI fs)), (11, .int (nI sq)), (10, .int (nI (kk (4 * pa + vl)))), (9, .int (nI vl)), (8, .int (nI pa)), (7, .int (nI (j + 1))), (6, .int (nI (4 * q))), (5, .int (nI i)), (0, .ref oa), (1, .ref ac), (2, .ref am), (3, .ref ap), (4, .int (nI Z))]) hx hb dL_isSame_478 hl (by decide) rfl (fun ls hl => ?_)
              refine lv_iconst (v := 1) hx hb dL_isSame_480 (by decide) ?_
              refine lv_istore (lv' := [(24, .int 1), (23, .int 0), (21, .long (gc ((2 + (2 * u2)) + i))), (19, .long (gc ((2 + (2 * u1)) + i))), (14, .int 1), (18, .int ((gp ((7 * u1) + tn)) - (gp ((7 * u2) + tn)))), (17, .int (nI tn)), (16, .int (nI u2)), (15, .int (nI u1)), (13, .int (f_stL (nI pa) (nI (kk (4 * pa + vl))) (f_sdL (gc i) (4 * q) fs (4 * q)) (f_sdL (gc i) (4 * q) (fs + 1) (4 * q)) t9)), (12, .int (nI fs)), (11, .int (nI sq)), (10, .int (nI (kk (4 * pa + vl)))), (9, .int (nI vl)), (8, .int (nI pa)), (7, .int (nI (j + 1))), (6, .int (nI (4 * q))), (5, .int (nI i)), (0, .ref oa), (1, .ref ac), (2, .ref am), (3, .ref ap), (4, .int (nI Z))]) hx hb dL_isSame_481 hl (by decide) rfl (fun ls hl => ?_)
              have hl : lv_has ls 25 [(24, .int (nI (0 + 1))), (23, .int 0), (21, .long (gc ((2 + (2 * u2)) + i))), (19, .long (gc ((2 + (2 * u1)) + i))), (14, .int 1), (18, .int ((gp ((7 * u1) + tn)) - (gp ((7 * u2) + tn)))), (17, .int (nI tn)), (16, .int (nI u2)), (15, .int (nI u1)), (13, .int (f_stL (nI pa) (nI (kk (4 * pa + vl))) (f_sdL (gc i) (4 * q) fs (4 * q)) (f_sdL (gc i) (4 * q) (fs + 1) (4 * q)) t9)), (12, .int (nI fs)), (11, .int (nI sq)), (10, .int (nI (kk (4 * pa + vl)))), (9, .int (nI vl)), (8, .int (nI pa)), (7, .int (nI (j + 1))), (6, .int (nI (4 * q))), (5, .int (nI i)), (0, .ref oa), (1, .ref ac), (2, .ref am), (3, .ref ap), (4, .int (nI Z))] := lv_sub hl [0, 1, 2, 3, 4, 5, 6, 7, 8, 9, 10, 11, 12, 13, 14, 15, 16, 17, 18, 19, 20, 21, 22] rfl
              have hloop_158 : ∀ (n_156 k : Nat) (H : Heap) (locs : List Loc) (ls : Array Slot), k + n_156 = (4 * q) → gS D A s.heap w_118 H locs → lv_has ls 25 [(24, .int (nI (k + 1))), (23, .int 0), (21, .long (gc ((2 + (2 * u2)) + i))), (19, .long (gc ((2 + (2 * u1)) + i))), (14, .int 1), (18, .int ((gp ((7 * u1) + tn)) - (gp ((7 * u2) + tn)))), (17, .int (nI tn)), (16, .int (nI u2)), (15, .int (nI u1)), (13, .int (f_stL (nI pa) (nI (kk (4 * pa + vl))) (f_sdL (gc i) (4 * q) fs (4 * q)) (f_sdL (gc i) (4 * q) (fs + 1) (4 * q)) t9)), (12, .int (nI fs)), (11, .int (nI sq)), (10, .int (nI (kk (4 * pa + vl)))), (9, .int (nI vl)), (8, .int (nI pa)), (7, .int (nI (j + 1))), (6, .int (nI (4 * q))), (5, .int (nI i)), (0, .ref oa), (1, .ref ac), (2, .ref am), (3, .ref ap), (4, .int (nI Z))] → W p l e rm_L_isSame s m args below meth c H locs (((((((((((((((((((((0 + rm_L_density.cells) + rm_L_sounds.cells) + rm_L_sounds.cells) + rm_L_stroke.cells) + rm_X5_depth.cells) + rm_L_depth.cells) + rm_X5_sounds.cells) + rm_L_sounds.cells) + rm_X5_stroke.cells) + rm_X5_strokeAnew.cells) + rm_X5_now.cells) + rm_X5_now.cells) + rm_X5_now.cells) + rm_X5_now.cells) + rm_X5_now.cells) + rm_X5_now.cells) + rm_X5_ticks.cells) + rm_X5_strokes.cells) + rm_X5_beat.cells) + rm_X5_covered.cells) + rm_L_covered.cells) (((((((((((((((((((((0 + rm_L_density.slots) + rm_L_sounds.slots) + rm_L_sounds.slots) + rm_L_stroke.slots) + rm_X5_depth.slots) + rm_L_depth.slots) + rm_X5_sounds.slots) + rm_L_sounds.slots) + rm_X5_stroke.slots) + rm_X5_strokeAnew.slots) + rm_X5_now.slots) + rm_X5_now.slots) + rm_X5_now.slots) + rm_X5_now.slots) + rm_X5_now.slots) + rm_X5_now.slots) + rm_X5_ticks.slots) + rm_X5_strokes.slots) + rm_X5_beat.slots) + rm_X5_covered.slots) + rm_L_covered.slots) Q (F0 m 483 ls []) := by
                intro n_156
                induction n_156 with
                | zero =>
                  intro k H locs ls hk_157 hG hl
                  have ei9 : k = (4 * q) := by omega
                  rw [ei9] at hl
                  refine lv_iload hx hb dL_isSame_483 (lv_at hl 0 rfl) ?_
                  refine lv_iload hx hb dL_isSame_485 (lv_at hl 16 rfl) ?_
                  refine lv_icmp_gt (tgt := 541) hx hb dL_isSame_487 (by decide) (fun c9 => ?_) (fun c9 => (c9 ((nI_ltI (a := (4 * q)) (b := ((4 * q) + 1)) (by omega) (by omega)).mpr (by omega))).elim)
                  refine lv_lload hx hb dL_isSame_541 (lv_at hl 3 rfl) ?_
                  refine lv_lconst (v := 0) hx hb dL_isSame_543 (by decide) ?_
                  refine W.lcmp hx hb dL_isSame_544 ?_
                  refine lv_if_lt (tgt := 555) hx hb dL_isSame_545 (by decide) (fun c9 => absurd c9 (rRow_nn hr1).1) (fun c9 => ?_)
                  refine lv_lload hx hb dL_isSame_548 (lv_at hl 2 rfl) ?_
                  refine lv_lconst (v := 0) hx hb dL_isSame_550 (by decide) ?_
                  refine W.lcmp hx hb dL_isSame_551 ?_
                  refine lv_if_ge (tgt := 559) hx hb dL_isSame_552 (by decide) (fun c9 => absurd c9 (by rw [hr2]; decide)) (fun c9 => ?_)
                  refine lv_iconst (v := (-1)) hx hb dL_isSame_555 (by decide) ?_
                  refine lv_goto (tgt := 561) hx hb dL_isSame_556 (by decide) ?_
                  refine lv_istore (lv' := [(23, .int (-1)), (24, .int (nI ((4 * q) + 1))), (21, .long (gc ((2 + (2 * u2)) + i))), (19, .long (gc ((2 + (2 * u1)) + i))), (14, .int 1), (18, .int ((gp ((7 * u1) + tn)) - (gp ((7 * u2) + tn)))), (17, .int (nI tn)), (16, .int (nI u2)), (15, .int (nI u1)), (13, .int (f_stL (nI pa) (nI (kk (4 * pa + vl))) (f_sdL (gc i) (4 * q) fs (4 * q)) (f_sdL (gc i) (4 * q) (fs + 1) (4 * q)) t9)), (12, .int (nI fs)), (11, .int (nI sq)), (10, .int (nI (kk (4 * pa + vl)))), (9, .int (nI vl)), (8, .int (nI pa)), (7, .int (nI (j + 1))), (6, .int (nI (4 * q))), (5, .int (nI i)), (0, .ref oa), (1, .ref ac), (2, .ref am), (3, .ref ap), (4, .int (nI Z))]) hx hb dL_isSame_561 hl (by decide) rfl (fun ls hl => ?_)
                  refine lv_iload hx hb dL_isSame_563 (lv_at hl 4 rfl) ?_
                  refine lv_if_eq (tgt := 602) hx hb dL_isSame_565 (by decide) (fun c9 => absurd c9 (by decide)) (fun _ => ?_)
                  refine lv_aload_n hx hb dL_isSame_568 rfl (lv_at hl 18 rfl) ?_
                  refine lv_iload hx hb dL_isSame_569 (lv_at hl 8 rfl) ?_
                  refine lv_iload hx hb dL_isSame_571 (lv_at hl 22 rfl) ?_
                  refine lv_sipush (v := 400) hx hb dL_isSame_573 (by decide) ?_
                  refine lv_idiv hx hb dL_isSame_576 (by decide) ?_
                  refine lv_topi (fun k_159 ek_159 => ?_)
                  obtain rfl : k_159 = nI (Z / 400) := ek_159.trans (pk_div (a := Z) (d := 400) (by omega) (by omega) (by omega))
                  refine lv_iconst (v := 2) hx hb dL_isSame_577 (by decide) ?_
                  refine lv_irem hx hb dL_isSame_578 (by decide) ?_
                  refine lv_topi (fun k_160 ek_160 => ?_)
                  obtain rfl : k_160 = nI ((Z / 400) % 2) := ek_160.trans (pk_rem (a := (Z / 400)) (d := 2) (by omega) (by omega) (by omega))
                  refine lv_if_ne (tgt := 586) hx hb dL_isSame_579 (by decide) (fun c9 => ?_) (fun c9 => absurd c9 (fun h9 => absurd ((nI_eq (a := ((Z / 400) % 2)) (b := 0) (by omega) (by omega)).mp h9) (by omega)))
                  refine lv_iload hx hb dL_isSame_586 (lv_at hl 7 rfl) ?_
                  refine lv_iload hx hb dL_isSame_588 (lv_at hl 17 rfl) ?_
                  obtain ⟨fsz_161, z_161⟩ := cO_z hC
                  refine g_callV (rest := []) (As := [.int (nI u1), .int (nI u2), .int (nI i)]) hE hG hl.1 (k_unlike l hfl D tc A w_118 oa d tk st (nI u1) (nI u2) (nI i) hC hI.1 (go_unlike hI.1 (by omega) (by omega) (Or.inr ⟨u2, by omega, rfl⟩))) z_161 rfl mw3_156 mw3_157 mw3_158 mw1_1 mw3_159 rfl nm_X5_unlike ⟨⟨Nat.le_of_ble_eq_true rfl, Nat.le_of_ble_eq_true rfl⟩, Nat.le_of_ble_eq_true rfl, Nat.le_of_ble_eq_true rfl⟩ rfl rfl (Nat.le_of_ble_eq_true rfl) dL_isSame_590 (g_no) ?_
                  intro v9 w_162 H locs h9 hG
                  obtain ⟨e9, hC, g_163⟩ := h9
                  rw [e9]; clear e9
                  show W p l e _ s m args below meth c H locs _ _ _ (F0 m 593 ls [.int (m_unlike d (nI u1) (nI u2) (nI i))])
                  have h_164 : w_162 1000 = some (ac, .inl (tc 1, 15, .inr (.inl gc))) := (g_163 1000 (by decide)).trans h_120
                  have h_165 : w_162 1001 = some (am, .inl (tc 0, 19, .inl gm)) := (g_163 1001 (by decide)).trans h_121
                  have h_166 : w_162 1002 = some (ap, .inl (tc 0, 32, .inl gp)) := (g_163 1002 (by decide)).trans h_122
                  have hC : cO tc w_162 oa d tk st := hC
                  refine lv_iload hx hb dL_isSame_593 (lv_at hl 0 rfl) ?_
                  refine lv_icmp_ne (tgt := 602) hx hb dL_isSame_595 (by decide) (fun c9 => (c9 (by unfold m_unlike; rw [kn_u (by omega) (by omega)]; rw [if_neg hk1, if_neg one_nz]; rw [kn_u (by omega) (by omega), if_pos hk2, if_pos rfl])).elim) (fun c9 => ?_)
                  refine lv_iconst (v := 1) hx hb dL_isSame_598 (by decide) ?_
                  refine lv_goto (tgt := 603) hx hb dL_isSame_599 (by decide) ?_
                  subst hQ
                  exact g_zret hE hG hr (by decide) (Nat.le_of_ble_eq_true rfl) (Nat.le_of_ble_eq_true rfl) dL_isSame_603 ⟨rfl, hC, gK_tr (gK_tr (gK_tr (gK_tr (gK_tr (gK_tr (gK_tr (gK_tr (gK_tr (gK_tr (gK_tr (gK_tr (gK_tr (gK_tr (g_24) g_30) g_36) g_42) g_48) g_54) g_60) g_66) g_72) g_78) g_84) g_90) g_111) g_119) g_163⟩
                | succ n_156 ihn_156 =>
                  intro k H locs ls hk_157 hG hl
                  refine lv_iload hx hb dL_isSame_483 (lv_at hl 0 rfl) ?_
                  refine lv_iload hx hb dL_isSame_485 (lv_at hl 16 rfl) ?_
                  refine lv_icmp_gt (tgt := 541) hx hb dL_isSame_487 (by decide) (fun c9 => absurd c9 (fun h9 => absurd ((nI_ltI (a := (4 * q)) (b := (k + 1)) (by omega) (by omega)).mp h9) (by omega))) (fun c9 => ?_)
                  refine lv_iload hx hb dL_isSame_490 (lv_at hl 1 rfl) ?_
                  refine lv_lload hx hb dL_isSame_492 (lv_at hl 3 rfl) ?_
                  refine lv_lconst (v := 0) hx hb dL_isSame_494 (by decide) ?_
                  refine W.lcmp hx hb dL_isSame_495 ?_
                  refine lv_if_lt (tgt := 506) hx hb dL_isSame_496 (by decide) (fun c9 => absurd c9 (rRow_nn hr1).1) (fun c9 => ?_)
                  refine lv_lload hx hb dL_isSame_499 (lv_at hl 2 rfl) ?_
                  refine lv_lconst (v := 0) hx hb dL_isSame_501 (by decide) ?_
                  refine W.lcmp hx hb dL_isSame_502 ?_
                  refine lv_if_ge (tgt := 510) hx hb dL_isSame_503 (by decide) (fun c9 => absurd c9 (by rw [hr2]; decide)) (fun c9 => ?_)
                  refine lv_iconst (v := 0) hx hb dL_isSame_506 (by decide) ?_
                  refine lv_goto (tgt := 532) hx hb dL_isSame_507 (by decide) ?_
                  refine lv_iadd hx hb dL_isSame_532 ?_
                  refine lv_topi (fun k_167 ek_167 => ?_)
                  obtain rfl : k_167 = 0 := ek_167.trans (by decide)
                  refine lv_istore (lv' := [(23, .int 0), (24, .int (nI (k + 1))), (21, .long (gc ((2 + (2 * u2)) + i))), (19, .long (gc ((2 + (2 * u1)) + i))), (14, .int 1), (18, .int ((gp ((7 * u1) + tn)) - (gp ((7 * u2) + tn)))), (17, .int (nI tn)), (16, .int (nI u2)), (15, .int (nI u1)), (13, .int (f_stL (nI pa) (nI (kk (4 * pa + vl))) (f_sdL (gc i) (4 * q) fs (4 * q)) (f_sdL (gc i) (4 * q) (fs + 1) (4 * q)) t9)), (12, .int (nI fs)), (11, .int (nI sq)), (10, .int (nI (kk (4 * pa + vl)))), (9, .int (nI vl)), (8, .int (nI pa)), (7, .int (nI (j + 1))), (6, .int (nI (4 * q))), (5, .int (nI i)), (0, .ref oa), (1, .ref ac), (2, .ref am), (3, .ref ap), (4, .int (nI Z))]) hx hb dL_isSame_533 hl (by decide) rfl (fun ls hl => ?_)
                  refine lv_iinc (v := (nI ((k + 1) + 1))) (lv' := [(24, .int (nI ((k + 1) + 1))), (23, .int 0), (21, .long (gc ((2 + (2 * u2)) + i))), (19, .long (gc ((2 + (2 * u1)) + i))), (14, .int 1), (18, .int ((gp ((7 * u1) + tn)) - (gp ((7 * u2) + tn)))), (17, .int (nI tn)), (16, .int (nI u2)), (15, .int (nI u1)), (13, .int (f_stL (nI pa) (nI (kk (4 * pa + vl))) (f_sdL (gc i) (4 * q) fs (4 * q)) (f_sdL (gc i) (4 * q) (fs + 1) (4 * q)) t9)), (12, .int (nI fs)), (11, .int (nI sq)), (10, .int (nI (kk (4 * pa + vl)))), (9, .int (nI vl)), (8, .int (nI pa)), (7, .int (nI (j + 1))), (6, .int (nI (4 * q))), (5, .int (nI i)), (0, .ref oa), (1, .ref ac), (2, .ref am), (3, .ref ap), (4, .int (nI Z))]) hx hb dL_isSame_535 hl (k := 1) rfl (by rw [show k + 1 + 1 = (k + 1) + 1 by omega]; exact (nI_1 _)) (by decide) rfl (fun ls hl => ?_)
                  refine lv_goto (tgt := 483) hx hb dL_isSame_538 (by decide) ?_
                  have hl : lv_has ls 25 [(24, .int (nI ((k + 1) + 1))), (23, .int 0), (21, .long (gc ((2 + (2 * u2)) + i))), (19, .long (gc ((2 + (2 * u1)) + i))), (14, .int 1), (18, .int ((gp ((7 * u1) + tn)) - (gp ((7 * u2) + tn)))), (17, .int (nI tn)), (16, .int (nI u2)), (15, .int (nI u1)), (13, .int (f_stL (nI pa) (nI (kk (4 * pa + vl))) (f_sdL (gc i) (4 * q) fs (4 * q)) (f_sdL (gc i) (4 * q) (fs + 1) (4 * q)) t9)), (12, .int (nI fs)), (11, .int (nI sq)), (10, .int (nI (kk (4 * pa + vl)))), (9, .int (nI vl)), (8, .int (nI pa)), (7, .int (nI (j + 1))), (6, .int (nI (4 * q))), (5, .int (nI i)), (0, .ref oa), (1, .ref ac), (2, .ref am), (3, .ref ap), (4, .int (nI Z))] := hl
                  exact ihn_156 (k + 1) _ _ _ (by omega) hG (lv_sub hl [0, 1, 2, 3, 4, 5, 6, 7, 8, 9, 10, 11, 12, 13, 14, 15, 16, 17, 18, 19, 20, 21, 22] rfl)
              exact hloop_158 (4 * q) 0 _ _ _ (by omega) hG (lv_sub hl [0, 1, 2, 3, 4, 5, 6, 7, 8, 9, 10, 11, 12, 13, 14, 15, 16, 17, 18, 19, 20, 21, 22] rfl)
            · skip
              refine lv_iconst (v := 0) hx hb dL_isSame_477 (by decide) ?_
              refine lv_istore (lv' := [(23, .int 0), (21, .long (gc ((2 + (2 * u2)) + i))), (19, .long (gc ((2 + (2 * u1)) + i))), (14, .int 1), (18, .int ((gp ((7 * u1) + tn)) - (gp ((7 * u2) + tn)))), (17, .int (nI tn)), (16, .int (nI u2)), (15, .int (nI u1)), (13, .int (f_stL (nI pa) (nI (kk (4 * pa + vl))) (f_sdL (gc i) (4 * q) fs (4 * q)) (f_sdL (gc i) (4 * q) (fs + 1) (4 * q)) t9)), (12, .int (nI fs)), (11, .int (nI sq)), (10, .int (nI (kk (4 * pa + vl)))), (9, .int (nI vl)), (8, .int (nI pa)), (7, .int (nI (j + 1))), (6, .int (nI (4 * q))), (5, .int (nI i)), (0, .ref oa), (1, .ref ac), (2, .ref am), (3, .ref ap), (4, .int (nI Z))]) hx hb dL_isSame_478 hl (by decide) rfl (fun ls hl => ?_)
              refine lv_iconst (v := 1) hx hb dL_isSame_480 (by decide) ?_
              refine lv_istore (lv' := [(24, .int 1), (23, .int 0), (21, .long (gc ((2 + (2 * u2)) + i))), (19, .long (gc ((2 + (2 * u1)) + i))), (14, .int 1), (18, .int ((gp ((7 * u1) + tn)) - (gp ((7 * u2) + tn)))), (17, .int (nI tn)), (16, .int (nI u2)), (15, .int (nI u1)), (13, .int (f_stL (nI pa) (nI (kk (4 * pa + vl))) (f_sdL (gc i) (4 * q) fs (4 * q)) (f_sdL (gc i) (4 * q) (fs + 1) (4 * q)) t9)), (12, .int (nI fs)), (11, .int (nI sq)), (10, .int (nI (kk (4 * pa + vl)))), (9, .int (nI vl)), (8, .int (nI pa)), (7, .int (nI (j + 1))), (6, .int (nI (4 * q))), (5, .int (nI i)), (0, .ref oa), (1, .ref ac), (2, .ref am), (3, .ref ap), (4, .int (nI Z))]) hx hb dL_isSame_481 hl (by decide) rfl (fun ls hl => ?_)
              have hl : lv_has ls 25 [(24, .int (nI (0 + 1))), (23, .int (nI (m_unl d (nI u1) (nI u2) i 0))), (21, .long (gc ((2 + (2 * u2)) + i))), (19, .long (gc ((2 + (2 * u1)) + i))), (14, .int 1), (18, .int ((gp ((7 * u1) + tn)) - (gp ((7 * u2) + tn)))), (17, .int (nI tn)), (16, .int (nI u2)), (15, .int (nI u1)), (13, .int (f_stL (nI pa) (nI (kk (4 * pa + vl))) (f_sdL (gc i) (4 * q) fs (4 * q)) (f_sdL (gc i) (4 * q) (fs + 1) (4 * q)) t9)), (12, .int (nI fs)), (11, .int (nI sq)), (10, .int (nI (kk (4 * pa + vl)))), (9, .int (nI vl)), (8, .int (nI pa)), (7, .int (nI (j + 1))), (6, .int (nI (4 * q))), (5, .int (nI i)), (0, .ref oa), (1, .ref ac), (2, .ref am), (3, .ref ap), (4, .int (nI Z))] := lv_sub hl [0, 1, 2, 3, 4, 5, 6, 7, 8, 9, 10, 11, 12, 13, 14, 15, 16, 17, 18, 19, 20, 21, 22] rfl
              have hloop_170 : ∀ (n_168 k : Nat) (H : Heap) (locs : List Loc) (ls : Array Slot), k + n_168 = (4 * q) → gS D A s.heap w_118 H locs → lv_has ls 25 [(24, .int (nI (k + 1))), (23, .int (nI (m_unl d (nI u1) (nI u2) i k))), (21, .long (gc ((2 + (2 * u2)) + i))), (19, .long (gc ((2 + (2 * u1)) + i))), (14, .int 1), (18, .int ((gp ((7 * u1) + tn)) - (gp ((7 * u2) + tn)))), (17, .int (nI tn)), (16, .int (nI u2)), (15, .int (nI u1)), (13, .int (f_stL (nI pa) (nI (kk (4 * pa + vl))) (f_sdL (gc i) (4 * q) fs (4 * q)) (f_sdL (gc i) (4 * q) (fs + 1) (4 * q)) t9)), (12, .int (nI fs)), (11, .int (nI sq)), (10, .int (nI (kk (4 * pa + vl)))), (9, .int (nI vl)), (8, .int (nI pa)), (7, .int (nI (j + 1))), (6, .int (nI (4 * q))), (5, .int (nI i)), (0, .ref oa), (1, .ref ac), (2, .ref am), (3, .ref ap), (4, .int (nI Z))] → W p l e rm_L_isSame s m args below meth c H locs (((((((((((((((((((((0 + rm_L_density.cells) + rm_L_sounds.cells) + rm_L_sounds.cells) + rm_L_stroke.cells) + rm_X5_depth.cells) + rm_L_depth.cells) + rm_X5_sounds.cells) + rm_L_sounds.cells) + rm_X5_stroke.cells) + rm_X5_strokeAnew.cells) + rm_X5_now.cells) + rm_X5_now.cells) + rm_X5_now.cells) + rm_X5_now.cells) + rm_X5_now.cells) + rm_X5_now.cells) + rm_X5_ticks.cells) + rm_X5_strokes.cells) + rm_X5_beat.cells) + rm_X5_covered.cells) + rm_L_covered.cells) (((((((((((((((((((((0 + rm_L_density.slots) + rm_L_sounds.slots) + rm_L_sounds.slots) + rm_L_stroke.slots) + rm_X5_depth.slots) + rm_L_depth.slots) + rm_X5_sounds.slots) + rm_L_sounds.slots) + rm_X5_stroke.slots) + rm_X5_strokeAnew.slots) + rm_X5_now.slots) + rm_X5_now.slots) + rm_X5_now.slots) + rm_X5_now.slots) + rm_X5_now.slots) + rm_X5_now.slots) + rm_X5_ticks.slots) + rm_X5_strokes.slots) + rm_X5_beat.slots) + rm_X5_covered.slots) + rm_L_covered.slots) Q (F0 m 483 ls []) := by
                intro n_168
                induction n_168 with
                | zero =>
                  intro k H locs ls hk_169 hG hl
                  have ei9 : k = (4 * q) := by omega
                  rw [ei9] at hl
                  refine lv_iload hx hb dL_isSame_483 (lv_at hl 0 rfl) ?_
                  refine lv_iload hx hb dL_isSame_485 (lv_at hl 16 rfl) ?_
                  refine lv_icmp_gt (tgt := 541) hx hb dL_isSame_487 (by decide) (fun c9 => ?_) (fun c9 => (c9 ((nI_ltI (a := (4 * q)) (b := ((4 * q) + 1)) (by omega) (by omega)).mpr (by omega))).elim)
                  refine lv_lload hx hb dL_isSame_541 (lv_at hl 3 rfl) ?_
                  refine lv_lconst (v := 0) hx hb dL_isSame_543 (by decide) ?_
                  refine W.lcmp hx hb dL_isSame_544 ?_
                  refine lv_if_lt (tgt := 555) hx hb dL_isSame_545 (by decide) (fun c9 => absurd c9 (rRow_nn hr1).1) (fun c9 => ?_)
                  refine lv_lload hx hb dL_isSame_548 (lv_at hl 2 rfl) ?_
                  refine lv_lconst (v := 0) hx hb dL_isSame_550 (by decide) ?_
                  refine W.lcmp hx hb dL_isSame_551 ?_
                  refine lv_if_ge (tgt := 559) hx hb dL_isSame_552 (by decide) (fun c9 => ?_) (fun c9 => (c9 (rRow_nn hr2).2).elim)
                  refine lv_iload hx hb dL_isSame_559 (lv_at hl 1 rfl) ?_
                  refine lv_istore (lv' := [(23, .int (nI (m_unl d (nI u1) (nI u2) i (4 * q)))), (24, .int (nI ((4 * q) + 1))), (21, .long (gc ((2 + (2 * u2)) + i))), (19, .long (gc ((2 + (2 * u1)) + i))), (14, .int 1), (18, .int ((gp ((7 * u1) + tn)) - (gp ((7 * u2) + tn)))), (17, .int (nI tn)), (16, .int (nI u2)), (15, .int (nI u1)), (13, .int (f_stL (nI pa) (nI (kk (4 * pa + vl))) (f_sdL (gc i) (4 * q) fs (4 * q)) (f_sdL (gc i) (4 * q) (fs + 1) (4 * q)) t9)), (12, .int (nI fs)), (11, .int (nI sq)), (10, .int (nI (kk (4 * pa + vl)))), (9, .int (nI vl)), (8, .int (nI pa)), (7, .int (nI (j + 1))), (6, .int (nI (4 * q))), (5, .int (nI i)), (0, .ref oa), (1, .ref ac), (2, .ref am), (3, .ref ap), (4, .int (nI Z))]) hx hb dL_isSame_561 hl (by decide) rfl (fun ls hl => ?_)
                  refine lv_iload hx hb dL_isSame_563 (lv_at hl 4 rfl) ?_
                  refine lv_if_eq (tgt := 602) hx hb dL_isSame_565 (by decide) (fun c9 => absurd c9 (by decide)) (fun _ => ?_)
                  refine lv_aload_n hx hb dL_isSame_568 rfl (lv_at hl 18 rfl) ?_
                  refine lv_iload hx hb dL_isSame_569 (lv_at hl 8 rfl) ?_
                  refine lv_iload hx hb dL_isSame_571 (lv_at hl 22 rfl) ?_
                  refine lv_sipush (v := 400) hx hb dL_isSame_573 (by decide) ?_
                  refine lv_idiv hx hb dL_isSame_576 (by decide) ?_
                  refine lv_topi (fun k_171 ek_171 => ?_)
                  obtain rfl : k_171 = nI (Z / 400) := ek_171.trans (pk_div (a := Z) (d := 400) (by omega) (by omega) (by omega))
                  refine lv_iconst (v := 2) hx hb dL_isSame_577 (by decide) ?_
                  refine lv_irem hx hb dL_isSame_578 (by decide) ?_
                  refine lv_topi (fun k_172 ek_172 => ?_)
                  obtain rfl : k_172 = nI ((Z / 400) % 2) := ek_172.trans (pk_rem (a := (Z / 400)) (d := 2) (by omega) (by omega) (by omega))
                  refine lv_if_ne (tgt := 586) hx hb dL_isSame_579 (by decide) (fun c9 => ?_) (fun c9 => absurd c9 (fun h9 => absurd ((nI_eq (a := ((Z / 400) % 2)) (b := 0) (by omega) (by omega)).mp h9) (by omega)))
                  refine lv_iload hx hb dL_isSame_586 (lv_at hl 7 rfl) ?_
                  refine lv_iload hx hb dL_isSame_588 (lv_at hl 17 rfl) ?_
                  obtain ⟨fsz_173, z_173⟩ := cO_z hC
                  refine g_callV (rest := []) (As := [.int (nI u1), .int (nI u2), .int (nI i)]) hE hG hl.1 (k_unlike l hfl D tc A w_118 oa d tk st (nI u1) (nI u2) (nI i) hC hI.1 (go_unlike hI.1 (by omega) (by omega) (Or.inr ⟨u2, by omega, rfl⟩))) z_173 rfl mw3_156 mw3_157 mw3_158 mw1_1 mw3_159 rfl nm_X5_unlike ⟨⟨Nat.le_of_ble_eq_true rfl, Nat.le_of_ble_eq_true rfl⟩, Nat.le_of_ble_eq_true rfl, Nat.le_of_ble_eq_true rfl⟩ rfl rfl (Nat.le_of_ble_eq_true rfl) dL_isSame_590 (g_no) ?_
                  intro v9 w_174 H locs h9 hG
                  obtain ⟨e9, hC, g_175⟩ := h9
                  rw [e9]; clear e9
                  show W p l e _ s m args below meth c H locs _ _ _ (F0 m 593 ls [.int (m_unlike d (nI u1) (nI u2) (nI i))])
                  have h_176 : w_174 1000 = some (ac, .inl (tc 1, 15, .inr (.inl gc))) := (g_175 1000 (by decide)).trans h_120
                  have h_177 : w_174 1001 = some (am, .inl (tc 0, 19, .inl gm)) := (g_175 1001 (by decide)).trans h_121
                  have h_178 : w_174 1002 = some (ap, .inl (tc 0, 32, .inl gp)) := (g_175 1002 (by decide)).trans h_122
                  have hC : cO tc w_174 oa d tk st := hC
                  refine lv_iload hx hb dL_isSame_593 (lv_at hl 0 rfl) ?_
                  refine lv_icmp_ne (tgt := 602) hx hb dL_isSame_595 (by decide) (fun c9 => (c9 (by unfold m_unlike; rw [kn_u (by omega) (by omega)]; rw [if_neg hk1, if_neg one_nz]; rw [kn_u (by omega) (by omega), if_neg hk2, if_neg one_nz, nI_clamp (by omega), hlen])).elim) (fun c9 => ?_)
                  refine lv_iconst (v := 1) hx hb dL_isSame_598 (by decide) ?_
                  refine lv_goto (tgt := 603) hx hb dL_isSame_599 (by decide) ?_
                  subst hQ
                  exact g_zret hE hG hr (by decide) (Nat.le_of_ble_eq_true rfl) (Nat.le_of_ble_eq_true rfl) dL_isSame_603 ⟨rfl, hC, gK_tr (gK_tr (gK_tr (gK_tr (gK_tr (gK_tr (gK_tr (gK_tr (gK_tr (gK_tr (gK_tr (gK_tr (gK_tr (gK_tr (g_24) g_30) g_36) g_42) g_48) g_54) g_60) g_66) g_72) g_78) g_84) g_90) g_111) g_119) g_175⟩
                | succ n_168 ihn_168 =>
                  intro k H locs ls hk_169 hG hl
                  refine lv_iload hx hb dL_isSame_483 (lv_at hl 0 rfl) ?_
                  refine lv_iload hx hb dL_isSame_485 (lv_at hl 16 rfl) ?_
                  refine lv_icmp_gt (tgt := 541) hx hb dL_isSame_487 (by decide) (fun c9 => absurd c9 (fun h9 => absurd ((nI_ltI (a := (4 * q)) (b := (k + 1)) (by omega) (by omega)).mp h9) (by omega))) (fun c9 => ?_)
                  refine lv_iload hx hb dL_isSame_490 (lv_at hl 1 rfl) ?_
                  refine lv_lload hx hb dL_isSame_492 (lv_at hl 3 rfl) ?_
                  refine lv_lconst (v := 0) hx hb dL_isSame_494 (by decide) ?_
                  refine W.lcmp hx hb dL_isSame_495 ?_
                  refine lv_if_lt (tgt := 506) hx hb dL_isSame_496 (by decide) (fun c9 => absurd c9 (rRow_nn hr1).1) (fun c9 => ?_)
                  refine lv_lload hx hb dL_isSame_499 (lv_at hl 2 rfl) ?_
                  refine lv_lconst (v := 0) hx hb dL_isSame_501 (by decide) ?_
                  refine W.lcmp hx hb dL_isSame_502 ?_
                  refine lv_if_ge (tgt := 510) hx hb dL_isSame_503 (by decide) (fun c9 => ?_) (fun c9 => (c9 (rRow_nn hr2).2).elim)
                  refine lv_lload hx hb dL_isSame_510 (lv_at hl 3 rfl) ?_
                  refine lv_iload hx hb dL_isSame_512 (lv_at hl 0 rfl) ?_
                  refine g_callS (rest := [.int (nI (m_unl d (nI u1) (nI u2) i k))]) (As := [.long (gc ((2 + (2 * u1)) + i)), .int (nI (k + 1))]) hE hG hl.1 (c_L_at l hfl D tc A w_118 (gc ((2 + (2 * u1)) + i)) (nI (k + 1)) ) mw3_5 mw3_6 mw1_0 mw3_7 nm_L_at ⟨⟨Nat.le_of_ble_eq_true rfl, Nat.le_of_ble_eq_true rfl⟩, Nat.le_of_ble_eq_true rfl, Nat.le_of_ble_eq_true rfl⟩ rfl rfl (Nat.le_of_ble_eq_true rfl) dL_isSame_514 (g_no) ?_
                  intro v9 w9 H locs h9 hG
                  obtain ⟨e9, f9⟩ := h9
                  rw [f9] at hG; rw [e9]; clear e9 f9
                  show W p l e _ s m args below meth c H locs _ _ _ (F0 m 517 ls [.int (f_atL (gc ((2 + (2 * u1)) + i)) (nI (k + 1))), .int (nI (m_unl d (nI u1) (nI u2) i k))])
                  refine lv_lload hx hb dL_isSame_517 (lv_at hl 2 rfl) ?_
                  refine lv_iload hx hb dL_isSame_519 (lv_at hl 0 rfl) ?_
                  refine g_callS (rest := [.int (f_atL (gc ((2 + (2 * u1)) + i)) (nI (k + 1))), .int (nI (m_unl d (nI u1) (nI u2) i k))]) (As := [.long (gc ((2 + (2 * u2)) + i)), .int (nI (k + 1))]) hE hG hl.1 (c_L_at l hfl D tc A w_118 (gc ((2 + (2 * u2)) + i)) (nI (k + 1)) ) mw3_5 mw3_6 mw1_0 mw3_7 nm_L_at ⟨⟨Nat.le_of_ble_eq_true rfl, Nat.le_of_ble_eq_true rfl⟩, Nat.le_of_ble_eq_true rfl, Nat.le_of_ble_eq_true rfl⟩ rfl rfl (Nat.le_of_ble_eq_true rfl) dL_isSame_521 (g_no) ?_
                  intro v9 w9 H locs h9 hG
                  obtain ⟨e9, f9⟩ := h9
                  rw [f9] at hG; rw [e9]; clear e9 f9
                  show W p l e _ s m args below meth c H locs _ _ _ (F0 m 524 ls [.int (f_atL (gc ((2 + (2 * u2)) + i)) (nI (k + 1))), .int (f_atL (gc ((2 + (2 * u1)) + i)) (nI (k + 1))), .int (nI (m_unl d (nI u1) (nI u2) i k))])
                  have j_180 : ∀ (v_179 : Int32) (H : Heap) (locs : List Loc), v_179 = (if (f_atL (gc ((2 + (2 * u1)) + i)) (nI (k + 1))) = (f_atL (gc ((2 + (2 * u2)) + i)) (nI (k + 1))) then 0 else 1 : Int32) → gS D A s.heap w_118 H locs → W p l e rm_L_isSame s m args below meth c H locs (((((((((((((((((((((((0 + rm_L_density.cells) + rm_L_sounds.cells) + rm_L_sounds.cells) + rm_L_stroke.cells) + rm_X5_depth.cells) + rm_L_depth.cells) + rm_X5_sounds.cells) + rm_L_sounds.cells) + rm_X5_stroke.cells) + rm_X5_strokeAnew.cells) + rm_X5_now.cells) + rm_X5_now.cells) + rm_X5_now.cells) + rm_X5_now.cells) + rm_X5_now.cells) + rm_X5_now.cells) + rm_X5_ticks.cells) + rm_X5_strokes.cells) + rm_X5_beat.cells) + rm_X5_covered.cells) + rm_L_covered.cells) + rm_L_at.cells) + rm_L_at.cells) (((((((((((((((((((((((0 + rm_L_density.slots) + rm_L_sounds.slots) + rm_L_sounds.slots) + rm_L_stroke.slots) + rm_X5_depth.slots) + rm_L_depth.slots) + rm_X5_sounds.slots) + rm_L_sounds.slots) + rm_X5_stroke.slots) + rm_X5_strokeAnew.slots) + rm_X5_now.slots) + rm_X5_now.slots) + rm_X5_now.slots) + rm_X5_now.slots) + rm_X5_now.slots) + rm_X5_now.slots) + rm_X5_ticks.slots) + rm_X5_strokes.slots) + rm_X5_beat.slots) + rm_X5_covered.slots) + rm_L_covered.slots) + rm_L_at.slots) + rm_L_at.slots) Q (F0 m 532 ls (.int v_179 :: [.int (nI (m_unl d (nI u1) (nI u2) i k))])) := by
                    intro v_179 H locs ev_179 hG
                    refine lv_iadd hx hb dL_isSame_532 ?_
                    refine lv_istore (lv' := [(23, .int ((nI (m_unl d (nI u1) (nI u2) i k)) + v_179)), (24, .int (nI (k + 1))), (21, .long (gc ((2 + (2 * u2)) + i))), (19, .long (gc ((2 + (2 * u1)) + i))), (14, .int 1), (18, .int ((gp ((7 * u1) + tn)) - (gp ((7 * u2) + tn)))), (17, .int (nI tn)), (16, .int (nI u2)), (15, .int (nI u1)), (13, .int (f_stL (nI pa) (nI (kk (4 * pa + vl))) (f_sdL (gc i) (4 * q) fs (4 * q)) (f_sdL (gc i) (4 * q) (fs + 1) (4 * q)) t9)), (12, .int (nI fs)), (11, .int (nI sq)), (10, .int (nI (kk (4 * pa + vl)))), (9, .int (nI vl)), (8, .int (nI pa)), (7, .int (nI (j + 1))), (6, .int (nI (4 * q))), (5, .int (nI i)), (0, .ref oa), (1, .ref ac), (2, .ref am), (3, .ref ap), (4, .int (nI Z))]) hx hb dL_isSame_533 hl (by decide) rfl (fun ls hl => ?_)
                    refine lv_iinc (v := (nI ((k + 1) + 1))) (lv' := [(24, .int (nI ((k + 1) + 1))), (23, .int ((nI (m_unl d (nI u1) (nI u2) i k)) + v_179)), (21, .long (gc ((2 + (2 * u2)) + i))), (19, .long (gc ((2 + (2 * u1)) + i))), (14, .int 1), (18, .int ((gp ((7 * u1) + tn)) - (gp ((7 * u2) + tn)))), (17, .int (nI tn)), (16, .int (nI u2)), (15, .int (nI u1)), (13, .int (f_stL (nI pa) (nI (kk (4 * pa + vl))) (f_sdL (gc i) (4 * q) fs (4 * q)) (f_sdL (gc i) (4 * q) (fs + 1) (4 * q)) t9)), (12, .int (nI fs)), (11, .int (nI sq)), (10, .int (nI (kk (4 * pa + vl)))), (9, .int (nI vl)), (8, .int (nI pa)), (7, .int (nI (j + 1))), (6, .int (nI (4 * q))), (5, .int (nI i)), (0, .ref oa), (1, .ref ac), (2, .ref am), (3, .ref ap), (4, .int (nI Z))]) hx hb dL_isSame_535 hl (k := 1) rfl (by rw [show k + 1 + 1 = (k + 1) + 1 by omega]; exact (nI_1 _)) (by decide) rfl (fun ls hl => ?_)
                    refine lv_goto (tgt := 483) hx hb dL_isSame_538 (by decide) ?_
                    have hl : lv_has ls 25 [(24, .int (nI ((k + 1) + 1))), (23, .int (nI (m_unl d (nI u1) (nI u2) i (k + 1)))), (21, .long (gc ((2 + (2 * u2)) + i))), (19, .long (gc ((2 + (2 * u1)) + i))), (14, .int 1), (18, .int ((gp ((7 * u1) + tn)) - (gp ((7 * u2) + tn)))), (17, .int (nI tn)), (16, .int (nI u2)), (15, .int (nI u1)), (13, .int (f_stL (nI pa) (nI (kk (4 * pa + vl))) (f_sdL (gc i) (4 * q) fs (4 * q)) (f_sdL (gc i) (4 * q) (fs + 1) (4 * q)) t9)), (12, .int (nI fs)), (11, .int (nI sq)), (10, .int (nI (kk (4 * pa + vl)))), (9, .int (nI vl)), (8, .int (nI pa)), (7, .int (nI (j + 1))), (6, .int (nI (4 * q))), (5, .int (nI i)), (0, .ref oa), (1, .ref ac), (2, .ref am), (3, .ref ap), (4, .int (nI Z))] := by rw [m_unl_s (ev_179.trans (by rw [tof_r hr1 (by omega) (by omega) (by omega), tof_r hr2 (by omega) (by omega) (by omega)]))] at hl; exact hl
                    exact ihn_168 (k + 1) _ _ _ (by omega) hG (lv_sub hl [0, 1, 2, 3, 4, 5, 6, 7, 8, 9, 10, 11, 12, 13, 14, 15, 16, 17, 18, 19, 20, 21, 22] rfl)
                  refine lv_icmp_eq (tgt := 531) hx hb dL_isSame_524 (by decide) (fun c_181 => ?_) (fun c_181 => ?_)
                  · skip
                    refine lv_iconst (v := 0) hx hb dL_isSame_531 (by decide) ?_
                    exact j_180 _ _ _ (by rw [if_pos c_181]) hG
                  · skip
                    refine lv_iconst (v := 1) hx hb dL_isSame_527 (by decide) ?_
                    refine lv_goto (tgt := 532) hx hb dL_isSame_528 (by decide) ?_
                    exact j_180 _ _ _ (by rw [if_neg c_181]) hG
              exact hloop_170 (4 * q) 0 _ _ _ (by omega) hG (lv_sub hl [0, 1, 2, 3, 4, 5, 6, 7, 8, 9, 10, 11, 12, 13, 14, 15, 16, 17, 18, 19, 20, 21, 22] rfl)
        · skip
          have nc_128 : ((Z / 400) % 2) = 0 := (nI_eq (a := ((Z / 400) % 2)) (b := 0) (by omega) (by omega)).mp c_128
          refine lv_aload_n hx hb dL_isSame_457 rfl (lv_at hl 16 rfl) ?_
          refine lv_iload hx hb dL_isSame_458 (lv_at hl 14 rfl) ?_
          refine g_laldN hE hG h_120 i rfl (by omega) (by decide) dL_isSame_460 ?_
          refine lv_goto (tgt := 475) hx hb dL_isSame_461 (by decide) ?_
          refine lv_lstore (lv' := [(21, .long (gc i)), (19, .long (gc ((2 + (2 * u1)) + i))), (14, .int 1), (18, .int ((gp ((7 * u1) + tn)) - (gp ((7 * u2) + tn)))), (17, .int (nI tn)), (16, .int (nI u2)), (15, .int (nI u1)), (13, .int (f_stL (nI pa) (nI (kk (4 * pa + vl))) (f_sdL (gc i) (4 * q) fs (4 * q)) (f_sdL (gc i) (4 * q) (fs + 1) (4 * q)) t9)), (12, .int (nI fs)), (11, .int (nI sq)), (10, .int (nI (kk (4 * pa + vl)))), (9, .int (nI vl)), (8, .int (nI pa)), (7, .int (nI (j + 1))), (6, .int (nI (4 * q))), (5, .int (nI i)), (0, .ref oa), (1, .ref ac), (2, .ref am), (3, .ref ap), (4, .int (nI Z))]) hx hb dL_isSame_475 hl (by decide) rfl (fun ls hl => ?_)
          rcases hru with ⟨hk1, hr1⟩ | ⟨hk1, hr1⟩
          · skip
            have hr2 := (hRA.2 i hi).2.2.2.2.2
            refine lv_iconst (v := 0) hx hb dL_isSame_477 (by decide) ?_
            refine lv_istore (lv' := [(23, .int 0), (21, .long (gc i)), (19, .long (gc ((2 + (2 * u1)) + i))), (14, .int 1), (18, .int ((gp ((7 * u1) + tn)) - (gp ((7 * u2) + tn)))), (17, .int (nI tn)), (16, .int (nI u2)), (15, .int (nI u1)), (13, .int (f_stL (nI pa) (nI (kk (4 * pa + vl))) (f_sdL (gc i) (4 * q) fs (4 * q)) (f_sdL (gc i) (4 * q) (fs + 1) (4 * q)) t9)), (12, .int (nI fs)), (11, .int (nI sq)), (10, .int (nI (kk (4 * pa + vl)))), (9, .int (nI vl)), (8, .int (nI pa)), (7, .int (nI (j + 1))), (6, .int (nI (4 * q))), (5, .int (nI i)), (0, .ref oa), (1, .ref ac), (2, .ref am), (3, .ref ap), (4, .int (nI Z))]) hx hb dL_isSame_478 hl (by decide) rfl (fun ls hl => ?_)
            refine lv_iconst (v := 1) hx hb dL_isSame_480 (by decide) ?_
            refine lv_istore (lv' := [(24, .int 1), (23, .int 0), (21, .long (gc i)), (19, .long (gc ((2 + (2 * u1)) + i))), (14, .int 1), (18, .int ((gp ((7 * u1) + tn)) - (gp ((7 * u2) + tn)))), (17, .int (nI tn)), (16, .int (nI u2)), (15, .int (nI u1)), (13, .int (f_stL (nI pa) (nI (kk (4 * pa + vl))) (f_sdL (gc i) (4 * q) fs (4 * q)) (f_sdL (gc i) (4 * q) (fs + 1) (4 * q)) t9)), (12, .int (nI fs)), (11, .int (nI sq)), (10, .int (nI (kk (4 * pa + vl)))), (9, .int (nI vl)), (8, .int (nI pa)), (7, .int (nI (j + 1))), (6, .int (nI (4 * q))), (5, .int (nI i)), (0, .ref oa), (1, .ref ac), (2, .ref am), (3, .ref ap), (4, .int (nI Z))]) hx hb dL_isSame_481 hl (by decide) rfl (fun ls hl => ?_)
            have hl : lv_has ls 25 [(24, .int (nI (0 + 1))), (23, .int 0), (21, .long (gc i)), (19, .long (gc ((2 + (2 * u1)) + i))), (14, .int 1), (18, .int ((gp ((7 * u1) + tn)) - (gp ((7 * u2) + tn)))), (17, .int (nI tn)), (16, .int (nI u2)), (15, .int (nI u1)), (13, .int (f_stL (nI pa) (nI (kk (4 * pa + vl))) (f_sdL (gc i) (4 * q) fs (4 * q)) (f_sdL (gc i) (4 * q) (fs + 1) (4 * q)) t9)), (12, .int (nI fs)), (11, .int (nI sq)), (10, .int (nI (kk (4 * pa + vl)))), (9, .int (nI vl)), (8, .int (nI pa)), (7, .int (nI (j + 1))), (6, .int (nI (4 * q))), (5, .int (nI i)), (0, .ref oa), (1, .ref ac), (2, .ref am), (3, .ref ap), (4, .int (nI Z))] := lv_sub hl [0, 1, 2, 3, 4, 5, 6, 7, 8, 9, 10, 11, 12, 13, 14, 15, 16, 17, 18, 19, 20, 21, 22] rfl
            have hloop_184 : ∀ (n_182 k : Nat) (H : Heap) (locs : List Loc) (ls : Array Slot), k + n_182 = (4 * q) → gS D A s.heap w_118 H locs → lv_has ls 25 [(24, .int (nI (k + 1))), (23, .int 0), (21, .long (gc i)), (19, .long (gc ((2 + (2 * u1)) + i))), (14, .int 1), (18, .int ((gp ((7 * u1) + tn)) - (gp ((7 * u2) + tn)))), (17, .int (nI tn)), (16, .int (nI u2)), (15, .int (nI u1)), (13, .int (f_stL (nI pa) (nI (kk (4 * pa + vl))) (f_sdL (gc i) (4 * q) fs (4 * q)) (f_sdL (gc i) (4 * q) (fs + 1) (4 * q)) t9)), (12, .int (nI fs)), (11, .int (nI sq)), (10, .int (nI (kk (4 * pa + vl)))), (9, .int (nI vl)), (8, .int (nI pa)), (7, .int (nI (j + 1))), (6, .int (nI (4 * q))), (5, .int (nI i)), (0, .ref oa), (1, .ref ac), (2, .ref am), (3, .ref ap), (4, .int (nI Z))] → W p l e rm_L_isSame s m args below meth c H locs (((((((((((((((((((((0 + rm_L_density.cells) + rm_L_sounds.cells) + rm_L_sounds.cells) + rm_L_stroke.cells) + rm_X5_depth.cells) + rm_L_depth.cells) + rm_X5_sounds.cells) + rm_L_sounds.cells) + rm_X5_stroke.cells) + rm_X5_strokeAnew.cells) + rm_X5_now.cells) + rm_X5_now.cells) + rm_X5_now.cells) + rm_X5_now.cells) + rm_X5_now.cells) + rm_X5_now.cells) + rm_X5_ticks.cells) + rm_X5_strokes.cells) + rm_X5_beat.cells) + rm_X5_covered.cells) + rm_L_covered.cells) (((((((((((((((((((((0 + rm_L_density.slots) + rm_L_sounds.slots) + rm_L_sounds.slots) + rm_L_stroke.slots) + rm_X5_depth.slots) + rm_L_depth.slots) + rm_X5_sounds.slots) + rm_L_sounds.slots) + rm_X5_stroke.slots) + rm_X5_strokeAnew.slots) + rm_X5_now.slots) + rm_X5_now.slots) + rm_X5_now.slots) + rm_X5_now.slots) + rm_X5_now.slots) + rm_X5_now.slots) + rm_X5_ticks.slots) + rm_X5_strokes.slots) + rm_X5_beat.slots) + rm_X5_covered.slots) + rm_L_covered.slots) Q (F0 m 483 ls []) := by
              intro n_182
              induction n_182 with
              | zero =>
                intro k H locs ls hk_183 hG hl
                have ei9 : k = (4 * q) := by omega
                rw [ei9] at hl
                refine lv_iload hx hb dL_isSame_483 (lv_at hl 0 rfl) ?_
                refine lv_iload hx hb dL_isSame_485 (lv_at hl 16 rfl) ?_
                refine lv_icmp_gt (tgt := 541) hx hb dL_isSame_487 (by decide) (fun c9 => ?_) (fun c9 => (c9 ((nI_ltI (a := (4 * q)) (b := ((4 * q) + 1)) (by omega) (by omega)).mpr (by omega))).elim)
                refine lv_lload hx hb dL_isSame_541 (lv_at hl 3 rfl) ?_
                refine lv_lconst (v := 0) hx hb dL_isSame_543 (by decide) ?_
                refine W.lcmp hx hb dL_isSame_544 ?_
                refine lv_if_lt (tgt := 555) hx hb dL_isSame_545 (by decide) (fun c9 => ?_) (fun c9 => (c9 (by rw [hr1]; decide)).elim)
                refine lv_iconst (v := (-1)) hx hb dL_isSame_555 (by decide) ?_
                refine lv_goto (tgt := 561) hx hb dL_isSame_556 (by decide) ?_
                refine lv_istore (lv' := [(23, .int (-1)), (24, .int (nI ((4 * q) + 1))), (21, .long (gc i)), (19, .long (gc ((2 + (2 * u1)) + i))), (14, .int 1), (18, .int ((gp ((7 * u1) + tn)) - (gp ((7 * u2) + tn)))), (17, .int (nI tn)), (16, .int (nI u2)), (15, .int (nI u1)), (13, .int (f_stL (nI pa) (nI (kk (4 * pa + vl))) (f_sdL (gc i) (4 * q) fs (4 * q)) (f_sdL (gc i) (4 * q) (fs + 1) (4 * q)) t9)), (12, .int (nI fs)), (11, .int (nI sq)), (10, .int (nI (kk (4 * pa + vl)))), (9, .int (nI vl)), (8, .int (nI pa)), (7, .int (nI (j + 1))), (6, .int (nI (4 * q))), (5, .int (nI i)), (0, .ref oa), (1, .ref ac), (2, .ref am), (3, .ref ap), (4, .int (nI Z))]) hx hb dL_isSame_561 hl (by decide) rfl (fun ls hl => ?_)
                refine lv_iload hx hb dL_isSame_563 (lv_at hl 4 rfl) ?_
                refine lv_if_eq (tgt := 602) hx hb dL_isSame_565 (by decide) (fun c9 => absurd c9 (by decide)) (fun _ => ?_)
                refine lv_aload_n hx hb dL_isSame_568 rfl (lv_at hl 18 rfl) ?_
                refine lv_iload hx hb dL_isSame_569 (lv_at hl 8 rfl) ?_
                refine lv_iload hx hb dL_isSame_571 (lv_at hl 22 rfl) ?_
                refine lv_sipush (v := 400) hx hb dL_isSame_573 (by decide) ?_
                refine lv_idiv hx hb dL_isSame_576 (by decide) ?_
                refine lv_topi (fun k_185 ek_185 => ?_)
                obtain rfl : k_185 = nI (Z / 400) := ek_185.trans (pk_div (a := Z) (d := 400) (by omega) (by omega) (by omega))
                refine lv_iconst (v := 2) hx hb dL_isSame_577 (by decide) ?_
                refine lv_irem hx hb dL_isSame_578 (by decide) ?_
                refine lv_topi (fun k_186 ek_186 => ?_)
                obtain rfl : k_186 = nI ((Z / 400) % 2) := ek_186.trans (pk_rem (a := (Z / 400)) (d := 2) (by omega) (by omega) (by omega))
                refine lv_if_ne (tgt := 586) hx hb dL_isSame_579 (by decide) (fun c9 => (c9 ((nI_eq (a := ((Z / 400) % 2)) (b := 0) (by omega) (by omega)).mpr (by omega))).elim) (fun c9 => ?_)
                refine lv_iconst (v := (-1)) hx hb dL_isSame_582 (by decide) ?_
                refine lv_goto (tgt := 588) hx hb dL_isSame_583 (by decide) ?_
                refine lv_iload hx hb dL_isSame_588 (lv_at hl 17 rfl) ?_
                obtain ⟨fsz_187, z_187⟩ := cO_z hC
                refine g_callV (rest := []) (As := [.int (nI u1), .int (-1), .int (nI i)]) hE hG hl.1 (k_unlike l hfl D tc A w_118 oa d tk st (nI u1) (-1) (nI i) hC hI.1 (go_unlike hI.1 (by omega) (by omega) (Or.inl rfl))) z_187 rfl mw3_156 mw3_157 mw3_158 mw1_1 mw3_159 rfl nm_X5_unlike ⟨⟨Nat.le_of_ble_eq_true rfl, Nat.le_of_ble_eq_true rfl⟩, Nat.le_of_ble_eq_true rfl, Nat.le_of_ble_eq_true rfl⟩ rfl rfl (Nat.le_of_ble_eq_true rfl) dL_isSame_590 (g_no) ?_
                intro v9 w_188 H locs h9 hG
                obtain ⟨e9, hC, g_189⟩ := h9
                rw [e9]; clear e9
                show W p l e _ s m args below meth c H locs _ _ _ (F0 m 593 ls [.int (m_unlike d (nI u1) (-1) (nI i))])
                have h_190 : w_188 1000 = some (ac, .inl (tc 1, 15, .inr (.inl gc))) := (g_189 1000 (by decide)).trans h_120
                have h_191 : w_188 1001 = some (am, .inl (tc 0, 19, .inl gm)) := (g_189 1001 (by decide)).trans h_121
                have h_192 : w_188 1002 = some (ap, .inl (tc 0, 32, .inl gp)) := (g_189 1002 (by decide)).trans h_122
                have hC : cO tc w_188 oa d tk st := hC
                refine lv_iload hx hb dL_isSame_593 (lv_at hl 0 rfl) ?_
                refine lv_icmp_ne (tgt := 602) hx hb dL_isSame_595 (by decide) (fun c9 => (c9 (by unfold m_unlike; rw [kn_u (by omega) (by omega)]; rw [if_pos hk1, if_pos rfl])).elim) (fun c9 => ?_)
                refine lv_iconst (v := 1) hx hb dL_isSame_598 (by decide) ?_
                refine lv_goto (tgt := 603) hx hb dL_isSame_599 (by decide) ?_
                subst hQ
                exact g_zret hE hG hr (by decide) (Nat.le_of_ble_eq_true rfl) (Nat.le_of_ble_eq_true rfl) dL_isSame_603 ⟨rfl, hC, gK_tr (gK_tr (gK_tr (gK_tr (gK_tr (gK_tr (gK_tr (gK_tr (gK_tr (gK_tr (gK_tr (gK_tr (gK_tr (gK_tr (g_24) g_30) g_36) g_42) g_48) g_54) g_60) g_66) g_72) g_78) g_84) g_90) g_111) g_119) g_189⟩
              | succ n_182 ihn_182 =>
                intro k H locs ls hk_183 hG hl
                refine lv_iload hx hb dL_isSame_483 (lv_at hl 0 rfl) ?_
                refine lv_iload hx hb dL_isSame_485 (lv_at hl 16 rfl) ?_
                refine lv_icmp_gt (tgt := 541) hx hb dL_isSame_487 (by decide) (fun c9 => absurd c9 (fun h9 => absurd ((nI_ltI (a := (4 * q)) (b := (k + 1)) (by omega) (by omega)).mp h9) (by omega))) (fun c9 => ?_)
                refine lv_iload hx hb dL_isSame_490 (lv_at hl 1 rfl) ?_
                refine lv_lload hx hb dL_isSame_492 (lv_at hl 3 rfl) ?_
                refine lv_lconst (v := 0) hx hb dL_isSame_494 (by decide) ?_
                refine W.lcmp hx hb dL_isSame_495 ?_
                refine lv_if_lt (tgt := 506) hx hb dL_isSame_496 (by decide) (fun c9 => ?_) (fun c9 => (c9 (by rw [hr1]; decide)).elim)
                refine lv_iconst (v := 0) hx hb dL_isSame_506 (by decide) ?_
                refine lv_goto (tgt := 532) hx hb dL_isSame_507 (by decide) ?_
                refine lv_iadd hx hb dL_isSame_532 ?_
                refine lv_topi (fun k_193 ek_193 => ?_)
                obtain rfl : k_193 = 0 := ek_193.trans (by decide)
                refine lv_istore (lv' := [(23, .int 0), (24, .int (nI (k + 1))), (21, .long (gc i)), (19, .long (gc ((2 + (2 * u1)) + i))), (14, .int 1), (18, .int ((gp ((7 * u1) + tn)) - (gp ((7 * u2) + tn)))), (17, .int (nI tn)), (16, .int (nI u2)), (15, .int (nI u1)), (13, .int (f_stL (nI pa) (nI (kk (4 * pa + vl))) (f_sdL (gc i) (4 * q) fs (4 * q)) (f_sdL (gc i) (4 * q) (fs + 1) (4 * q)) t9)), (12, .int (nI fs)), (11, .int (nI sq)), (10, .int (nI (kk (4 * pa + vl)))), (9, .int (nI vl)), (8, .int (nI pa)), (7, .int (nI (j + 1))), (6, .int (nI (4 * q))), (5, .int (nI i)), (0, .ref oa), (1, .ref ac), (2, .ref am), (3, .ref ap), (4, .int (nI Z))]) hx hb dL_isSame_533 hl (by decide) rfl (fun ls hl => ?_)
                refine lv_iinc (v := (nI ((k + 1) + 1))) (lv' := [(24, .int (nI ((k + 1) + 1))), (23, .int 0), (21, .long (gc i)), (19, .long (gc ((2 + (2 * u1)) + i))), (14, .int 1), (18, .int ((gp ((7 * u1) + tn)) - (gp ((7 * u2) + tn)))), (17, .int (nI tn)), (16, .int (nI u2)), (15, .int (nI u1)), (13, .int (f_stL (nI pa) (nI (kk (4 * pa + vl))) (f_sdL (gc i) (4 * q) fs (4 * q)) (f_sdL (gc i) (4 * q) (fs + 1) (4 * q)) t9)), (12, .int (nI fs)), (11, .int (nI sq)), (10, .int (nI (kk (4 * pa + vl)))), (9, .int (nI vl)), (8, .int (nI pa)), (7, .int (nI (j + 1))), (6, .int (nI (4 * q))), (5, .int (nI i)), (0, .ref oa), (1, .ref ac), (2, .ref am), (3, .ref ap), (4, .int (nI Z))]) hx hb dL_isSame_535 hl (k := 1) rfl (by rw [show k + 1 + 1 = (k + 1) + 1 by omega]; exact (nI_1 _)) (by decide) rfl (fun ls hl => ?_)
                refine lv_goto (tgt := 483) hx hb dL_isSame_538 (by decide) ?_
                have hl : lv_has ls 25 [(24, .int (nI ((k + 1) + 1))), (23, .int 0), (21, .long (gc i)), (19, .long (gc ((2 + (2 * u1)) + i))), (14, .int 1), (18, .int ((gp ((7 * u1) + tn)) - (gp ((7 * u2) + tn)))), (17, .int (nI tn)), (16, .int (nI u2)), (15, .int (nI u1)), (13, .int (f_stL (nI pa) (nI (kk (4 * pa + vl))) (f_sdL (gc i) (4 * q) fs (4 * q)) (f_sdL (gc i) (4 * q) (fs + 1) (4 * q)) t9)), (12, .int (nI fs)), (11, .int (nI sq)), (10, .int (nI (kk (4 * pa + vl)))), (9, .int (nI vl)), (8, .int (nI pa)), (7, .int (nI (j + 1))), (6, .int (nI (4 * q))), (5, .int (nI i)), (0, .ref oa), (1, .ref ac), (2, .ref am), (3, .ref ap), (4, .int (nI Z))] := hl
                exact ihn_182 (k + 1) _ _ _ (by omega) hG (lv_sub hl [0, 1, 2, 3, 4, 5, 6, 7, 8, 9, 10, 11, 12, 13, 14, 15, 16, 17, 18, 19, 20, 21, 22] rfl)
            exact hloop_184 (4 * q) 0 _ _ _ (by omega) hG (lv_sub hl [0, 1, 2, 3, 4, 5, 6, 7, 8, 9, 10, 11, 12, 13, 14, 15, 16, 17, 18, 19, 20, 21, 22] rfl)
          · skip
            have hr2 := (hRA.2 i hi).2.2.2.2.2
            refine lv_iconst (v := 0) hx hb dL_isSame_477 (by decide) ?_
            refine lv_istore (lv' := [(23, .int 0), (21, .long (gc i)), (19, .long (gc ((2 + (2 * u1)) + i))), (14, .int 1), (18, .int ((gp ((7 * u1) + tn)) - (gp ((7 * u2) + tn)))), (17, .int (nI tn)), (16, .int (nI u2)), (15, .int (nI u1)), (13, .int (f_stL (nI pa) (nI (kk (4 * pa + vl))) (f_sdL (gc i) (4 * q) fs (4 * q)) (f_sdL (gc i) (4 * q) (fs + 1) (4 * q)) t9)), (12, .int (nI fs)), (11, .int (nI sq)), (10, .int (nI (kk (4 * pa + vl)))), (9, .int (nI vl)), (8, .int (nI pa)), (7, .int (nI (j + 1))), (6, .int (nI (4 * q))), (5, .int (nI i)), (0, .ref oa), (1, .ref ac), (2, .ref am), (3, .ref ap), (4, .int (nI Z))]) hx hb dL_isSame_478 hl (by decide) rfl (fun ls hl => ?_)
            refine lv_iconst (v := 1) hx hb dL_isSame_480 (by decide) ?_
            refine lv_istore (lv' := [(24, .int 1), (23, .int 0), (21, .long (gc i)), (19, .long (gc ((2 + (2 * u1)) + i))), (14, .int 1), (18, .int ((gp ((7 * u1) + tn)) - (gp ((7 * u2) + tn)))), (17, .int (nI tn)), (16, .int (nI u2)), (15, .int (nI u1)), (13, .int (f_stL (nI pa) (nI (kk (4 * pa + vl))) (f_sdL (gc i) (4 * q) fs (4 * q)) (f_sdL (gc i) (4 * q) (fs + 1) (4 * q)) t9)), (12, .int (nI fs)), (11, .int (nI sq)), (10, .int (nI (kk (4 * pa + vl)))), (9, .int (nI vl)), (8, .int (nI pa)), (7, .int (nI (j + 1))), (6, .int (nI (4 * q))), (5, .int (nI i)), (0, .ref oa), (1, .ref ac), (2, .ref am), (3, .ref ap), (4, .int (nI Z))]) hx hb dL_isSame_481 hl (by decide) rfl (fun ls hl => ?_)
            have hl : lv_has ls 25 [(24, .int (nI (0 + 1))), (23, .int (nI (m_unl d (nI u1) (-1) i 0))), (21, .long (gc i)), (19, .long (gc ((2 + (2 * u1)) + i))), (14, .int 1), (18, .int ((gp ((7 * u1) + tn)) - (gp ((7 * u2) + tn)))), (17, .int (nI tn)), (16, .int (nI u2)), (15, .int (nI u1)), (13, .int (f_stL (nI pa) (nI (kk (4 * pa + vl))) (f_sdL (gc i) (4 * q) fs (4 * q)) (f_sdL (gc i) (4 * q) (fs + 1) (4 * q)) t9)), (12, .int (nI fs)), (11, .int (nI sq)), (10, .int (nI (kk (4 * pa + vl)))), (9, .int (nI vl)), (8, .int (nI pa)), (7, .int (nI (j + 1))), (6, .int (nI (4 * q))), (5, .int (nI i)), (0, .ref oa), (1, .ref ac), (2, .ref am), (3, .ref ap), (4, .int (nI Z))] := lv_sub hl [0, 1, 2, 3, 4, 5, 6, 7, 8, 9, 10, 11, 12, 13, 14, 15, 16, 17, 18, 19, 20, 21, 22] rfl
            have hloop_196 : ∀ (n_194 k : Nat) (H : Heap) (locs : List Loc) (ls : Array Slot), k + n_194 = (4 * q) → gS D A s.heap w_118 H locs → lv_has ls 25 [(24, .int (nI (k + 1))), (23, .int (nI (m_unl d (nI u1) (-1) i k))), (21, .long (gc i)), (19, .long (gc ((2 + (2 * u1)) + i))), (14, .int 1), (18, .int ((gp ((7 * u1) + tn)) - (gp ((7 * u2) + tn)))), (17, .int (nI tn)), (16, .int (nI u2)), (15, .int (nI u1)), (13, .int (f_stL (nI pa) (nI (kk (4 * pa + vl))) (f_sdL (gc i) (4 * q) fs (4 * q)) (f_sdL (gc i) (4 * q) (fs + 1) (4 * q)) t9)), (12, .int (nI fs)), (11, .int (nI sq)), (10, .int (nI (kk (4 * pa + vl)))), (9, .int (nI vl)), (8, .int (nI pa)), (7, .int (nI (j + 1))), (6, .int (nI (4 * q))), (5, .int (nI i)), (0, .ref oa), (1, .ref ac), (2, .ref am), (3, .ref ap), (4, .int (nI Z))] → W p l e rm_L_isSame s m args below meth c H locs (((((((((((((((((((((0 + rm_L_density.cells) + rm_L_sounds.cells) + rm_L_sounds.cells) + rm_L_stroke.cells) + rm_X5_depth.cells) + rm_L_depth.cells) + rm_X5_sounds.cells) + rm_L_sounds.cells) + rm_X5_stroke.cells) + rm_X5_strokeAnew.cells) + rm_X5_now.cells) + rm_X5_now.cells) + rm_X5_now.cells) + rm_X5_now.cells) + rm_X5_now.cells) + rm_X5_now.cells) + rm_X5_ticks.cells) + rm_X5_strokes.cells) + rm_X5_beat.cells) + rm_X5_covered.cells) + rm_L_covered.cells) (((((((((((((((((((((0 + rm_L_density.slots) + rm_L_sounds.slots) + rm_L_sounds.slots) + rm_L_stroke.slots) + rm_X5_depth.slots) + rm_L_depth.slots) + rm_X5_sounds.slots) + rm_L_sounds.slots) + rm_X5_stroke.slots) + rm_X5_strokeAnew.slots) + rm_X5_now.slots) + rm_X5_now.slots) + rm_X5_now.slots) + rm_X5_now.slots) + rm_X5_now.slots) + rm_X5_now.slots) + rm_X5_ticks.slots) + rm_X5_strokes.slots) + rm_X5_beat.slots) + rm_X5_covered.slots) + rm_L_covered.slots) Q (F0 m 483 ls []) := by
              intro n_194
              induction n_194 with
              | zero =>
                intro k H locs ls hk_195 hG hl
                have ei9 : k = (4 * q) := by omega
                rw [ei9] at hl
                refine lv_iload hx hb dL_isSame_483 (lv_at hl 0 rfl) ?_
                refine lv_iload hx hb dL_isSame_485 (lv_at hl 16 rfl) ?_
                refine lv_icmp_gt (tgt := 541) hx hb dL_isSame_487 (by decide) (fun c9 => ?_) (fun c9 => (c9 ((nI_ltI (a := (4 * q)) (b := ((4 * q) + 1)) (by omega) (by omega)).mpr (by omega))).elim)
                refine lv_lload hx hb dL_isSame_541 (lv_at hl 3 rfl) ?_
                refine lv_lconst (v := 0) hx hb dL_isSame_543 (by decide) ?_
                refine W.lcmp hx hb dL_isSame_544 ?_
                refine lv_if_lt (tgt := 555) hx hb dL_isSame_545 (by decide) (fun c9 => absurd c9 (rRow_nn hr1).1) (fun c9 => ?_)
                refine lv_lload hx hb dL_isSame_548 (lv_at hl 2 rfl) ?_
                refine lv_lconst (v := 0) hx hb dL_isSame_550 (by decide) ?_
                refine W.lcmp hx hb dL_isSame_551 ?_
                refine lv_if_ge (tgt := 559) hx hb dL_isSame_552 (by decide) (fun c9 => ?_) (fun c9 => (c9 (rRow_nn hr2).2).elim)
                refine lv_iload hx hb dL_isSame_559 (lv_at hl 1 rfl) ?_
                refine lv_istore (lv' := [(23, .int (nI (m_unl d (nI u1) (-1) i (4 * q)))), (24, .int (nI ((4 * q) + 1))), (21, .long (gc i)), (19, .long (gc ((2 + (2 * u1)) + i))), (14, .int 1), (18, .int ((gp ((7 * u1) + tn)) - (gp ((7 * u2) + tn)))), (17, .int (nI tn)), (16, .int (nI u2)), (15, .int (nI u1)), (13, .int (f_stL (nI pa) (nI (kk (4 * pa + vl))) (f_sdL (gc i) (4 * q) fs (4 * q)) (f_sdL (gc i) (4 * q) (fs + 1) (4 * q)) t9)), (12, .int (nI fs)), (11, .int (nI sq)), (10, .int (nI (kk (4 * pa + vl)))), (9, .int (nI vl)), (8, .int (nI pa)), (7, .int (nI (j + 1))), (6, .int (nI (4 * q))), (5, .int (nI i)), (0, .ref oa), (1, .ref ac), (2, .ref am), (3, .ref ap), (4, .int (nI Z))]) hx hb dL_isSame_561 hl (by decide) rfl (fun ls hl => ?_)
                refine lv_iload hx hb dL_isSame_563 (lv_at hl 4 rfl) ?_
                refine lv_if_eq (tgt := 602) hx hb dL_isSame_565 (by decide) (fun c9 => absurd c9 (by decide)) (fun _ => ?_)
                refine lv_aload_n hx hb dL_isSame_568 rfl (lv_at hl 18 rfl) ?_
                refine lv_iload hx hb dL_isSame_569 (lv_at hl 8 rfl) ?_
                refine lv_iload hx hb dL_isSame_571 (lv_at hl 22 rfl) ?_
                refine lv_sipush (v := 400) hx hb dL_isSame_573 (by decide) ?_
                refine lv_idiv hx hb dL_isSame_576 (by decide) ?_
                refine lv_topi (fun k_197 ek_197 => ?_)
                obtain rfl : k_197 = nI (Z / 400) := ek_197.trans (pk_div (a := Z) (d := 400) (by omega) (by omega) (by omega))
                refine lv_iconst (v := 2) hx hb dL_isSame_577 (by decide) ?_
                refine lv_irem hx hb dL_isSame_578 (by decide) ?_
                refine lv_topi (fun k_198 ek_198 => ?_)
                obtain rfl : k_198 = nI ((Z / 400) % 2) := ek_198.trans (pk_rem (a := (Z / 400)) (d := 2) (by omega) (by omega) (by omega))
                refine lv_if_ne (tgt := 586) hx hb dL_isSame_579 (by decide) (fun c9 => (c9 ((nI_eq (a := ((Z / 400) % 2)) (b := 0) (by omega) (by omega)).mpr (by omega))).elim) (fun c9 => ?_)
                refine lv_iconst (v := (-1)) hx hb dL_isSame_582 (by decide) ?_
                refine lv_goto (tgt := 588) hx hb dL_isSame_583 (by decide) ?_
                refine lv_iload hx hb dL_isSame_588 (lv_at hl 17 rfl) ?_
                obtain ⟨fsz_199, z_199⟩ := cO_z hC
                refine g_callV (rest := []) (As := [.int (nI u1), .int (-1), .int (nI i)]) hE hG hl.1 (k_unlike l hfl D tc A w_118 oa d tk st (nI u1) (-1) (nI i) hC hI.1 (go_unlike hI.1 (by omega) (by omega) (Or.inl rfl))) z_199 rfl mw3_156 mw3_157 mw3_158 mw1_1 mw3_159 rfl nm_X5_unlike ⟨⟨Nat.le_of_ble_eq_true rfl, Nat.le_of_ble_eq_true rfl⟩, Nat.le_of_ble_eq_true rfl, Nat.le_of_ble_eq_true rfl⟩ rfl rfl (Nat.le_of_ble_eq_true rfl) dL_isSame_590 (g_no) ?_
                intro v9 w_200 H locs h9 hG
                obtain ⟨e9, hC, g_201⟩ := h9
                rw [e9]; clear e9
                show W p l e _ s m args below meth c H locs _ _ _ (F0 m 593 ls [.int (m_unlike d (nI u1) (-1) (nI i))])
                have h_202 : w_200 1000 = some (ac, .inl (tc 1, 15, .inr (.inl gc))) := (g_201 1000 (by decide)).trans h_120
                have h_203 : w_200 1001 = some (am, .inl (tc 0, 19, .inl gm)) := (g_201 1001 (by decide)).trans h_121
                have h_204 : w_200 1002 = some (ap, .inl (tc 0, 32, .inl gp)) := (g_201 1002 (by decide)).trans h_122
                have hC : cO tc w_200 oa d tk st := hC
                refine lv_iload hx hb dL_isSame_593 (lv_at hl 0 rfl) ?_
                refine lv_icmp_ne (tgt := 602) hx hb dL_isSame_595 (by decide) (fun c9 => (c9 (by unfold m_unlike; rw [kn_u (by omega) (by omega)]; rw [if_neg hk1, if_neg one_nz]; rw [kn_h rfl, if_neg one_nz, nI_clamp (by omega), hlen])).elim) (fun c9 => ?_)
                refine lv_iconst (v := 1) hx hb dL_isSame_598 (by decide) ?_
                refine lv_goto (tgt := 603) hx hb dL_isSame_599 (by decide) ?_
                subst hQ
                exact g_zret hE hG hr (by decide) (Nat.le_of_ble_eq_true rfl) (Nat.le_of_ble_eq_true rfl) dL_isSame_603 ⟨rfl, hC, gK_tr (gK_tr (gK_tr (gK_tr (gK_tr (gK_tr (gK_tr (gK_tr (gK_tr (gK_tr (gK_tr (gK_tr (gK_tr (gK_tr (g_24) g_30) g_36) g_42) g_48) g_54) g_60) g_66) g_72) g_78) g_84) g_90) g_111) g_119) g_201⟩
              | succ n_194 ihn_194 =>
                intro k H locs ls hk_195 hG hl
                refine lv_iload hx hb dL_isSame_483 (lv_at hl 0 rfl) ?_
                refine lv_iload hx hb dL_isSame_485 (lv_at hl 16 rfl) ?_
                refine lv_icmp_gt (tgt := 541) hx hb dL_isSame_487 (by decide) (fun c9 => absurd c9 (fun h9 => absurd ((nI_ltI (a := (4 * q)) (b := (k + 1)) (by omega) (by omega)).mp h9) (by omega))) (fun c9 => ?_)
                refine lv_iload hx hb dL_isSame_490 (lv_at hl 1 rfl) ?_
                refine lv_lload hx hb dL_isSame_492 (lv_at hl 3 rfl) ?_
                refine lv_lconst (v := 0) hx hb dL_isSame_494 (by decide) ?_
                refine W.lcmp hx hb dL_isSame_495 ?_
                refine lv_if_lt (tgt := 506) hx hb dL_isSame_496 (by decide) (fun c9 => absurd c9 (rRow_nn hr1).1) (fun c9 => ?_)
                refine lv_lload hx hb dL_isSame_499 (lv_at hl 2 rfl) ?_
                refine lv_lconst (v := 0) hx hb dL_isSame_501 (by decide) ?_
                refine W.lcmp hx hb dL_isSame_502 ?_
                refine lv_if_ge (tgt := 510) hx hb dL_isSame_503 (by decide) (fun c9 => ?_) (fun c9 => (c9 (rRow_nn hr2).2).elim)
                refine lv_lload hx hb dL_isSame_510 (lv_at hl 3 rfl) ?_
                refine lv_iload hx hb dL_isSame_512 (lv_at hl 0 rfl) ?_
                refine g_callS (rest := [.int (nI (m_unl d (nI u1) (-1) i k))]) (As := [.long (gc ((2 + (2 * u1)) + i)), .int (nI (k + 1))]) hE hG hl.1 (c_L_at l hfl D tc A w_118 (gc ((2 + (2 * u1)) + i)) (nI (k + 1)) ) mw3_5 mw3_6 mw1_0 mw3_7 nm_L_at ⟨⟨Nat.le_of_ble_eq_true rfl, Nat.le_of_ble_eq_true rfl⟩, Nat.le_of_ble_eq_true rfl, Nat.le_of_ble_eq_true rfl⟩ rfl rfl (Nat.le_of_ble_eq_true rfl) dL_isSame_514 (g_no) ?_
                intro v9 w9 H locs h9 hG
                obtain ⟨e9, f9⟩ := h9
                rw [f9] at hG; rw [e9]; clear e9 f9
                show W p l e _ s m args below meth c H locs _ _ _ (F0 m 517 ls [.int (f_atL (gc ((2 + (2 * u1)) + i)) (nI (k + 1))), .int (nI (m_unl d (nI u1) (-1) i k))])
                refine lv_lload hx hb dL_isSame_517 (lv_at hl 2 rfl) ?_
                refine lv_iload hx hb dL_isSame_519 (lv_at hl 0 rfl) ?_
                refine g_callS (rest := [.int (f_atL (gc ((2 + (2 * u1)) + i)) (nI (k + 1))), .int (nI (m_unl d (nI u1) (-1) i k))]) (As := [.long (gc i), .int (nI (k + 1))]) hE hG hl.1 (c_L_at l hfl D tc A w_118 (gc i) (nI (k + 1)) ) mw3_5 mw3_6 mw1_0 mw3_7 nm_L_at ⟨⟨Nat.le_of_ble_eq_true rfl, Nat.le_of_ble_eq_true rfl⟩, Nat.le_of_ble_eq_true rfl, Nat.le_of_ble_eq_true rfl⟩ rfl rfl (Nat.le_of_ble_eq_true rfl) dL_isSame_521 (g_no) ?_
                intro v9 w9 H locs h9 hG
                obtain ⟨e9, f9⟩ := h9
                rw [f9] at hG; rw [e9]; clear e9 f9
                show W p l e _ s m args below meth c H locs _ _ _ (F0 m 524 ls [.int (f_atL (gc i) (nI (k + 1))), .int (f_atL (gc ((2 + (2 * u1)) + i)) (nI (k + 1))), .int (nI (m_unl d (nI u1) (-1) i k))])
                have j_206 : ∀ (v_205 : Int32) (H : Heap) (locs : List Loc), v_205 = (if (f_atL (gc ((2 + (2 * u1)) + i)) (nI (k + 1))) = (f_atL (gc i) (nI (k + 1))) then 0 else 1 : Int32) → gS D A s.heap w_118 H locs → W p l e rm_L_isSame s m args below meth c H locs (((((((((((((((((((((((0 + rm_L_density.cells) + rm_L_sounds.cells) + rm_L_sounds.cells) + rm_L_stroke.cells) + rm_X5_depth.cells) + rm_L_depth.cells) + rm_X5_sounds.cells) + rm_L_sounds.cells) + rm_X5_stroke.cells) + rm_X5_strokeAnew.cells) + rm_X5_now.cells) + rm_X5_now.cells) + rm_X5_now.cells) + rm_X5_now.cells) + rm_X5_now.cells) + rm_X5_now.cells) + rm_X5_ticks.cells) + rm_X5_strokes.cells) + rm_X5_beat.cells) + rm_X5_covered.cells) + rm_L_covered.cells) + rm_L_at.cells) + rm_L_at.cells) (((((((((((((((((((((((0 + rm_L_density.slots) + rm_L_sounds.slots) + rm_L_sounds.slots) + rm_L_stroke.slots) + rm_X5_depth.slots) + rm_L_depth.slots) + rm_X5_sounds.slots) + rm_L_sounds.slots) + rm_X5_stroke.slots) + rm_X5_strokeAnew.slots) + rm_X5_now.slots) + rm_X5_now.slots) + rm_X5_now.slots) + rm_X5_now.slots) + rm_X5_now.slots) + rm_X5_now.slots) + rm_X5_ticks.slots) + rm_X5_strokes.slots) + rm_X5_beat.slots) + rm_X5_covered.slots) + rm_L_covered.slots) + rm_L_at.slots) + rm_L_at.slots) Q (F0 m 532 ls (.int v_205 :: [.int (nI (m_unl d (nI u1) (-1) i k))])) := by
                  intro v_205 H locs ev_205 hG
                  refine lv_iadd hx hb dL_isSame_532 ?_
                  refine lv_istore (lv' := [(23, .int ((nI (m_unl d (nI u1) (-1) i k)) + v_205)), (24, .int (nI (k + 1))), (21, .long (gc i)), (19, .long (gc ((2 + (2 * u1)) + i))), (14, .int 1), (18, .int ((gp ((7 * u1) + tn)) - (gp ((7 * u2) + tn)))), (17, .int (nI tn)), (16, .int (nI u2)), (15, .int (nI u1)), (13, .int (f_stL (nI pa) (nI (kk (4 * pa + vl))) (f_sdL (gc i) (4 * q) fs (4 * q)) (f_sdL (gc i) (4 * q) (fs + 1) (4 * q)) t9)), (12, .int (nI fs)), (11, .int (nI sq)), (10, .int (nI (kk (4 * pa + vl)))), (9, .int (nI vl)), (8, .int (nI pa)), (7, .int (nI (j + 1))), (6, .int (nI (4 * q))), (5, .int (nI i)), (0, .ref oa), (1, .ref ac), (2, .ref am), (3, .ref ap), (4, .int (nI Z))]) hx hb dL_isSame_533 hl (by decide) rfl (fun ls hl => ?_)
                  refine lv_iinc (v := (nI ((k + 1) + 1))) (lv' := [(24, .int (nI ((k + 1) + 1))), (23, .int ((nI (m_unl d (nI u1) (-1) i k)) + v_205)), (21, .long (gc i)), (19, .long (gc ((2 + (2 * u1)) + i))), (14, .int 1), (18, .int ((gp ((7 * u1) + tn)) - (gp ((7 * u2) + tn)))), (17, .int (nI tn)), (16, .int (nI u2)), (15, .int (nI u1)), (13, .int (f_stL (nI pa) (nI (kk (4 * pa + vl))) (f_sdL (gc i) (4 * q) fs (4 * q)) (f_sdL (gc i) (4 * q) (fs + 1) (4 * q)) t9)), (12, .int (nI fs)), (11, .int (nI sq)), (10, .int (nI (kk (4 * pa + vl)))), (9, .int (nI vl)), (8, .int (nI pa)), (7, .int (nI (j + 1))), (6, .int (nI (4 * q))), (5, .int (nI i)), (0, .ref oa), (1, .ref ac), (2, .ref am), (3, .ref ap), (4, .int (nI Z))]) hx hb dL_isSame_535 hl (k := 1) rfl (by rw [show k + 1 + 1 = (k + 1) + 1 by omega]; exact (nI_1 _)) (by decide) rfl (fun ls hl => ?_)
                  refine lv_goto (tgt := 483) hx hb dL_isSame_538 (by decide) ?_
                  have hl : lv_has ls 25 [(24, .int (nI ((k + 1) + 1))), (23, .int (nI (m_unl d (nI u1) (-1) i (k + 1)))), (21, .long (gc i)), (19, .long (gc ((2 + (2 * u1)) + i))), (14, .int 1), (18, .int ((gp ((7 * u1) + tn)) - (gp ((7 * u2) + tn)))), (17, .int (nI tn)), (16, .int (nI u2)), (15, .int (nI u1)), (13, .int (f_stL (nI pa) (nI (kk (4 * pa + vl))) (f_sdL (gc i) (4 * q) fs (4 * q)) (f_sdL (gc i) (4 * q) (fs + 1) (4 * q)) t9)), (12, .int (nI fs)), (11, .int (nI sq)), (10, .int (nI (kk (4 * pa + vl)))), (9, .int (nI vl)), (8, .int (nI pa)), (7, .int (nI (j + 1))), (6, .int (nI (4 * q))), (5, .int (nI i)), (0, .ref oa), (1, .ref ac), (2, .ref am), (3, .ref ap), (4, .int (nI Z))] := by rw [m_unl_s (ev_205.trans (by rw [tof_r hr1 (by omega) (by omega) (by omega), tof_a hr2 (by omega) (by omega)]))] at hl; exact hl
                  exact ihn_194 (k + 1) _ _ _ (by omega) hG (lv_sub hl [0, 1, 2, 3, 4, 5, 6, 7, 8, 9, 10, 11, 12, 13, 14, 15, 16, 17, 18, 19, 20, 21, 22] rfl)
                refine lv_icmp_eq (tgt := 531) hx hb dL_isSame_524 (by decide) (fun c_207 => ?_) (fun c_207 => ?_)
                · skip
                  refine lv_iconst (v := 0) hx hb dL_isSame_531 (by decide) ?_
                  exact j_206 _ _ _ (by rw [if_pos c_207]) hG
                · skip
                  refine lv_iconst (v := 1) hx hb dL_isSame_527 (by decide) ?_
                  refine lv_goto (tgt := 532) hx hb dL_isSame_528 (by decide) ?_
                  exact j_206 _ _ _ (by rw [if_neg c_207]) hG
            exact hloop_196 (4 * q) 0 _ _ _ (by omega) hG (lv_sub hl [0, 1, 2, 3, 4, 5, 6, 7, 8, 9, 10, 11, 12, 13, 14, 15, 16, 17, 18, 19, 20, 21, 22] rfl)
      refine lv_if_ge (tgt := 405) hx hb dL_isSame_396 (by decide) (fun c_208 => ?_) (fun c_208 => ?_)
      · skip
        refine lv_iload hx hb dL_isSame_405 (lv_at hl 0 rfl) ?_
        exact j_116 _ _ _ (by rw [if_pos c_208]) hG
      · skip
        refine lv_iload hx hb dL_isSame_399 (lv_at hl 0 rfl) ?_
        refine lv_ineg hx hb dL_isSame_401 ?_
        refine lv_goto (tgt := 407) hx hb dL_isSame_402 (by decide) ?_
        exact j_116 _ _ _ (by rw [if_neg c_208]) hG
    refine lv_icmp_ne (tgt := 97) hx hb dL_isSame_89 (by decide) (fun c_209 => ?_) (fun c_209 => ?_)
    · skip
      refine lv_iload hx hb dL_isSame_97 (lv_at hl 2 rfl) ?_
      refine lv_iload hx hb dL_isSame_99 (lv_at hl 1 rfl) ?_
      refine lv_iadd hx hb dL_isSame_101 ?_
      refine lv_topi (fun k_210 ek_210 => ?_)
      obtain rfl : k_210 = nI ((kk (4 * pa + vl)) + sq) := ek_210.trans (nI_add (kk (4 * pa + vl)) sq)
      exact j_20 _ _ _ (by rw [if_neg c_209]) hG
    · skip
      refine lv_iload hx hb dL_isSame_92 (lv_at hl 1 rfl) ?_
      refine lv_goto (tgt := 102) hx hb dL_isSame_94 (by decide) ?_
      exact j_20 _ _ _ (by rw [if_pos c_209]) hG
  refine lv_icmp_ne (tgt := 75) hx hb dL_isSame_67 (by decide) (fun c_211 => ?_) (fun c_211 => ?_)
  · skip
    refine lv_iload hx hb dL_isSame_75 (lv_at hl 4 rfl) ?_
    refine lv_iconst (v := 1) hx hb dL_isSame_77 (by decide) ?_
    refine lv_isub hx hb dL_isSame_78 ?_
    refine lv_topi (fun k_212 ek_212 => ?_)
    obtain rfl : k_212 = nI ((j + 1) - 1) := ek_212.trans (pk_sub (a := (j + 1)) (b := 1) (by omega))
    exact j_18 _ _ _ (by rw [if_neg c_211]) hG
  · skip
    refine lv_iload hx hb dL_isSame_70 (lv_at hl 4 rfl) ?_
    refine lv_goto (tgt := 79) hx hb dL_isSame_72 (by decide) ?_
    exact j_18 _ _ _ (by rw [if_pos c_211]) hG
