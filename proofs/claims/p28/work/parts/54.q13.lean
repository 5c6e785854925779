/-! isBegun -/
theorem bS_up {d : gDt} {gc : Nat → Int64} {gm : Nat → Int32} {k B B' : Nat} (h : bS d gc gm k B) (hB : B ≤ B') : bS d gc gm k B' := ⟨h.1, h.2.1, ⟨h.2.2.1, h.2.2.2.1, h.2.2.2.2.1, h.2.2.2.2.2.1, h.2.2.2.2.2.2.1, jP_le h.2.2.2.2.2.2.2 hB⟩⟩
theorem bP_up {d : gDt} {gc : Nat → Int64} {gm : Nat → Int32} {k B B' : Nat} (h : bP d gc gm k B) (hB : B ≤ B') : bP d gc gm k B' := ⟨h.1, h.2.1, h.2.2.1, ⟨h.2.2.2.1, h.2.2.2.2.1, h.2.2.2.2.2.1, h.2.2.2.2.2.2.1, h.2.2.2.2.2.2.2.1, jP_le h.2.2.2.2.2.2.2.2 hB⟩⟩
theorem iOk_u2 {d : gDt} {B B' : Nat} (h : iOk d B) (hB : B ≤ B') : iOk d B' := ⟨h.1, h.2.1, h.2.2.1, h.2.2.2.1, h.2.2.2.2.1, jP_le h.2.2.2.2.2 hB⟩
theorem form_n {d d1 : gDt} {gc : Nat → Int64} {gm : Nat → Int32} {k B : Nat} {x : Int32} (h : bS d gc gm k B) (hk : k < 2) (e1 : d1 = sL (gD (gD d 0 (upd (d 0) (d 9 0).toNatClampNeg x)) 9 (upd (d 9) 0 (d 9 0 + 1))) 0) : nF d1 = k + 1 ∧ nP d1 = k ∧ d 9 0 + 1 - 1 = nI k ∧ d1 9 1 + 1 - 1 = nI k := by
  obtain ⟨⟨⟨n1, n2, n3⟩, -⟩, -, hI⟩ := h
  have a0 : d 9 0 = nI k := by rw [hI.1.2.1.1, n1]
  have a1 : d 9 1 = nI k := by rw [hI.1.2.1.2.1, n2]
  refine ⟨?_, by rw [e1]; exact n2, by rw [a0, nI_1, nI_pred], by rw [e1]; show d 9 1 + 1 - 1 = _; rw [a1, nI_1, nI_pred]⟩
  unfold nF
  rw [e1]
  show (d 9 0 + 1).toNatClampNeg = _
  rw [a0, nI_1, nI_clamp (by omega)]
theorem pl_n {d : gDt} {gc : Nat → Int64} {gm : Nat → Int32} {u B : Nat} (h : bP d gc gm u B) : d 9 13 + 1 - 1 = nI u := by
  rw [h.2.2.2.1.2.1.2.2, h.1.1.2.2, nI_1, nI_pred]
theorem le8 {x : Nat} (h : x ≤ 8) : nI x - 8 ≤ 0 := by
  rw [Int32.le_iff_toInt_le, show (8 : Int32) = nI 8 from rfl, pk_sub_toInt (by omega) (by decide)]
  have e : (0 : Int32).toInt = 0 := by decide
  omega
abbrev rm_L_isBegun : Room := { frames := 11, cells := 3000, slots := 30000, locals := 410 }
theorem nm_L_isBegun : gNm yL_isBegun 5 := ⟨by decide +kernel, by decide +kernel, by decide +kernel⟩
set_option maxHeartbeats 4000000 in
set_option maxRecDepth 100000 in
theorem c_L_isBegun (l : Launch) (hfl : l.stackTraces = false) (D : va_G) (tc : Nat → ClassId) (A : Nat → Prop) (w : gW) (b L : Nat) (xs : Nat → Int32) (oa ac am ap : Nat) (hL : L ≤ 260) (hC : cO tc w oa d_0 0 (fun _ => 0)) (h1 : w 1000 = some (ac, .inl (tc 1, 15, .inr (.inl (fun _ => 0))))) (h2 : w 1001 = some (am, .inl (tc 0, 19, .inl (fun _ => 0)))) (h3 : w 1002 = some (ap, .inl (tc 0, 32, .inl (fun _ => 0)))) : gMs l yL_isBegun cL_isBegun 9 (some .boolean) rm_L_isBegun D tc A b L xs [.ref oa, .ref b, .ref ac, .ref am, .ref ap] w (fun v w' => v = some (.int 1) ∧ hO tc oa ac am ap 6000 w') := by
  refine gMs_of (by decide +kernel) (Nat.le_of_ble_eq_true rfl) ?_
  intro p e s m args below meth c ls Q hQ hE hX hbl hbA hG hr hnt hl
  have hx := hE.1
  have hb := hE.2.1
  have hl : lv_has ls 9 [(0, .ref oa), (1, .ref b), (2, .ref ac), (3, .ref am), (4, .ref ap)] := hl
  have hC : cO tc w oa (sL d_0 0) 0 (fun _ => 0) := hC
  have hI : iOk (sL d_0 0) 0 := I_0
  refine lv_aload_n hx hb dL_isBegun_0 rfl (lv_at hl 0 rfl) ?_
  refine lv_iconst (v := 1) hx hb dL_isBegun_1 (by decide) ?_
  obtain ⟨fsz_1, z_1⟩ := cO_z hC
  refine g_callV (rest := []) (As := [.int 1]) hE hG hl.1 (k_now l hfl D tc A w oa (sL d_0 0) 0 (fun _ => 0) 1 hC hI.1 (go_now (d := sL d_0 0) 1 (by decide))) z_1 rfl mw1_138 mw1_139 mw1_140 mw1_1 mw1_141 rfl nm_X5_now ⟨⟨Nat.le_of_ble_eq_true rfl, Nat.le_of_ble_eq_true rfl⟩, (by show 0 + 8 ≤ 3000; omega), (by show 0 + 48 ≤ 30000; omega)⟩ rfl rfl (Nat.le_of_ble_eq_true rfl) dL_isBegun_2 (g_no) ?_
  intro v9 w_2 H locs h9 hG
  obtain ⟨e9, hC, g_3⟩ := h9
  rw [e9]; clear e9
  show W p l e _ s m args below meth c H locs _ _ _ (F0 m 5 ls [.int (m_now (sL d_0 0) 1)])
  have h_4 : w_2 1000 = some (ac, .inl (tc 1, 15, .inr (.inl (fun _ => 0)))) := (g_3 1000 (by decide)).trans h1
  have h_5 : w_2 1001 = some (am, .inl (tc 0, 19, .inl (fun _ => 0))) := (g_3 1001 (by decide)).trans h2
  have h_6 : w_2 1002 = some (ap, .inl (tc 0, 32, .inl (fun _ => 0))) := (g_3 1002 (by decide)).trans h3
  have hC : cO tc w_2 oa (sL d_0 0) 0 (fun _ => 0) := hC
  refine lv_if_ne (tgt := 21) hx hb dL_isBegun_5 (by decide) (fun c9 => (c9 (by decide +kernel)).elim) (fun c9 => ?_)
  refine lv_aload_n hx hb dL_isBegun_8 rfl (lv_at hl 0 rfl) ?_
  refine lv_iconst (v := 5) hx hb dL_isBegun_9 (by decide) ?_
  obtain ⟨fsz_7, z_7⟩ := cO_z hC
  refine g_callV (rest := []) (As := [.int 5]) hE hG hl.1 (k_now l hfl D tc A w_2 oa (sL d_0 0) 0 (fun _ => 0) 5 hC hI.1 (go_now (d := sL d_0 0) 5 (by decide))) z_7 rfl mw1_138 mw1_139 mw1_140 mw1_1 mw1_141 rfl nm_X5_now ⟨⟨Nat.le_of_ble_eq_true rfl, Nat.le_of_ble_eq_true rfl⟩, (by show (0 + 8) + 8 ≤ 3000; omega), (by show (0 + 48) + 48 ≤ 30000; omega)⟩ rfl rfl (Nat.le_of_ble_eq_true rfl) dL_isBegun_10 (g_no) ?_
  intro v9 w_8 H locs h9 hG
  obtain ⟨e9, hC, g_9⟩ := h9
  rw [e9]; clear e9
  show W p l e _ s m args below meth c H locs _ _ _ (F0 m 13 ls [.int (m_now (sL d_0 0) 5)])
  have h_10 : w_8 1000 = some (ac, .inl (tc 1, 15, .inr (.inl (fun _ => 0)))) := (g_9 1000 (by decide)).trans h_4
  have h_11 : w_8 1001 = some (am, .inl (tc 0, 19, .inl (fun _ => 0))) := (g_9 1001 (by decide)).trans h_5
  have h_12 : w_8 1002 = some (ap, .inl (tc 0, 32, .inl (fun _ => 0))) := (g_9 1002 (by decide)).trans h_6
  have hC : cO tc w_8 oa (sL d_0 0) 0 (fun _ => 0) := hC
  refine lv_iconst (v := (-1)) hx hb dL_isBegun_13 (by decide) ?_
  refine lv_icmp_ne (tgt := 21) hx hb dL_isBegun_14 (by decide) (fun c9 => (c9 (by decide +kernel)).elim) (fun c9 => ?_)
  refine lv_iconst (v := 1) hx hb dL_isBegun_17 (by decide) ?_
  refine lv_goto (tgt := 22) hx hb dL_isBegun_18 (by decide) ?_
  refine lv_istore (lv' := [(5, .int 1), (0, .ref oa), (1, .ref b), (2, .ref ac), (3, .ref am), (4, .ref ap)]) hx hb dL_isBegun_22 hl (by decide) rfl (fun ls hl => ?_)
  refine lv_aload_n hx hb dL_isBegun_24 rfl (lv_at hl 4 rfl) ?_
  refine lv_iconst (v := 5) hx hb dL_isBegun_25 (by decide) ?_
  refine lv_iconst (v := (-1)) hx hb dL_isBegun_26 (by decide) ?_
  refine g_iastN hE hG h_11 5 rfl (by decide) (by decide) dL_isBegun_27 (fun H locs w_13 ew_13 hG => ?_)
  have h_14 : w_13 1000 = some (ac, .inl (tc 1, 15, .inr (.inl (fun _ => 0)))) := gU_n ew_13 (by decide) h_10
  have h_15 : w_13 1002 = some (ap, .inl (tc 0, 32, .inl (fun _ => 0))) := gU_n ew_13 (by decide) h_12
  have h_16 : w_13 1001 = some (am, .inl (tc 0, 19, .inl (upd (fun _ => 0) 5 (-1)))) := gU_s ew_13
  refine lv_iconst (v := 0) hx hb dL_isBegun_28 (by decide) ?_
  refine lv_istore (lv' := [(6, .int 0), (5, .int 1), (0, .ref oa), (1, .ref b), (2, .ref ac), (3, .ref am), (4, .ref ap)]) hx hb dL_isBegun_29 hl (by decide) rfl (fun ls hl => ?_)
  refine W.widen (k := 100 + 400 * 0) (n := 1000 + 3000 * 0) (by show ((0 + 8) + 8) ≤ _; omega) (by show ((0 + 48) + 48) ≤ _; omega) ?_
  have hout : ∀ (kv k : Nat) (d : gDt) (gc : Nat → Int64) (gm : Nat → Int32) (w2 : gW) (H : Heap) (locs : List Loc) (ls : Array Slot), k + kv = 2 → bS d gc gm k (2000 * k) → cO tc w2 oa d 0 (fun _ => 0) → w2 1000 = some (ac, .inl (tc 1, 15, .inr (.inl gc))) → w2 1001 = some (am, .inl (tc 0, 19, .inl gm)) → w2 1002 = some (ap, .inl (tc 0, 32, .inl (fun _ => 0))) → gS D A s.heap w2 H locs → lv_has ls 9 [(6, .int (nI k)), (5, .int 1), (0, .ref oa), (1, .ref b), (2, .ref ac), (3, .ref am), (4, .ref ap)] → W p l e rm_L_isBegun s m args below meth c H locs (100 + 400 * k) (1000 + 3000 * k) Q (F0 m 31 ls []) := by
    intro kv
    induction kv with
    | zero =>
      intro k d gc gm w2 H locs ls hk hb9 hC h1 h2 h3 hG hl
      have hI := hb9.2.2
      obtain rfl : k = 2 := by omega
      refine lv_iload hx hb dL_isBegun_31 (lv_at hl 0 rfl) ?_
      refine lv_iconst (v := 2) hx hb dL_isBegun_33 (by decide) ?_
      refine lv_icmp_ge (tgt := 193) hx hb dL_isBegun_34 (by decide) (fun c9 => ?_) (fun c9 => (c9 ((nI_leI (a := 2) (b := 2) (by omega) (by omega)).mpr (by omega))).elim)
      refine lv_iconst (v := 0) hx hb dL_isBegun_193 (by decide) ?_
      refine lv_istore (lv' := [(6, .int 0), (5, .int 1), (0, .ref oa), (1, .ref b), (2, .ref ac), (3, .ref am), (4, .ref ap)]) hx hb dL_isBegun_194 hl (by decide) rfl (fun ls hl => ?_)
      refine W.widen (k := 1000 + 20 * 0) (n := 8000 + 100 * 0) (by show (100 + 400 * 2) ≤ _; omega) (by show (1000 + 3000 * 2) ≤ _; omega) ?_
      have hpl : ∀ (kv u : Nat) (d : gDt) (gc : Nat → Int64) (gm : Nat → Int32) (w2 : gW) (H : Heap) (locs : List Loc) (ls : Array Slot), u + kv = 4 → bP d gc gm u (4000 + 100 * u) → cO tc w2 oa d 0 (fun _ => 0) → w2 1000 = some (ac, .inl (tc 1, 15, .inr (.inl gc))) → w2 1001 = some (am, .inl (tc 0, 19, .inl gm)) → w2 1002 = some (ap, .inl (tc 0, 32, .inl (fun _ => 0))) → gS D A s.heap w2 H locs → lv_has ls 9 [(6, .int (nI u)), (5, .int 1), (0, .ref oa), (1, .ref b), (2, .ref ac), (3, .ref am), (4, .ref ap)] → W p l e rm_L_isBegun s m args below meth c H locs (1000 + 20 * u) (8000 + 100 * u) Q (F0 m 196 ls []) := by
        intro kv
        induction kv with
        | zero =>
          intro u d gc gm w2 H locs ls hu hb9 hC h1 h2 h3 hG hl
          have hI := hb9.2.2.2
          obtain rfl : u = 4 := by omega
          refine lv_iload hx hb dL_isBegun_196 (lv_at hl 0 rfl) ?_
          refine lv_iconst (v := 4) hx hb dL_isBegun_198 (by decide) ?_
          refine lv_icmp_ge (tgt := 277) hx hb dL_isBegun_199 (by decide) (fun c9 => ?_) (fun c9 => (c9 ((nI_leI (a := 4) (b := 4) (by omega) (by omega)).mpr (by omega))).elim)
          refine lv_iconst (v := 0) hx hb dL_isBegun_277 (by decide) ?_
          refine lv_istore (lv' := [(6, .int 0), (5, .int 1), (0, .ref oa), (1, .ref b), (2, .ref ac), (3, .ref am), (4, .ref ap)]) hx hb dL_isBegun_278 hl (by decide) rfl (fun ls hl => ?_)
          have hlp_17 : ∀ (kv k : Nat) (gx : Nat → Int32) (wx : gW) (H : Heap) (locs : List Loc) (ls : Array Slot), k + kv = 28 → gx = f_cp k (fun _ => 0) (fun _ => 44000) → wx 1002 = some (ap, .inl (tc 0, 32, .inl gx)) → (∀ q9, q9 ≠ 1002 → wx q9 = w2 q9) → gS D A s.heap wx H locs → lv_has ls 9 [(6, .int (nI k)), (5, .int 1), (0, .ref oa), (1, .ref b), (2, .ref ac), (3, .ref am), (4, .ref ap)] → W p l e rm_L_isBegun s m args below meth c H locs (1000 + 20 * 4) (8000 + 100 * 4) Q (F0 m 280 ls []) := by
            intro kv
            induction kv with
            | zero =>
              intro k gx wx H locs ls hk hgx hw2 hfr hG hl
              have h_18 : wx 1000 = some (ac, .inl (tc 1, 15, .inr (.inl gc))) := (hfr 1000 (by decide)).trans h1
              have h_19 : wx 1001 = some (am, .inl (tc 0, 19, .inl gm)) := (hfr 1001 (by decide)).trans h2
              have ek9 : k = 28 := by omega
              rw [ek9] at hl hgx
              have hC : cO tc wx oa d 0 (fun _ => 0) := cO_g hC hI.1 (fun q9 hq9 => hfr q9 (by omega))
              refine lv_iload hx hb dL_isBegun_280 (lv_at hl 0 rfl) ?_
              refine lv_bipush (v := 28) hx hb dL_isBegun_282 (by decide) ?_
              refine lv_icmp_ge (tgt := 300) hx hb dL_isBegun_284 (by decide) (fun c9 => ?_) (fun c9 => (c9 ((nI_leI (a := 28) (b := 28) (by omega) (by omega)).mpr (by omega))).elim)
              refine lv_iload hx hb dL_isBegun_300 (lv_at hl 1 rfl) ?_
              subst hQ
              exact g_zret hE hG hr (by decide) (by show (1000 + 20 * 4) ≤ 3000; omega) (by show (8000 + 100 * 4) ≤ 30000; omega) dL_isBegun_302 ⟨rfl, d, 0, _, gc, gm, _, hC, h_18, h_19, hw2, iOk_u2 hI (by omega), hgx ▸ bP_rl hb9⟩
            | succ kv ih =>
              intro k gx wx H locs ls hk hgx hw2 hfr hG hl
              have h_20 : wx 1000 = some (ac, .inl (tc 1, 15, .inr (.inl gc))) := (hfr 1000 (by decide)).trans h1
              have h_21 : wx 1001 = some (am, .inl (tc 0, 19, .inl gm)) := (hfr 1001 (by decide)).trans h2
              refine lv_iload hx hb dL_isBegun_280 (lv_at hl 0 rfl) ?_
              refine lv_bipush (v := 28) hx hb dL_isBegun_282 (by decide) ?_
              refine lv_icmp_ge (tgt := 300) hx hb dL_isBegun_284 (by decide) (fun c9 => absurd c9 (fun h9 => absurd ((nI_leI (a := 28) (b := k) (by omega) (by omega)).mp h9) (by omega))) (fun c9 => ?_)
              refine lv_aload hx hb dL_isBegun_287 (lv_at hl 6 rfl) ?_
              refine lv_iload hx hb dL_isBegun_289 (lv_at hl 0 rfl) ?_
              refine lv_ldc (v := 44000) hx hb hE.2.2.2.1 (hE.2.2.2.2.1 _ mw2_104) dL_isBegun_291 ?_
              refine g_iastN hE hG hw2 k rfl (by omega) (by decide) dL_isBegun_293 (fun H locs w_22 ew_22 hG => ?_)
              have h_23 : w_22 1000 = some (ac, .inl (tc 1, 15, .inr (.inl gc))) := gU_n ew_22 (by decide) h_20
              have h_24 : w_22 1001 = some (am, .inl (tc 0, 19, .inl gm)) := gU_n ew_22 (by decide) h_21
              have h_25 : w_22 1002 = some (ap, .inl (tc 0, 32, .inl (upd gx k 44000))) := gU_s ew_22
              refine lv_iinc (v := (nI (k + 1))) (lv' := [(6, .int (nI (k + 1))), (5, .int 1), (0, .ref oa), (1, .ref b), (2, .ref ac), (3, .ref am), (4, .ref ap)]) hx hb dL_isBegun_294 hl (k := 0) rfl (nI_1 _) (by decide) rfl (fun ls hl => ?_)
              refine lv_goto (tgt := 280) hx hb dL_isBegun_297 (by decide) ?_
              exact ih (k + 1) _ _ _ _ _ (by omega) (by rw [hgx]; first | done | exact f_cp_s k (fun _ => 0) (fun _ => 44000)) h_25 (fun q9 hq9 => by rw [ew_22, gU_ne _ _ hq9]; exact hfr q9 hq9) hG (lv_sub hl [0, 1, 2, 3, 4, 5, 6] rfl)
          exact hlp_17 28 0 _ _ _ _ _ (by omega) (f_cp_0 _ _).symm h3 (fun _ _ => rfl) hG (lv_sub hl [0, 1, 2, 3, 4, 5, 6] rfl)
        | succ kv ih =>
          intro u d gc gm w2 H locs ls hu hb9 hC h1 h2 h3 hG hl
          have hI := hb9.2.2.2
          have hu4 : u < 4 := by omega
          refine lv_iload hx hb dL_isBegun_196 (lv_at hl 0 rfl) ?_
          refine lv_iconst (v := 4) hx hb dL_isBegun_198 (by decide) ?_
          refine lv_icmp_ge (tgt := 277) hx hb dL_isBegun_199 (by decide) (fun c9 => absurd c9 (fun h9 => absurd ((nI_leI (a := 4) (b := u) (by omega) (by omega)).mp h9) (by omega))) (fun c9 => ?_)
          refine lv_iload hx hb dL_isBegun_202 (lv_at hl 1 rfl) ?_
          refine lv_if_eq (tgt := 277) hx hb dL_isBegun_204 (by decide) (fun c9 => absurd c9 (by decide)) (fun _ => ?_)
          refine lv_aload_n hx hb dL_isBegun_207 rfl (lv_at hl 5 rfl) ?_
          refine lv_bipush (v := 15) hx hb dL_isBegun_208 (by decide) ?_
          refine lv_iload hx hb dL_isBegun_210 (lv_at hl 0 rfl) ?_
          refine lv_iadd hx hb dL_isBegun_212 ?_
          refine lv_topi (fun k_26 ek_26 => ?_)
          obtain rfl : k_26 = nI (15 + u) := ek_26.trans (nI_add 15 u)
          refine lv_aload_n hx hb dL_isBegun_213 rfl (lv_at hl 3 rfl) ?_
          refine lv_sipush (v := 350) hx hb dL_isBegun_214 (by decide) ?_
          refine lv_iload hx hb dL_isBegun_217 (lv_at hl 0 rfl) ?_
          refine lv_iadd hx hb dL_isBegun_219 ?_
          refine lv_topi (fun k_27 ek_27 => ?_)
          obtain rfl : k_27 = nI (350 + u) := ek_27.trans (nI_add 350 u)
          refine lv_bipush (v := 16) hx hb dL_isBegun_220 (by decide) ?_
          refine g_callSs hX hbl hbA (rest := [.int (nI (15 + u)), .ref am]) (As := [.ref b, .int (nI (350 + u)), .int 16]) hE hG hl.1 (c_L_from l D tc A w2 b L xs (350 + u) 16 hL (by omega) (by decide) (by decide)) mw1_210 mw1_211 mw1_0 mw1_212 nm_L_from ⟨⟨Nat.le_of_ble_eq_true rfl, Nat.le_of_ble_eq_true rfl⟩, (by show (1000 + 20 * u) + 0 ≤ 3000; omega), (by show (8000 + 100 * u) + 0 ≤ 30000; omega)⟩ rfl rfl (Nat.le_of_ble_eq_true rfl) dL_isBegun_222 ?_
          intro v9 w9 H locs h9 hG
          obtain ⟨f9, pa, hpa, e9⟩ := h9
          rw [f9] at hG; rw [e9]; clear e9 f9
          show W p l e _ s m args below meth c H locs _ _ _ (F0 m 225 ls [.int (nI pa), .int (nI (15 + u)), .ref am])
          refine g_iastN hE hG h2 (15 + u) rfl (by omega) (by decide) dL_isBegun_225 (fun H locs w_28 ew_28 hG => ?_)
          have h_29 : w_28 1000 = some (ac, .inl (tc 1, 15, .inr (.inl gc))) := gU_n ew_28 (by decide) h1
          have h_30 : w_28 1002 = some (ap, .inl (tc 0, 32, .inl (fun _ => 0))) := gU_n ew_28 (by decide) h3
          have h_31 : w_28 1001 = some (am, .inl (tc 0, 19, .inl (upd gm (15 + u) (nI pa)))) := gU_s ew_28
          refine lv_aload_n hx hb dL_isBegun_226 rfl (lv_at hl 4 rfl) ?_
          refine lv_iconst (v := 2) hx hb dL_isBegun_227 (by decide) ?_
          refine lv_iconst (v := 2) hx hb dL_isBegun_228 (by decide) ?_
          refine lv_iload hx hb dL_isBegun_229 (lv_at hl 0 rfl) ?_
          refine lv_imul hx hb dL_isBegun_231 ?_
          refine lv_topi (fun k_32 ek_32 => ?_)
          obtain rfl : k_32 = nI (2 * u) := ek_32.trans (pk_mul 2 u)
          refine lv_iadd hx hb dL_isBegun_232 ?_
          refine lv_topi (fun k_33 ek_33 => ?_)
          obtain rfl : k_33 = nI (2 + (2 * u)) := ek_33.trans (nI_add 2 (2 * u))
          refine lv_ldc2 (v := (-1)) hx hb hE.2.2.2.1 (hE.2.2.2.2.1 _ mw2_52) dL_isBegun_233 ?_
          refine g_lastN hE hG h_29 (2 + (2 * u)) rfl (by omega) (by decide) dL_isBegun_236 (fun H locs w_34 ew_34 hG => ?_)
          have h_35 : w_34 1002 = some (ap, .inl (tc 0, 32, .inl (fun _ => 0))) := gU_n ew_34 (by decide) h_30
          have h_36 : w_34 1001 = some (am, .inl (tc 0, 19, .inl (upd gm (15 + u) (nI pa)))) := gU_n ew_34 (by decide) h_31
          have h_37 : w_34 1000 = some (ac, .inl (tc 1, 15, .inr (.inl (vp_updL gc (2 + (2 * u)) (-1))))) := gU_s ew_34
          refine lv_aload_n hx hb dL_isBegun_237 rfl (lv_at hl 4 rfl) ?_
          refine lv_iconst (v := 3) hx hb dL_isBegun_238 (by decide) ?_
          refine lv_iconst (v := 2) hx hb dL_isBegun_239 (by decide) ?_
          refine lv_iload hx hb dL_isBegun_240 (lv_at hl 0 rfl) ?_
          refine lv_imul hx hb dL_isBegun_242 ?_
          refine lv_topi (fun k_38 ek_38 => ?_)
          obtain rfl : k_38 = nI (2 * u) := ek_38.trans (pk_mul 2 u)
          refine lv_iadd hx hb dL_isBegun_243 ?_
          refine lv_topi (fun k_39 ek_39 => ?_)
          obtain rfl : k_39 = nI (3 + (2 * u)) := ek_39.trans (nI_add 3 (2 * u))
          refine lv_ldc2 (v := (-1)) hx hb hE.2.2.2.1 (hE.2.2.2.2.1 _ mw2_52) dL_isBegun_244 ?_
          refine g_lastN hE hG h_37 (3 + (2 * u)) rfl (by omega) (by decide) dL_isBegun_247 (fun H locs w_40 ew_40 hG => ?_)
          have h_41 : w_40 1002 = some (ap, .inl (tc 0, 32, .inl (fun _ => 0))) := gU_n ew_40 (by decide) h_35
          have h_42 : w_40 1001 = some (am, .inl (tc 0, 19, .inl (upd gm (15 + u) (nI pa)))) := gU_n ew_40 (by decide) h_36
          have h_43 : w_40 1000 = some (ac, .inl (tc 1, 15, .inr (.inl (vp_updL (vp_updL gc (2 + (2 * u)) (-1)) (3 + (2 * u)) (-1))))) := gU_s ew_40
          refine lv_aload_n hx hb dL_isBegun_248 rfl (lv_at hl 2 rfl) ?_
          refine lv_aload_n hx hb dL_isBegun_249 rfl (lv_at hl 5 rfl) ?_
          refine lv_bipush (v := 15) hx hb dL_isBegun_250 (by decide) ?_
          refine lv_iload hx hb dL_isBegun_252 (lv_at hl 0 rfl) ?_
          refine lv_iadd hx hb dL_isBegun_254 ?_
          refine lv_topi (fun k_44 ek_44 => ?_)
          obtain rfl : k_44 = nI (15 + u) := ek_44.trans (nI_add 15 u)
          refine g_ialdN hE hG h_42 (15 + u) rfl (by omega) (by decide) dL_isBegun_255 ?_
          rw [show ((upd gm (15 + u) (nI pa)) (15 + u)) = (nI pa) from pk_us]
          have hC : cO tc w_40 oa d 0 (fun _ => 0) := cO_g hC hI.1 (fun k hk => by rw [ew_40, gU_ne _ _ (by omega), ew_34, gU_ne _ _ (by omega), ew_28, gU_ne _ _ (by omega)])
          obtain ⟨fsz_45, z_45⟩ := cO_z hC
          refine g_callV (rest := []) (As := [.int (nI pa)]) hE hG hl.1 (k_player l hfl D tc A w_40 oa d 0 (fun _ => 0) (nI pa) hC hI.1 (go_player hI.1 hpa (by rw [hb9.1.1.2.2]; omega))) z_45 rfl mw2_83 mw2_84 mw2_85 mw1_1 mw2_86 rfl nm_X5_player ⟨⟨Nat.le_of_ble_eq_true rfl, Nat.le_of_ble_eq_true rfl⟩, (by show ((1000 + 20 * u) + 0) + 10 ≤ 3000; omega), (by show ((8000 + 100 * u) + 0) + 60 ≤ 30000; omega)⟩ rfl rfl (Nat.le_of_ble_eq_true rfl) dL_isBegun_256 (g_no) ?_
          intro v9 w_46 H locs h9 hG
          obtain ⟨e9, hC, g_47⟩ := h9
          rw [e9]; clear e9
          show W p l e _ s m args below meth c H locs _ _ _ (F0 m 259 ls [.int (d 9 13 + 1 - 1)])
          have h_48 : w_46 1002 = some (ap, .inl (tc 0, 32, .inl (fun _ => 0))) := (g_47 1002 (by decide)).trans h_41
          have h_49 : w_46 1001 = some (am, .inl (tc 0, 19, .inl (upd gm (15 + u) (nI pa)))) := (g_47 1001 (by decide)).trans h_42
          have h_50 : w_46 1000 = some (ac, .inl (tc 1, 15, .inr (.inl (vp_updL (vp_updL gc (2 + (2 * u)) (-1)) (3 + (2 * u)) (-1))))) := (g_47 1000 (by decide)).trans h_43
          obtain ⟨d1, ed1⟩ : ∃ d1, d1 = (sL (gD (gD d 6 (upd (d 6) (d 9 13).toNatClampNeg (nI pa))) 9 (upd (d 9) 13 (d 9 13 + 1))) 0) := ⟨_, rfl⟩
          rw [← ed1] at hC
          have hI := I_player hI (go_player hI.1 hpa (by rw [hb9.1.1.2.2]; omega))
          rw [← ed1] at hI
          have hb8 := player_new hb9 hu4 hpa ed1 hI
          refine lv_iload hx hb dL_isBegun_259 (lv_at hl 0 rfl) ?_
          refine lv_icmp_ne (tgt := 268) hx hb dL_isBegun_261 (by decide) (fun c9 => (c9 (pl_n hb9)).elim) (fun c9 => ?_)
          refine lv_iconst (v := 1) hx hb dL_isBegun_264 (by decide) ?_
          refine lv_goto (tgt := 269) hx hb dL_isBegun_265 (by decide) ?_
          refine lv_istore (lv' := [(5, .int 1), (6, .int (nI u)), (0, .ref oa), (1, .ref b), (2, .ref ac), (3, .ref am), (4, .ref ap)]) hx hb dL_isBegun_269 hl (by decide) rfl (fun ls hl => ?_)
          refine lv_iinc (v := (nI (u + 1))) (lv' := [(6, .int (nI (u + 1))), (5, .int 1), (0, .ref oa), (1, .ref b), (2, .ref ac), (3, .ref am), (4, .ref ap)]) hx hb dL_isBegun_271 hl (k := 1) rfl (nI_add u 1) (by decide) rfl (fun ls hl => ?_)
          refine lv_goto (tgt := 196) hx hb dL_isBegun_274 (by decide) ?_
          refine W.widen (k := 1000 + 20 * (u + 1)) (n := 8000 + 100 * (u + 1)) (by show (((1000 + 20 * u) + 0) + 10) ≤ _; omega) (by show (((8000 + 100 * u) + 0) + 60) ≤ _; omega) ?_
          exact ih (u + 1) _ _ _ _ _ _ _ (by omega) (bP_up hb8 (by omega)) hC h_50 h_49 h_48 hG (lv_sub hl [0, 1, 2, 3, 4, 5, 6] rfl)
      exact hpl 4 0 d _ _ _ _ _ _ (by omega) (bP_up (bS_bP hb9) (by omega)) hC h1 h2 h3 hG (lv_sub hl [0, 1, 2, 3, 4, 5, 6] rfl)
    | succ kv ih =>
      intro k d gc gm w2 H locs ls hk hb9 hC h1 h2 h3 hG hl
      have hI := hb9.2.2
      have hk2 : k < 2 := by omega
      refine lv_iload hx hb dL_isBegun_31 (lv_at hl 0 rfl) ?_
      refine lv_iconst (v := 2) hx hb dL_isBegun_33 (by decide) ?_
      refine lv_icmp_ge (tgt := 193) hx hb dL_isBegun_34 (by decide) (fun c9 => absurd c9 (fun h9 => absurd ((nI_leI (a := 2) (b := k) (by omega) (by omega)).mp h9) (by omega))) (fun c9 => ?_)
      refine lv_iload hx hb dL_isBegun_37 (lv_at hl 1 rfl) ?_
      refine lv_if_eq (tgt := 193) hx hb dL_isBegun_39 (by decide) (fun c9 => absurd c9 (by decide)) (fun _ => ?_)
      refine lv_aload_n hx hb dL_isBegun_42 rfl (lv_at hl 5 rfl) ?_
      refine lv_iload hx hb dL_isBegun_43 (lv_at hl 0 rfl) ?_
      refine lv_iconst (v := 4) hx hb dL_isBegun_45 (by decide) ?_
      refine lv_iconst (v := 4) hx hb dL_isBegun_46 (by decide) ?_
      refine lv_aload_n hx hb dL_isBegun_47 rfl (lv_at hl 3 rfl) ?_
      refine lv_sipush (v := 300) hx hb dL_isBegun_48 (by decide) ?_
      refine lv_iload hx hb dL_isBegun_51 (lv_at hl 0 rfl) ?_
      refine lv_iadd hx hb dL_isBegun_53 ?_
      refine lv_topi (fun k_51 ek_51 => ?_)
      obtain rfl : k_51 = nI (300 + k) := ek_51.trans (nI_add 300 k)
      refine lv_iconst (v := 4) hx hb dL_isBegun_54 (by decide) ?_
      refine g_callSs hX hbl hbA (rest := [.int 4, .int 4, .int (nI k), .ref am]) (As := [.ref b, .int (nI (300 + k)), .int 4]) hE hG hl.1 (c_L_from l D tc A w2 b L xs (300 + k) 4 hL (by omega) (by decide) (by decide)) mw1_210 mw1_211 mw1_0 mw1_212 nm_L_from ⟨⟨Nat.le_of_ble_eq_true rfl, Nat.le_of_ble_eq_true rfl⟩, (by show (100 + 400 * k) + 0 ≤ 3000; omega), (by show (1000 + 3000 * k) + 0 ≤ 30000; omega)⟩ rfl rfl (Nat.le_of_ble_eq_true rfl) dL_isBegun_55 ?_
      intro v9 w9 H locs h9 hG
      obtain ⟨f9, qa, hqa, e9⟩ := h9
      rw [f9] at hG; rw [e9]; clear e9 f9
      show W p l e _ s m args below meth c H locs _ _ _ (F0 m 58 ls [.int (nI qa), .int 4, .int 4, .int (nI k), .ref am])
      refine lv_imul hx hb dL_isBegun_58 ?_
      refine lv_topi (fun k_52 ek_52 => ?_)
      obtain rfl : k_52 = nI (4 * qa) := ek_52.trans (pk_mul 4 qa)
      refine lv_iadd hx hb dL_isBegun_59 ?_
      refine lv_topi (fun k_53 ek_53 => ?_)
      obtain rfl : k_53 = nI (4 + (4 * qa)) := ek_53.trans (nI_add 4 (4 * qa))
      refine lv_topi (fun k_54 ek_54 => ?_)
      obtain ⟨q, hq1, hq4, rfl⟩ : ∃ q : Nat, 1 ≤ q ∧ q ≤ 4 ∧ k_54 = nI (4 * q) := ⟨qa + 1, by omega, by omega, ek_54.trans (by rw [show 4 * (qa + 1) = 4 + 4 * qa by omega])⟩
      refine g_iastN hE hG h2 k rfl (by omega) (by decide) dL_isBegun_60 (fun H locs w_55 ew_55 hG => ?_)
      have h_56 : w_55 1000 = some (ac, .inl (tc 1, 15, .inr (.inl gc))) := gU_n ew_55 (by decide) h1
      have h_57 : w_55 1002 = some (ap, .inl (tc 0, 32, .inl (fun _ => 0))) := gU_n ew_55 (by decide) h3
      have h_58 : w_55 1001 = some (am, .inl (tc 0, 19, .inl (upd gm k (nI (4 * q))))) := gU_s ew_55
      refine lv_aload_n hx hb dL_isBegun_61 rfl (lv_at hl 2 rfl) ?_
      refine lv_aload_n hx hb dL_isBegun_62 rfl (lv_at hl 5 rfl) ?_
      refine lv_iload hx hb dL_isBegun_63 (lv_at hl 0 rfl) ?_
      refine g_ialdN hE hG h_58 k rfl (by omega) (by decide) dL_isBegun_65 ?_
      rw [show ((upd gm k (nI (4 * q))) k) = (nI (4 * q)) from pk_us]
      have hC : cO tc w_55 oa d 0 (fun _ => 0) := cO_g hC hI.1 (fun k hk => by rw [ew_55, gU_ne _ _ (by omega)])
      obtain ⟨fsz_59, z_59⟩ := cO_z hC
      refine g_callV (rest := []) (As := [.int (nI (4 * q))]) hE hG hl.1 (k_form l hfl D tc A w_55 oa d 0 (fun _ => 0) (nI (4 * q)) hC hI.1 (go_form hq1 (by omega) (by rw [hb9.1.1.1]; omega) hI.1)) z_59 rfl mw1_215 mw1_216 mw1_217 mw1_1 mw1_218 rfl nm_X5_form ⟨⟨Nat.le_of_ble_eq_true rfl, Nat.le_of_ble_eq_true rfl⟩, (by show ((100 + 400 * k) + 0) + 8 ≤ 3000; omega), (by show ((1000 + 3000 * k) + 0) + 48 ≤ 30000; omega)⟩ rfl rfl (Nat.le_of_ble_eq_true rfl) dL_isBegun_66 (g_no) ?_
      intro v9 w_60 H locs h9 hG
      obtain ⟨e9, hC, g_61⟩ := h9
      rw [e9]; clear e9
      show W p l e _ s m args below meth c H locs _ _ _ (F0 m 69 ls [.int (d 9 0 + 1 - 1)])
      have h_62 : w_60 1000 = some (ac, .inl (tc 1, 15, .inr (.inl gc))) := (g_61 1000 (by decide)).trans h_56
      have h_63 : w_60 1002 = some (ap, .inl (tc 0, 32, .inl (fun _ => 0))) := (g_61 1002 (by decide)).trans h_57
      have h_64 : w_60 1001 = some (am, .inl (tc 0, 19, .inl (upd gm k (nI (4 * q))))) := (g_61 1001 (by decide)).trans h_58
      obtain ⟨d1, ed1⟩ : ∃ d1, d1 = (sL (gD (gD d 0 (upd (d 0) (d 9 0).toNatClampNeg (nI (4 * q)))) 9 (upd (d 9) 0 (d 9 0 + 1))) 0) := ⟨_, rfl⟩
      rw [← ed1] at hC
      have hI := I_form hI (go_form hq1 (by omega) (by rw [hb9.1.1.1]; omega) hI.1)
      rw [← ed1] at hI
      have hfn := form_n hb9 hk2 ed1
      refine lv_iload hx hb dL_isBegun_69 (lv_at hl 0 rfl) ?_
      refine lv_icmp_ne (tgt := 89) hx hb dL_isBegun_71 (by decide) (fun c9 => (c9 hfn.2.2.1).elim) (fun c9 => ?_)
      refine lv_aload_n hx hb dL_isBegun_74 rfl (lv_at hl 2 rfl) ?_
      refine lv_iload hx hb dL_isBegun_75 (lv_at hl 0 rfl) ?_
      obtain ⟨fsz_65, z_65⟩ := cO_z hC
      refine g_callV (rest := []) (As := [.int (nI k)]) hE hG hl.1 (k_piece l hfl D tc A w_60 oa d1 0 (fun _ => 0) (nI k) hC hI.1 hI.2.1 (go_piece (i := k) hI.1 (by rw [hfn.1]; omega) (by rw [hfn.2.1]; omega))) z_65 rfl mw1_236 mw1_237 mw1_238 mw1_1 mw1_239 rfl nm_X5_piece ⟨⟨Nat.le_of_ble_eq_true rfl, Nat.le_of_ble_eq_true rfl⟩, (by show (((100 + 400 * k) + 0) + 8) + 10 ≤ 3000; omega), (by show (((1000 + 3000 * k) + 0) + 48) + 150 ≤ 30000; omega)⟩ rfl rfl (Nat.le_of_ble_eq_true rfl) dL_isBegun_77 (g_no) ?_
      intro v9 w_66 H locs h9 hG
      obtain ⟨e9, hC, g_67⟩ := h9
      rw [e9]; clear e9
      show W p l e _ s m args below meth c H locs _ _ _ (F0 m 80 ls [.int (d1 9 1 + 1 - 1)])
      have h_68 : w_66 1000 = some (ac, .inl (tc 1, 15, .inr (.inl gc))) := (g_67 1000 (by decide)).trans h_62
      have h_69 : w_66 1002 = some (ap, .inl (tc 0, 32, .inl (fun _ => 0))) := (g_67 1002 (by decide)).trans h_63
      have h_70 : w_66 1001 = some (am, .inl (tc 0, 19, .inl (upd gm k (nI (4 * q))))) := (g_67 1001 (by decide)).trans h_64
      obtain ⟨d2, ed2⟩ : ∃ d2, d2 = (sL (gD (gD d1 1 (upd (d1 1) (d1 9 1).toNatClampNeg (nI k))) 9 (upd (d1 9) 1 (d1 9 1 + 1))) 0) := ⟨_, rfl⟩
      rw [← ed2] at hC
      have hI := I_piece hI (go_piece (i := k) hI.1 (by rw [hfn.1]; omega) (by rw [hfn.2.1]; omega))
      rw [← ed2] at hI
      obtain ⟨hb8, hln8, hz8⟩ := piece_new hb9 hk2 hq1 hq4 ed1 ed2 hI
      refine lv_iload hx hb dL_isBegun_80 (lv_at hl 0 rfl) ?_
      refine lv_icmp_ne (tgt := 89) hx hb dL_isBegun_82 (by decide) (fun c9 => (c9 hfn.2.2.2).elim) (fun c9 => ?_)
      refine lv_iconst (v := 1) hx hb dL_isBegun_85 (by decide) ?_
      refine lv_goto (tgt := 90) hx hb dL_isBegun_86 (by decide) ?_
      refine lv_istore (lv' := [(5, .int 1), (6, .int (nI k)), (0, .ref oa), (1, .ref b), (2, .ref ac), (3, .ref am), (4, .ref ap)]) hx hb dL_isBegun_90 hl (by decide) rfl (fun ls hl => ?_)
      refine lv_iconst (v := 1) hx hb dL_isBegun_92 (by decide) ?_
      refine lv_istore (lv' := [(7, .int 1), (5, .int 1), (6, .int (nI k)), (0, .ref oa), (1, .ref b), (2, .ref ac), (3, .ref am), (4, .ref ap)]) hx hb dL_isBegun_93 hl (by decide) rfl (fun ls hl => ?_)
      refine W.widen (k := 100 + 400 * k + 20 + 10 * 0) (n := 1000 + 3000 * k + 200 + 50 * 0) (by show ((((100 + 400 * k) + 0) + 8) + 10) ≤ _; omega) (by show ((((1000 + 3000 * k) + 0) + 48) + 150) ≤ _; omega) ?_
      have hin : ∀ (kv n : Nat) (d : gDt) (gc : Nat → Int64) (w2 : gW) (H : Heap) (locs : List Loc) (ls : Array Slot), n + kv = 4 * q → bS d gc (upd gm k (nI (4 * q))) (k + 1) (2000 * k + 200 + 100 * n) → lenN d k = 4 * q → (∀ j, n < j → j ≤ 64 → d 3 (65 * k + j) = 0) → cO tc w2 oa d 0 (fun _ => 0) → w2 1000 = some (ac, .inl (tc 1, 15, .inr (.inl gc))) → w2 1001 = some (am, .inl (tc 0, 19, .inl (upd gm k (nI (4 * q))))) → w2 1002 = some (ap, .inl (tc 0, 32, .inl (fun _ => 0))) → gS D A s.heap w2 H locs → lv_has ls 9 [(7, .int (nI (n + 1))), (6, .int (nI k)), (5, .int 1), (0, .ref oa), (1, .ref b), (2, .ref ac), (3, .ref am), (4, .ref ap)] → W p l e rm_L_isBegun s m args below meth c H locs (100 + 400 * k + 20 + 10 * n) (1000 + 3000 * k + 200 + 50 * n) Q (F0 m 95 ls []) := by
        intro kv
        induction kv with
        | zero =>
          intro n d gc w2 H locs ls hn9 hb9 hln hz9 hC h1 h2 h3 hG hl
          have hI := hb9.2.2
          refine lv_iload hx hb dL_isBegun_95 (lv_at hl 0 rfl) ?_
          refine lv_aload_n hx hb dL_isBegun_97 rfl (lv_at hl 6 rfl) ?_
          refine lv_iload hx hb dL_isBegun_98 (lv_at hl 1 rfl) ?_
          refine g_ialdN hE hG h2 k rfl (by omega) (by decide) dL_isBegun_100 ?_
          rw [show ((upd gm k (nI (4 * q))) k) = (nI (4 * q)) from pk_us]
          refine lv_icmp_gt (tgt := 187) hx hb dL_isBegun_101 (by decide) (fun c9 => ?_) (fun c9 => (c9 ((nI_ltI (a := (4 * q)) (b := (n + 1)) (by omega) (by omega)).mpr (by omega))).elim)
          refine lv_iinc (v := (nI (k + 1))) (lv' := [(6, .int (nI (k + 1))), (7, .int (nI (n + 1))), (5, .int 1), (0, .ref oa), (1, .ref b), (2, .ref ac), (3, .ref am), (4, .ref ap)]) hx hb dL_isBegun_187 hl (k := 1) rfl (nI_add k 1) (by decide) rfl (fun ls hl => ?_)
          refine lv_goto (tgt := 31) hx hb dL_isBegun_190 (by decide) ?_
          refine W.widen (k := 100 + 400 * (k + 1)) (n := 1000 + 3000 * (k + 1)) (by show (100 + 400 * k + 20 + 10 * n) ≤ _; omega) (by show (1000 + 3000 * k + 200 + 50 * n) ≤ _; omega) ?_
          exact ih (k + 1) d gc _ w2 _ _ _ (by omega) (bS_up hb9 (by omega)) hC h1 h2 h3 hG (lv_sub hl [0, 2, 3, 4, 5, 6, 7] rfl)
        | succ kv ih9 =>
          intro n d gc w2 H locs ls hn9 hb9 hln hz9 hC h1 h2 h3 hG hl
          have hI := hb9.2.2
          refine lv_iload hx hb dL_isBegun_95 (lv_at hl 0 rfl) ?_
          refine lv_aload_n hx hb dL_isBegun_97 rfl (lv_at hl 6 rfl) ?_
          refine lv_iload hx hb dL_isBegun_98 (lv_at hl 1 rfl) ?_
          refine g_ialdN hE hG h2 k rfl (by omega) (by decide) dL_isBegun_100 ?_
          rw [show ((upd gm k (nI (4 * q))) k) = (nI (4 * q)) from pk_us]
          refine lv_icmp_gt (tgt := 187) hx hb dL_isBegun_101 (by decide) (fun c9 => absurd c9 (fun h9 => absurd ((nI_ltI (a := (4 * q)) (b := (n + 1)) (by omega) (by omega)).mp h9) (by omega))) (fun c9 => ?_)
          refine lv_iload hx hb dL_isBegun_104 (lv_at hl 2 rfl) ?_
          refine lv_if_eq (tgt := 187) hx hb dL_isBegun_106 (by decide) (fun c9 => absurd c9 (by decide)) (fun _ => ?_)
          refine lv_aload_n hx hb dL_isBegun_109 rfl (lv_at hl 4 rfl) ?_
          refine lv_sipush (v := 310) hx hb dL_isBegun_110 (by decide) ?_
          refine lv_bipush (v := 16) hx hb dL_isBegun_113 (by decide) ?_
          refine lv_iload hx hb dL_isBegun_115 (lv_at hl 1 rfl) ?_
          refine lv_imul hx hb dL_isBegun_117 ?_
          refine lv_topi (fun k_71 ek_71 => ?_)
          obtain rfl : k_71 = nI (16 * k) := ek_71.trans (pk_mul 16 k)
          refine lv_iadd hx hb dL_isBegun_118 ?_
          refine lv_topi (fun k_72 ek_72 => ?_)
          obtain rfl : k_72 = nI (310 + (16 * k)) := ek_72.trans (nI_add 310 (16 * k))
          refine lv_iload hx hb dL_isBegun_119 (lv_at hl 0 rfl) ?_
          refine lv_iadd hx hb dL_isBegun_121 ?_
          refine lv_topi (fun k_73 ek_73 => ?_)
          obtain rfl : k_73 = nI ((310 + (16 * k)) + (n + 1)) := ek_73.trans (nI_add (310 + (16 * k)) (n + 1))
          refine lv_bipush (v := 16) hx hb dL_isBegun_122 (by decide) ?_
          refine g_callSs hX hbl hbA (rest := []) (As := [.ref b, .int (nI ((310 + (16 * k)) + (n + 1))), .int 16]) hE hG hl.1 (c_L_from l D tc A w2 b L xs ((310 + (16 * k)) + (n + 1)) 16 hL (by omega) (by decide) (by decide)) mw1_210 mw1_211 mw1_0 mw1_212 nm_L_from ⟨⟨Nat.le_of_ble_eq_true rfl, Nat.le_of_ble_eq_true rfl⟩, (by show (100 + 400 * k + 20 + 10 * n) + 0 ≤ 3000; omega), (by show (1000 + 3000 * k + 200 + 50 * n) + 0 ≤ 30000; omega)⟩ rfl rfl (Nat.le_of_ble_eq_true rfl) dL_isBegun_124 ?_
          intro v9 w9 H locs h9 hG
          obtain ⟨f9, xa, hxa, e9⟩ := h9
          rw [f9] at hG; rw [e9]; clear e9 f9
          show W p l e _ s m args below meth c H locs _ _ _ (F0 m 127 ls [.int (nI xa)])
          rcases Nat.lt_or_ge 8 xa with hxa8 | hxa8
          · skip
            obtain ⟨to, rfl⟩ : ∃ to, xa = to + 8 := ⟨xa - 8, by omega⟩
            have hto8 : to < 8 := by omega
            refine lv_bipush (v := 8) hx hb dL_isBegun_127 (by decide) ?_
            refine lv_isub hx hb dL_isBegun_129 ?_
            refine lv_topi (fun k_74 ek_74 => ?_)
            obtain rfl : k_74 = nI ((to + 8) - 8) := ek_74.trans (pk_sub (a := (to + 8)) (b := 8) (by omega))
            refine lv_topi (fun k_75 ek_75 => ?_)
            obtain rfl : k_75 = nI to := ek_75
            refine lv_istore (lv' := [(8, .int (nI to)), (7, .int (nI (n + 1))), (6, .int (nI k)), (5, .int 1), (0, .ref oa), (1, .ref b), (2, .ref ac), (3, .ref am), (4, .ref ap)]) hx hb dL_isBegun_130 hl (by decide) rfl (fun ls hl => ?_)
            refine lv_aload_n hx hb dL_isBegun_132 rfl (lv_at hl 6 rfl) ?_
            refine lv_iload hx hb dL_isBegun_133 (lv_at hl 2 rfl) ?_
            refine lv_aload_n hx hb dL_isBegun_135 rfl (lv_at hl 6 rfl) ?_
            refine lv_iload hx hb dL_isBegun_136 (lv_at hl 2 rfl) ?_
            refine g_laldN hE hG h1 k rfl (by omega) (by decide) dL_isBegun_138 ?_
            refine lv_iload hx hb dL_isBegun_139 (lv_at hl 1 rfl) ?_
            refine lv_iload hx hb dL_isBegun_141 (lv_at hl 0 rfl) ?_
            refine lv_if_le (tgt := 151) hx hb dL_isBegun_143 (by decide) (fun c9 => absurd c9 (fun h9 => absurd ((nI_leI (a := to) (b := 0) (by omega) (by omega)).mp h9) (by omega))) (fun c9 => ?_)
            refine lv_iload hx hb dL_isBegun_146 (lv_at hl 0 rfl) ?_
            refine lv_goto (tgt := 152) hx hb dL_isBegun_148 (by decide) ?_
            refine g_callS (rest := [.int (nI k), .ref ac]) (As := [.long (gc k), .int (nI (n + 1)), .int (nI to)]) hE hG hl.1 (c_L_with l hfl D tc A w2 (gc k) (nI (n + 1)) (nI to) ) mw2_48 mw2_49 mw1_0 mw2_50 nm_L_with ⟨⟨Nat.le_of_ble_eq_true rfl, Nat.le_of_ble_eq_true rfl⟩, (by show ((100 + 400 * k + 20 + 10 * n) + 0) + 0 ≤ 3000; omega), (by show ((1000 + 3000 * k + 200 + 50 * n) + 0) + 0 ≤ 30000; omega)⟩ rfl rfl (Nat.le_of_ble_eq_true rfl) dL_isBegun_152 (g_no) ?_
            intro v9 w9 H locs h9 hG
            obtain ⟨e9, f9⟩ := h9
            rw [f9] at hG; rw [e9]; clear e9 f9
            show W p l e _ s m args below meth c H locs _ _ _ (F0 m 155 ls [.long (f_wiL (gc k) (nI (n + 1)) (nI to)), .int (nI k), .ref ac])
            refine g_lastN hE hG h1 k rfl (by omega) (by decide) dL_isBegun_155 (fun H locs w_76 ew_76 hG => ?_)
            have h_77 : w_76 1001 = some (am, .inl (tc 0, 19, .inl (upd gm k (nI (4 * q))))) := gU_n ew_76 (by decide) h2
            have h_78 : w_76 1002 = some (ap, .inl (tc 0, 32, .inl (fun _ => 0))) := gU_n ew_76 (by decide) h3
            have h_79 : w_76 1000 = some (ac, .inl (tc 1, 15, .inr (.inl (vp_updL gc k (f_wiL (gc k) (nI (n + 1)) (nI to)))))) := gU_s ew_76
            refine lv_iload hx hb dL_isBegun_156 (lv_at hl 0 rfl) ?_
            refine lv_if_le (tgt := 174) hx hb dL_isBegun_158 (by decide) (fun c9 => absurd c9 (fun h9 => absurd ((nI_leI (a := to) (b := 0) (by omega) (by omega)).mp h9) (by omega))) (fun c9 => ?_)
            refine lv_aload_n hx hb dL_isBegun_161 rfl (lv_at hl 4 rfl) ?_
            refine lv_iload hx hb dL_isBegun_162 (lv_at hl 2 rfl) ?_
            refine lv_iload hx hb dL_isBegun_164 (lv_at hl 1 rfl) ?_
            refine lv_iload hx hb dL_isBegun_166 (lv_at hl 0 rfl) ?_
            have hC : cO tc w_76 oa d 0 (fun _ => 0) := cO_g hC hI.1 (fun k hk => by rw [ew_76, gU_ne _ _ (by omega)])
            obtain ⟨fsz_80, z_80⟩ := cO_z hC
            refine g_callV (rest := []) (As := [.int (nI k), .int (nI (n + 1)), .int (nI to)]) hE hG hl.1 (k_tone l hfl D tc A w_76 oa d 0 (fun _ => 0) (nI k) (nI (n + 1)) (nI to) hC hI.1 (go_tone hI.1 (by rw [hb9.1.1.2.1]; omega) (by omega) (by rw [hln]; omega) hto8)) z_80 rfl mw2_53 mw2_54 mw2_55 mw1_1 mw2_56 rfl nm_X5_tone ⟨⟨Nat.le_of_ble_eq_true rfl, Nat.le_of_ble_eq_true rfl⟩, (by show (((100 + 400 * k + 20 + 10 * n) + 0) + 0) + 8 ≤ 3000; omega), (by show (((1000 + 3000 * k + 200 + 50 * n) + 0) + 0) + 48 ≤ 30000; omega)⟩ rfl rfl (Nat.le_of_ble_eq_true rfl) dL_isBegun_168 (g_no) ?_
            intro v9 w_81 H locs h9 hG
            obtain ⟨e9, hC, g_82⟩ := h9
            rw [e9]; clear e9
            show W p l e _ s m args below meth c H locs _ _ _ (F0 m 171 ls [.int (d 3 (65 * (nI k) + (nI (n + 1))).toNatClampNeg)])
            have h_83 : w_81 1001 = some (am, .inl (tc 0, 19, .inl (upd gm k (nI (4 * q))))) := (g_82 1001 (by decide)).trans h_77
            have h_84 : w_81 1002 = some (ap, .inl (tc 0, 32, .inl (fun _ => 0))) := (g_82 1002 (by decide)).trans h_78
            have h_85 : w_81 1000 = some (ac, .inl (tc 1, 15, .inr (.inl (vp_updL gc k (f_wiL (gc k) (nI (n + 1)) (nI to)))))) := (g_82 1000 (by decide)).trans h_79
            refine lv_if_ne (tgt := 178) hx hb dL_isBegun_171 (by decide) (fun c9 => (c9 (by rw [tone_ix hI.1 (by rw [hb9.1.1.2.1]; omega) (by rw [hln]; omega)]; exact hz9 (n + 1) (by omega) (by omega))).elim) (fun c9 => ?_)
            refine lv_iconst (v := 1) hx hb dL_isBegun_174 (by decide) ?_
            refine lv_goto (tgt := 179) hx hb dL_isBegun_175 (by decide) ?_
            refine lv_istore (lv' := [(5, .int 1), (8, .int (nI to)), (7, .int (nI (n + 1))), (6, .int (nI k)), (0, .ref oa), (1, .ref b), (2, .ref ac), (3, .ref am), (4, .ref ap)]) hx hb dL_isBegun_179 hl (by decide) rfl (fun ls hl => ?_)
            refine lv_iinc (v := (nI (n + 1 + 1))) (lv' := [(7, .int (nI (n + 1 + 1))), (5, .int 1), (8, .int (nI to)), (6, .int (nI k)), (0, .ref oa), (1, .ref b), (2, .ref ac), (3, .ref am), (4, .ref ap)]) hx hb dL_isBegun_181 hl (k := 2) rfl (nI_add (n + 1) 1) (by decide) rfl (fun ls hl => ?_)
            refine lv_goto (tgt := 95) hx hb dL_isBegun_184 (by decide) ?_
            refine W.widen (k := 100 + 400 * k + 20 + 10 * (n + 1)) (n := 1000 + 3000 * k + 200 + 50 * (n + 1)) (by show ((((100 + 400 * k + 20 + 10 * n) + 0) + 0) + 8) ≤ _; omega) (by show ((((1000 + 3000 * k + 200 + 50 * n) + 0) + 0) + 48) ≤ _; omega) ?_
            exact ih9 (n + 1) _ _ _ _ _ _ (by omega) (tone_new hb9 hk2 (by rw [hln]; omega) hto8 (iOk_u2 (I_tone hI (go_tone hI.1 (by rw [hb9.1.1.2.1]; omega) (by omega) (by rw [hln]; omega) hto8)) (by omega))) hln (fun j j1 j2 => by show upd (d 3) _ _ _ = _; rw [tone_ix hI.1 (by rw [hb9.1.1.2.1]; omega) (by rw [hln]; omega), pk_un (by omega)]; exact hz9 j (by omega) j2) hC h_85 h_83 h_84 hG (lv_sub hl [0, 3, 1, 4, 5, 6, 7, 8] rfl)
          · skip
            refine lv_bipush (v := 8) hx hb dL_isBegun_127 (by decide) ?_
            refine lv_isub hx hb dL_isBegun_129 ?_
            refine lv_topi (fun v8 ev8 => ?_)
            have hv8 : v8 ≤ 0 := by rw [ev8]; exact le8 hxa8
            refine lv_istore (lv' := [(8, .int v8), (7, .int (nI (n + 1))), (6, .int (nI k)), (5, .int 1), (0, .ref oa), (1, .ref b), (2, .ref ac), (3, .ref am), (4, .ref ap)]) hx hb dL_isBegun_130 hl (by decide) rfl (fun ls hl => ?_)
            refine lv_aload_n hx hb dL_isBegun_132 rfl (lv_at hl 6 rfl) ?_
            refine lv_iload hx hb dL_isBegun_133 (lv_at hl 2 rfl) ?_
            refine lv_aload_n hx hb dL_isBegun_135 rfl (lv_at hl 6 rfl) ?_
            refine lv_iload hx hb dL_isBegun_136 (lv_at hl 2 rfl) ?_
            refine g_laldN hE hG h1 k rfl (by omega) (by decide) dL_isBegun_138 ?_
            refine lv_iload hx hb dL_isBegun_139 (lv_at hl 1 rfl) ?_
            refine lv_iload hx hb dL_isBegun_141 (lv_at hl 0 rfl) ?_
            refine lv_if_le (tgt := 151) hx hb dL_isBegun_143 (by decide) (fun c9 => ?_) (fun c9 => (c9 hv8).elim)
            refine lv_iconst (v := 0) hx hb dL_isBegun_151 (by decide) ?_
            refine g_callS (rest := [.int (nI k), .ref ac]) (As := [.long (gc k), .int (nI (n + 1)), .int 0]) hE hG hl.1 (c_L_with l hfl D tc A w2 (gc k) (nI (n + 1)) 0 ) mw2_48 mw2_49 mw1_0 mw2_50 nm_L_with ⟨⟨Nat.le_of_ble_eq_true rfl, Nat.le_of_ble_eq_true rfl⟩, (by show ((100 + 400 * k + 20 + 10 * n) + 0) + 0 ≤ 3000; omega), (by show ((1000 + 3000 * k + 200 + 50 * n) + 0) + 0 ≤ 30000; omega)⟩ rfl rfl (Nat.le_of_ble_eq_true rfl) dL_isBegun_152 (g_no) ?_
            intro v9 w9 H locs h9 hG
            obtain ⟨e9, f9⟩ := h9
            rw [f9] at hG; rw [e9]; clear e9 f9
            show W p l e _ s m args below meth c H locs _ _ _ (F0 m 155 ls [.long (f_wiL (gc k) (nI (n + 1)) 0), .int (nI k), .ref ac])
            refine g_lastN hE hG h1 k rfl (by omega) (by decide) dL_isBegun_155 (fun H locs w_87 ew_87 hG => ?_)
            have h_88 : w_87 1001 = some (am, .inl (tc 0, 19, .inl (upd gm k (nI (4 * q))))) := gU_n ew_87 (by decide) h2
            have h_89 : w_87 1002 = some (ap, .inl (tc 0, 32, .inl (fun _ => 0))) := gU_n ew_87 (by decide) h3
            have h_90 : w_87 1000 = some (ac, .inl (tc 1, 15, .inr (.inl (vp_updL gc k (f_wiL (gc k) (nI (n + 1)) 0))))) := gU_s ew_87
            refine lv_iload hx hb dL_isBegun_156 (lv_at hl 0 rfl) ?_
            refine lv_if_le (tgt := 174) hx hb dL_isBegun_158 (by decide) (fun c9 => ?_) (fun c9 => (c9 hv8).elim)
            refine lv_iconst (v := 1) hx hb dL_isBegun_174 (by decide) ?_
            refine lv_goto (tgt := 179) hx hb dL_isBegun_175 (by decide) ?_
            refine lv_istore (lv' := [(5, .int 1), (8, .int v8), (7, .int (nI (n + 1))), (6, .int (nI k)), (0, .ref oa), (1, .ref b), (2, .ref ac), (3, .ref am), (4, .ref ap)]) hx hb dL_isBegun_179 hl (by decide) rfl (fun ls hl => ?_)
            refine lv_iinc (v := (nI (n + 1 + 1))) (lv' := [(7, .int (nI (n + 1 + 1))), (5, .int 1), (8, .int v8), (6, .int (nI k)), (0, .ref oa), (1, .ref b), (2, .ref ac), (3, .ref am), (4, .ref ap)]) hx hb dL_isBegun_181 hl (k := 2) rfl (nI_add (n + 1) 1) (by decide) rfl (fun ls hl => ?_)
            refine lv_goto (tgt := 95) hx hb dL_isBegun_184 (by decide) ?_
            refine W.widen (k := 100 + 400 * k + 20 + 10 * (n + 1)) (n := 1000 + 3000 * k + 200 + 50 * (n + 1)) (by show (((100 + 400 * k + 20 + 10 * n) + 0) + 0) ≤ _; omega) (by show (((1000 + 3000 * k + 200 + 50 * n) + 0) + 0) ≤ _; omega) ?_
            exact ih9 (n + 1) _ _ _ _ _ _ (by omega) (bS_up (tone_old hb9 hk2 (by rw [hln]; omega) (hz9 (n + 1) (by omega) (by omega))) (by omega)) hln (fun j j1 j2 => hz9 j (by omega) j2) (cO_g hC hI.1 (fun k hk => by rw [ew_87, gU_ne _ _ (by omega)])) h_90 h_88 h_89 hG (lv_sub hl [0, 3, 1, 4, 5, 6, 7, 8] rfl)
      exact hin (4 * q) 0 d2 _ _ _ _ _ (by omega) (bS_up hb8 (by omega)) hln8 (fun j j1 j2 => hz8 j (by omega) j2) hC h_68 h_70 h_69 hG (lv_sub hl [0, 2, 1, 3, 4, 5, 6, 7] rfl)
  exact hout 2 0 _ _ _ _ _ _ _ (by omega) bS_0 (cO_g hC hI.1 (fun k hk => by rw [ew_13, gU_ne _ _ (by omega)])) h_14 h_16 h_15 hG (lv_sub hl [0, 1, 2, 3, 4, 5, 6] rfl)
