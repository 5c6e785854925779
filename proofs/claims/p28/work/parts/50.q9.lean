/-! isPlayed -/
theorem iOk_up {d : gDt} {B B' : Nat} (h : iOk d B) (hB : B ≤ B') : iOk d B' := ⟨h.1, h.2.1, h.2.2.1, h.2.2.2.1, h.2.2.2.2.1, jP_le h.2.2.2.2.2 hB⟩
theorem and1_nz {x : Int32} (h : ¬ x &&& 1 = 1) : x &&& 1 = 0 := (and1_01 x).resolve_right h
abbrev rm_L_isPlayed : Room := { frames := 11, cells := 20, slots := 200, locals := 410 }
theorem nm_L_isPlayed : gNm yL_isPlayed 5 := ⟨by decide +kernel, by decide +kernel, by decide +kernel⟩
set_option maxHeartbeats 4000000 in
set_option maxRecDepth 100000 in
theorem c_L_isPlayed (l : Launch) (hfl : l.stackTraces = false) (D : va_G) (tc : Nat → ClassId) (A : Nat → Prop) (w : gW) (oa : Nat) (ac : Nat) (am : Nat) (ap : Nat) (B : Nat) (way : Nat) (Z : Nat) (hH : hO tc oa ac am ap B w) (hB : B ≤ 50000) (hway : way < 3) (hZ : Z < 1000000000) : gM l yL_isPlayed cL_isPlayed 7 (some .boolean) rm_L_isPlayed D tc A [.ref oa, .ref ac, .ref am, .int (nI way), .int (nI Z)] w (fun v w' => v = some (.int 1) ∧ hO tc oa ac am ap (B + 300) w') (fun _ => False) := by
  refine gM_of (by decide +kernel) (Nat.le_of_ble_eq_true rfl) ?_
  intro p e s m args below meth c ls Q hQ hE hG hr hnt hnm hl
  have hx := hE.1
  have hb := hE.2.1
  have hl : lv_has ls 7 [(0, .ref oa), (1, .ref ac), (2, .ref am), (3, .int (nI way)), (4, .int (nI Z))] := hl
  obtain ⟨d, tk, st, gc, gm, gp, hC, h1, h2, h3, hI, hR⟩ := hH
  obtain ⟨hRA, hRB, hRT, hRU, hRP⟩ := id hR
  obtain ⟨⟨hm4, hm5, hm6, hm7, hm8, hm9, hm10, hm11, hm12, hm13, hm14⟩, h01, ⟨nV, hnV, enV⟩, ⟨nE, hnE, enE⟩, ⟨nT, hnT, enT⟩, ⟨nY, hnY, enY⟩, hb9⟩ := id hRB
  have hnF := hRA.1.1
  have hnP := hRA.1.2.1
  have hnU := hRA.1.2.2
  have hm13n := hm13.trans enT
  have hm14n := hm14.trans enY
  have hm11n := hm11.trans enE
  refine lv_iload_n hx hb dL_isPlayed_0 rfl (lv_at hl 3 rfl) ?_
  refine lv_if_ne (tgt := 103) hx hb dL_isPlayed_1 (by decide) (fun c_1 => ?_) (fun c_1 => ?_)
  · skip
    have nc_1 : ¬ (way = 0) := fun h9 => c_1 ((nI_eq (a := way) (b := 0) (by omega) (by omega)).mpr h9)
    rcases id h01 with hg2 | hg2
    · skip
      have hg4 := hm4.trans hg2
      refine lv_aload_n hx hb dL_isPlayed_103 rfl (lv_at hl 2 rfl) ?_
      refine lv_iconst (v := 4) hx hb dL_isPlayed_104 (by decide) ?_
      refine g_ialdN hE hG h2 4 rfl (by decide) (by decide) dL_isPlayed_105 ?_
      rw [hg4]
      refine lv_if_ne (tgt := 151) hx hb dL_isPlayed_106 (by decide) (fun c9 => (c9 (by decide)).elim) (fun _ => ?_)
      refine lv_aload_n hx hb dL_isPlayed_109 rfl (lv_at hl 2 rfl) ?_
      refine lv_bipush (v := 13) hx hb dL_isPlayed_110 (by decide) ?_
      refine lv_aload_n hx hb dL_isPlayed_112 rfl (lv_at hl 2 rfl) ?_
      refine lv_bipush (v := 13) hx hb dL_isPlayed_113 (by decide) ?_
      refine g_ialdN hE hG h2 13 rfl (by decide) (by decide) dL_isPlayed_115 ?_
      rw [hm13n]
      refine lv_iconst (v := 1) hx hb dL_isPlayed_116 (by decide) ?_
      refine lv_iadd hx hb dL_isPlayed_117 ?_
      refine lv_topi (fun k_2 ek_2 => ?_)
      obtain rfl : k_2 = nI (nT + 1) := ek_2.trans (nI_add nT 1)
      refine lv_iload hx hb dL_isPlayed_118 (lv_at hl 4 rfl) ?_
      refine lv_bipush (v := 100) hx hb dL_isPlayed_120 (by decide) ?_
      refine lv_irem hx hb dL_isPlayed_122 (by decide) ?_
      refine lv_topi (fun k_3 ek_3 => ?_)
      obtain rfl : k_3 = nI (Z % 100) := ek_3.trans (pk_rem (a := Z) (d := 100) (by omega) (by omega) (by omega))
      refine lv_iadd hx hb dL_isPlayed_123 ?_
      refine lv_topi (fun k_4 ek_4 => ?_)
      obtain rfl : k_4 = nI ((nT + 1) + (Z % 100)) := ek_4.trans (nI_add (nT + 1) (Z % 100))
      refine lv_iconst (v := 5) hx hb dL_isPlayed_124 (by decide) ?_
      refine lv_irem hx hb dL_isPlayed_125 (by decide) ?_
      refine lv_topi (fun k_5 ek_5 => ?_)
      obtain rfl : k_5 = nI (((nT + 1) + (Z % 100)) % 5) := ek_5.trans (pk_rem (a := ((nT + 1) + (Z % 100))) (d := 5) (by omega) (by omega) (by omega))
      refine g_iastN hE hG h2 13 rfl (by decide) (by decide) dL_isPlayed_126 (fun H locs w_6 ew_6 hG => ?_)
      have h_7 : w_6 1000 = some (ac, .inl (tc 1, 15, .inr (.inl gc))) := gU_n ew_6 (by decide) h1
      have h_8 : w_6 1002 = some (ap, .inl (tc 0, 32, .inl gp)) := gU_n ew_6 (by decide) h3
      have h_9 : w_6 1001 = some (am, .inl (tc 0, 19, .inl (upd gm 13 (nI (((nT + 1) + (Z % 100)) % 5))))) := gU_s ew_6
      refine lv_aload_n hx hb dL_isPlayed_127 rfl (lv_at hl 0 rfl) ?_
      refine lv_iconst (v := 1) hx hb dL_isPlayed_128 (by decide) ?_
      refine lv_iload hx hb dL_isPlayed_129 (lv_at hl 4 rfl) ?_
      refine lv_bipush (v := 100) hx hb dL_isPlayed_131 (by decide) ?_
      refine lv_irem hx hb dL_isPlayed_133 (by decide) ?_
      refine lv_topi (fun k_10 ek_10 => ?_)
      obtain rfl : k_10 = nI (Z % 100) := ek_10.trans (pk_rem (a := Z) (d := 100) (by omega) (by omega) (by omega))
      refine lv_iadd hx hb dL_isPlayed_134 ?_
      refine lv_topi (fun k_11 ek_11 => ?_)
      obtain rfl : k_11 = nI (1 + (Z % 100)) := ek_11.trans (nI_add 1 (Z % 100))
      have hC : cO tc w_6 oa d tk st := cO_g hC hI.1 (fun k hk => by rw [ew_6, gU_ne _ _ (by omega)])
      obtain ⟨fsz_12, z_12⟩ := cO_z hC
      refine g_callV (rest := []) (As := [.int (nI (1 + (Z % 100)))]) hE hG hl.1 (k_days l hfl D tc A w_6 oa d tk st (nI (1 + (Z % 100))) hC hI.1 (go_days (by omega) (by omega) hg2)) z_12 rfl mw2_123 mw2_124 mw2_125 mw1_1 mw2_126 rfl nm_X5_days ⟨⟨Nat.le_of_ble_eq_true rfl, Nat.le_of_ble_eq_true rfl⟩, Nat.le_of_ble_eq_true rfl, Nat.le_of_ble_eq_true rfl⟩ rfl rfl (Nat.le_of_ble_eq_true rfl) dL_isPlayed_135 (g_no) ?_
      intro v9 w_13 H locs h9 hG
      obtain ⟨e9, hC, g_14⟩ := h9
      rw [e9]; clear e9
      show W p l e _ s m args below meth c H locs _ _ _ (F0 m 138 ls [.int (d 9 11 + (nI (1 + (Z % 100))) - (d 9 11 + (nI (1 + (Z % 100)))) / 5 * 5)])
      have h_15 : w_13 1000 = some (ac, .inl (tc 1, 15, .inr (.inl gc))) := (g_14 1000 (by decide)).trans h_7
      have h_16 : w_13 1002 = some (ap, .inl (tc 0, 32, .inl gp)) := (g_14 1002 (by decide)).trans h_8
      have h_17 : w_13 1001 = some (am, .inl (tc 0, 19, .inl (upd gm 13 (nI (((nT + 1) + (Z % 100)) % 5))))) := (g_14 1001 (by decide)).trans h_9
      refine lv_aload_n hx hb dL_isPlayed_138 rfl (lv_at hl 2 rfl) ?_
      refine lv_bipush (v := 13) hx hb dL_isPlayed_139 (by decide) ?_
      refine g_ialdN hE hG h_17 13 rfl (by decide) (by decide) dL_isPlayed_141 ?_
      rw [show ((upd gm 13 (nI (((nT + 1) + (Z % 100)) % 5))) 13) = (nI (((nT + 1) + (Z % 100)) % 5)) from pk_us]
      refine lv_icmp_ne (tgt := 149) hx hb dL_isPlayed_142 (by decide) (fun c9 => (c9 (by rw [enT, nI_add, show (5 : Int32) = nI 5 from rfl, pk_rem (by omega) (by decide) (by decide), show nT + (1 + Z % 100) = nT + 1 + Z % 100 by omega])).elim) (fun c9 => ?_)
      refine lv_iconst (v := 1) hx hb dL_isPlayed_145 (by decide) ?_
      refine lv_goto (tgt := 150) hx hb dL_isPlayed_146 (by decide) ?_
      subst hQ
      exact g_zret hE hG hr (by decide) (Nat.le_of_ble_eq_true rfl) (Nat.le_of_ble_eq_true rfl) dL_isPlayed_150 ⟨rfl, _, _, _, _, _, _, hC, h_15, h_17, h_16, iOk_up (I_days hI) (by omega), ⟨(rA_cg hRA rfl rfl rfl rfl rfl rfl rfl (fun i hi => rfl) (fun i hi => pk_un (by omega))), ⟨⟨hm4, hm5, hm6, hm7, hm8, hm9, hm10, hm11, hm12, (show d 9 11 + nI (1 + Z % 100) - (d 9 11 + nI (1 + Z % 100)) / 5 * 5 = nI ((nT + 1 + Z % 100) % 5) by rw [enT, nI_add, show (5 : Int32) = nI 5 from rfl, pk_rem (by omega) (by decide) (by decide), show nT + (1 + Z % 100) = nT + 1 + Z % 100 by omega]).symm, hm14⟩, h01, ⟨nV, hnV, enV⟩, ⟨nE, hnE, enE⟩, ⟨_, Nat.mod_lt _ (by decide), (show d 9 11 + nI (1 + Z % 100) - (d 9 11 + nI (1 + Z % 100)) / 5 * 5 = nI ((nT + 1 + Z % 100) % 5) by rw [enT, nI_add, show (5 : Int32) = nI 5 from rfl, pk_rem (by omega) (by decide) (by decide), show nT + (1 + Z % 100) = nT + 1 + Z % 100 by omega])⟩, ⟨nY, hnY, enY⟩, hb9⟩, hRT, (rU_cg hRU rfl rfl rfl rfl rfl (fun k hk => rfl) (fun u hu => pk_un (by omega))), hRP⟩⟩
    · skip
      have hg4 := hm4.trans hg2
      have hg9 : ¬ d 9 2 = 0 := by rw [hg2]; decide
      obtain ⟨i, q, pl, tt, b, v, g, ge, hi, hq1, hq4, hpl, ht, hb1, hb2, hv, hg, hge, hlen, hgi, x3, x4, x5, x6, x7, x8, x9⟩ := play_in hI hR hg9 (by omega)
      refine lv_aload_n hx hb dL_isPlayed_103 rfl (lv_at hl 2 rfl) ?_
      refine lv_iconst (v := 4) hx hb dL_isPlayed_104 (by decide) ?_
      refine g_ialdN hE hG h2 4 rfl (by decide) (by decide) dL_isPlayed_105 ?_
      rw [hg4]
      refine lv_if_ne (tgt := 151) hx hb dL_isPlayed_106 (by decide) (fun _ => ?_) (fun c9 => absurd c9 (by decide))
      refine lv_iload_n hx hb dL_isPlayed_151 rfl (lv_at hl 3 rfl) ?_
      refine lv_iconst (v := 1) hx hb dL_isPlayed_152 (by decide) ?_
      refine lv_icmp_ne (tgt := 286) hx hb dL_isPlayed_153 (by decide) (fun c_18 => ?_) (fun c_18 => ?_)
      · skip
        have nc_18 : ¬ (way = 1) := fun h9 => c_18 ((nI_eq (a := way) (b := 1) (by omega) (by omega)).mpr h9)
        refine lv_iconst (v := 1) hx hb dL_isPlayed_286 (by decide) ?_
        refine lv_iload hx hb dL_isPlayed_287 (lv_at hl 4 rfl) ?_
        refine lv_iload hx hb dL_isPlayed_289 (lv_at hl 4 rfl) ?_
        refine lv_bipush (v := 100) hx hb dL_isPlayed_291 (by decide) ?_
        refine lv_idiv hx hb dL_isPlayed_293 (by decide) ?_
        refine lv_topi (fun k_19 ek_19 => ?_)
        obtain rfl : k_19 = nI (Z / 100) := ek_19.trans (pk_div (a := Z) (d := 100) (by omega) (by omega) (by omega))
        refine lv_iconst (v := 3) hx hb dL_isPlayed_294 (by decide) ?_
        refine lv_irem hx hb dL_isPlayed_295 (by decide) ?_
        refine lv_topi (fun k_20 ek_20 => ?_)
        obtain rfl : k_20 = nI ((Z / 100) % 3) := ek_20.trans (pk_rem (a := (Z / 100)) (d := 3) (by omega) (by omega) (by omega))
        have j_22 : ∀ (v_21 : Int32) (H : Heap) (locs : List Loc), v_21 = (if (nI ((Z / 100) % 3)) = 0 then 100 else 12 : Int32) → gS D A s.heap w H locs → W p l e rm_L_isPlayed s m args below meth c H locs 0 0 Q (F0 m 306 ls (.int v_21 :: [.int (nI Z), .int 1])) := by
          intro v_21 H locs ev_21 hG
          obtain ⟨dv, hdv1, hdv2, edv⟩ : ∃ dv, 12 ≤ dv ∧ dv ≤ 100 ∧ v_21 = nI dv := by
            rw [ev_21]
            repeat' split
            all_goals first | exact ⟨100, by omega, by omega, rfl⟩ | exact ⟨12, by omega, by omega, rfl⟩
          rw [edv]
          have hmd : Z % dv < dv := Nat.mod_lt _ (by omega)
          refine lv_irem hx hb dL_isPlayed_306 (nI_ne0 (by omega) (by omega)) ?_
          refine lv_topi (fun k_23 ek_23 => ?_)
          obtain rfl : k_23 = nI (Z % dv) := ek_23.trans (pk_rem (a := Z) (d := dv) (by omega) (by omega) (by omega))
          refine lv_iadd hx hb dL_isPlayed_307 ?_
          refine lv_topi (fun k_24 ek_24 => ?_)
          obtain rfl : k_24 = nI (1 + (Z % dv)) := ek_24.trans (nI_add 1 (Z % dv))
          refine lv_topi (fun k_25 ek_25 => ?_)
          obtain ⟨my, hmy1, hmy2, rfl⟩ : ∃ my : Nat, 1 ≤ my ∧ my ≤ 100 ∧ k_25 = nI my := ⟨1 + Z % dv, by omega, by omega, ek_25⟩
          refine lv_istore (lv' := [(5, .int (nI my)), (0, .ref oa), (1, .ref ac), (2, .ref am), (3, .int (nI way)), (4, .int (nI Z))]) hx hb dL_isPlayed_308 hl (by decide) rfl (fun ls hl => ?_)
          refine lv_iconst (v := 0) hx hb dL_isPlayed_310 (by decide) ?_
          refine lv_istore (lv' := [(6, .int 0), (5, .int (nI my)), (0, .ref oa), (1, .ref ac), (2, .ref am), (3, .int (nI way)), (4, .int (nI Z))]) hx hb dL_isPlayed_311 hl (by decide) rfl (fun ls hl => ?_)
          have hI0 : iOk (sL d 0) B := hI
          have hR0 : rl (sL d 0) tk st gc gm gp := hR
          have hex : ∀ (n : Nat) (ds : gDt) (tks : Int64) (sts : Nat → Int64) (gc2 : Nat → Int64) (gm2 : Nat → Int32) (w2 : gW) (H : Heap) (locs : List Loc) (ls : Array Slot), n ≤ my → m_bt my (sL d 0) tk st = (n, ds, tks, sts) → w2 1000 = some (ac, .inl (tc 1, 15, .inr (.inl gc2))) → w2 1001 = some (am, .inl (tc 0, 19, .inl gm2)) → (∀ k, k ≠ 1000 → k ≠ 1001 → w2 k = w k) → iOk ds (B + n) → rl ds tks sts gc2 gm2 gp → gS D A s.heap w2 H locs → lv_has ls 7 [(6, .int (nI n)), (5, .int (nI my)), (0, .ref oa), (1, .ref ac), (2, .ref am), (3, .int (nI way)), (4, .int (nI Z))] → W p l e rm_L_isPlayed s m args below meth c H locs 0 0 Q (F0 m 338 ls []) := by
            intro n ds tks sts gc2 gm2 w2 H locs ls hn hbt z1 z2 hfr hIs hRs hG hl
            have hC : cO tc w2 oa d tk st := cO_g hC hI.1 (fun k hk => hfr k (by omega) (by omega))
            have z3 := (hfr 1002 (by decide) (by decide)).trans h3
            refine lv_aload_n hx hb dL_isPlayed_338 rfl (lv_at hl 2 rfl) ?_
            refine lv_iload hx hb dL_isPlayed_339 (lv_at hl 1 rfl) ?_
            obtain ⟨fsz_26, z_26⟩ := cO_z hC
            refine g_callV (rest := []) (As := [.int (nI my)]) hE hG hl.1 (k_beats l hfl D tc A w2 oa d tk st (nI my) B hC hI.1 (by omega) hI.2.2.2.2.2 (go_beats hmy1 hmy2 hg2)) z_26 rfl mw2_152 mw2_153 mw2_154 mw1_1 mw2_155 rfl nm_X5_beats ⟨⟨Nat.le_of_ble_eq_true rfl, Nat.le_of_ble_eq_true rfl⟩, Nat.le_of_ble_eq_true rfl, Nat.le_of_ble_eq_true rfl⟩ rfl rfl (Nat.le_of_ble_eq_true rfl) dL_isPlayed_341 (g_no) ?_
            intro v9 w_27 H locs h9 hG
            obtain ⟨e9, hC, g_28⟩ := h9
            rw [e9]; clear e9
            show W p l e _ s m args below meth c H locs _ _ _ (F0 m 344 ls [.int (nI (m_bt (nI my).toNatClampNeg (sL d 0) tk st).1)])
            have h_29 : w_27 1000 = some (ac, .inl (tc 1, 15, .inr (.inl gc2))) := (g_28 1000 (by decide)).trans z1
            have h_30 : w_27 1001 = some (am, .inl (tc 0, 19, .inl gm2)) := (g_28 1001 (by decide)).trans z2
            have h_31 : w_27 1002 = some (ap, .inl (tc 0, 32, .inl gp)) := (g_28 1002 (by decide)).trans z3
            refine lv_iload hx hb dL_isPlayed_344 (lv_at hl 0 rfl) ?_
            refine lv_icmp_ne (tgt := 353) hx hb dL_isPlayed_346 (by decide) (fun c9 => (c9 (by rw [nI_clamp (by omega), hbt])).elim) (fun c9 => ?_)
            refine lv_iconst (v := 1) hx hb dL_isPlayed_349 (by decide) ?_
            refine lv_goto (tgt := 354) hx hb dL_isPlayed_350 (by decide) ?_
            rw [nI_clamp (by omega), hbt] at hC
            subst hQ
            exact g_zret hE hG hr (by decide) (Nat.le_of_ble_eq_true rfl) (Nat.le_of_ble_eq_true rfl) dL_isPlayed_354 ⟨rfl, _, _, _, _, _, _, hC, h_29, h_30, h_31, iOk_up hIs (by omega), hRs⟩
          have hloop : ∀ (kv n : Nat) (ds : gDt) (tks : Int64) (sts : Nat → Int64) (gc2 : Nat → Int64) (gm2 : Nat → Int32) (w2 : gW) (H : Heap) (locs : List Loc) (ls : Array Slot), n + kv = my → m_bt my (sL d 0) tk st = ((m_bt kv ds tks sts).1 + n, (m_bt kv ds tks sts).2) → w2 1000 = some (ac, .inl (tc 1, 15, .inr (.inl gc2))) → w2 1001 = some (am, .inl (tc 0, 19, .inl gm2)) → (∀ k, k ≠ 1000 → k ≠ 1001 → w2 k = w k) → iOk ds (B + n) → rl ds tks sts gc2 gm2 gp → gS D A s.heap w2 H locs → lv_has ls 7 [(6, .int (nI n)), (5, .int (nI my)), (0, .ref oa), (1, .ref ac), (2, .ref am), (3, .int (nI way)), (4, .int (nI Z))] → W p l e rm_L_isPlayed s m args below meth c H locs 0 0 Q (F0 m 313 ls []) := by
            intro kv
            induction kv with
            | zero =>
              intro n ds tks sts gc2 gm2 w2 H locs ls hn hbt z1 z2 hfr hIs hRs hG hl
              refine lv_iload hx hb dL_isPlayed_313 (lv_at hl 0 rfl) ?_
              refine lv_iload hx hb dL_isPlayed_315 (lv_at hl 1 rfl) ?_
              refine lv_icmp_ge (tgt := 338) hx hb dL_isPlayed_317 (by decide) (fun c9 => ?_) (fun c9 => (c9 ((nI_leI (a := my) (b := n) (by omega) (by omega)).mpr (by omega))).elim)
              exact hex n ds tks sts gc2 gm2 _ _ _ _ (by omega) (by rw [hbt]; show ((0 : Nat) + n, (ds, tks, sts)) = _; rw [Nat.zero_add]) z1 z2 hfr hIs hRs hG hl
            | succ kv ih =>
              intro n ds tks sts gc2 gm2 w2 H locs ls hn hbt z1 z2 hfr hIs hRs hG hl
              rcases hRs.2.1.2.1 with hs2 | hs2
              · skip
                have hs4 := hRs.2.1.1.1.trans hs2
                refine lv_iload hx hb dL_isPlayed_313 (lv_at hl 0 rfl) ?_
                refine lv_iload hx hb dL_isPlayed_315 (lv_at hl 1 rfl) ?_
                refine lv_icmp_ge (tgt := 338) hx hb dL_isPlayed_317 (by decide) (fun c9 => absurd c9 (fun h9 => absurd ((nI_leI (a := my) (b := n) (by omega) (by omega)).mp h9) (by omega))) (fun c9 => ?_)
                refine lv_aload_n hx hb dL_isPlayed_320 rfl (lv_at hl 4 rfl) ?_
                refine lv_iconst (v := 4) hx hb dL_isPlayed_321 (by decide) ?_
                refine g_ialdN hE hG z2 4 rfl (by decide) (by decide) dL_isPlayed_322 ?_
                rw [hs4]
                refine lv_iconst (v := 1) hx hb dL_isPlayed_323 (by decide) ?_
                refine lv_icmp_ne (tgt := 338) hx hb dL_isPlayed_324 (by decide) (fun _ => ?_) (fun c9 => absurd c9 (by decide))
                have e0 : m_bt (kv + 1) ds tks sts = (0, ds, tks, sts) := by show (if _ then _ else _) = _; rw [if_pos hs2]
                exact hex n ds tks sts gc2 gm2 _ _ _ _ (by omega) (by rw [hbt, e0, Nat.zero_add]) z1 z2 hfr hIs hRs hG hl
              · skip
                have hs4 := hRs.2.1.1.1.trans hs2
                have hs9 : ¬ ds 9 2 = 0 := by rw [hs2]; decide
                have e1 : m_bt (kv + 1) ds tks sts = ((m_bt kv (mB ds) (tks + (ds 9 5).toInt64) (m_sts (ds 9 6) sts)).1 + 1, (m_bt kv (mB ds) (tks + (ds 9 5).toInt64) (m_sts (ds 9 6) sts)).2) := by show (if _ then _ else _) = _; rw [if_neg hs9]
                refine lv_iload hx hb dL_isPlayed_313 (lv_at hl 0 rfl) ?_
                refine lv_iload hx hb dL_isPlayed_315 (lv_at hl 1 rfl) ?_
                refine lv_icmp_ge (tgt := 338) hx hb dL_isPlayed_317 (by decide) (fun c9 => absurd c9 (fun h9 => absurd ((nI_leI (a := my) (b := n) (by omega) (by omega)).mp h9) (by omega))) (fun c9 => ?_)
                refine lv_aload_n hx hb dL_isPlayed_320 rfl (lv_at hl 4 rfl) ?_
                refine lv_iconst (v := 4) hx hb dL_isPlayed_321 (by decide) ?_
                refine g_ialdN hE hG z2 4 rfl (by decide) (by decide) dL_isPlayed_322 ?_
                rw [hs4]
                refine lv_iconst (v := 1) hx hb dL_isPlayed_323 (by decide) ?_
                refine lv_icmp_ne (tgt := 338) hx hb dL_isPlayed_324 (by decide) (fun c9 => (c9 (by decide)).elim) (fun _ => ?_)
                refine lv_aload_n hx hb dL_isPlayed_327 rfl (lv_at hl 3 rfl) ?_
                refine lv_aload_n hx hb dL_isPlayed_328 rfl (lv_at hl 4 rfl) ?_
                refine g_callS (rest := []) (As := [.ref ac, .ref am]) hE hG hl.1 (c_L_play l hfl D tc A w2 ac am ds tks sts gc2 gm2 gp (B + n) z1 z2 hIs hRs hs9 (by omega)) mw2_146 mw2_147 mw1_0 mw2_148 nm_L_play ⟨⟨Nat.le_of_ble_eq_true rfl, Nat.le_of_ble_eq_true rfl⟩, Nat.le_of_ble_eq_true rfl, Nat.le_of_ble_eq_true rfl⟩ rfl rfl (Nat.le_of_ble_eq_true rfl) dL_isPlayed_329 (g_no) ?_
                intro v9 w3 H locs h9 hG
                obtain ⟨e9v, ⟨gc3, gm3, z1, z2, hR3⟩, hfr3⟩ := h9
                rw [e9v]; clear e9v
                show W p l e _ s m args below meth c H locs _ _ _ (F0 m 332 ls [])
                refine lv_iinc (v := (nI (n + 1))) (lv' := [(6, .int (nI (n + 1))), (5, .int (nI my)), (0, .ref oa), (1, .ref ac), (2, .ref am), (3, .int (nI way)), (4, .int (nI Z))]) hx hb dL_isPlayed_332 hl (k := 0) rfl (nI_add n 1) (by decide) rfl (fun ls hl => ?_)
                refine lv_goto (tgt := 313) hx hb dL_isPlayed_335 (by decide) ?_
                exact ih (n + 1) _ _ _ gc3 gm3 w3 _ _ _ (by omega) (by rw [hbt, e1, Nat.add_assoc, Nat.add_comm 1 n]) z1 z2 (fun k k1 k2 => (hfr3 k k1 k2).trans (hfr k k1 k2)) (iOk_B hIs hs9) hR3 hG (lv_sub hl [0, 1, 2, 3, 4, 5, 6] rfl)
          exact hloop my 0 (sL d 0) tk st gc gm w _ _ _ (by omega) (by rw [Nat.add_zero]) h1 h2 (fun _ _ _ => rfl) hI0 hR0 hG hl
        refine lv_if_ne (tgt := 304) hx hb dL_isPlayed_296 (by decide) (fun c_32 => ?_) (fun c_32 => ?_)
        · skip
          refine lv_bipush (v := 12) hx hb dL_isPlayed_304 (by decide) ?_
          exact j_22 _ _ _ (by rw [if_neg c_32]) hG
        · skip
          refine lv_bipush (v := 100) hx hb dL_isPlayed_299 (by decide) ?_
          refine lv_goto (tgt := 306) hx hb dL_isPlayed_301 (by decide) ?_
          exact j_22 _ _ _ (by rw [if_pos c_32]) hG
      · skip
        have nc_18 : way = 1 := (nI_eq (a := way) (b := 1) (by omega) (by omega)).mp c_18
        refine lv_iload hx hb dL_isPlayed_156 (lv_at hl 4 rfl) ?_
        refine lv_iconst (v := 5) hx hb dL_isPlayed_158 (by decide) ?_
        refine lv_irem hx hb dL_isPlayed_159 (by decide) ?_
        refine lv_topi (fun k_33 ek_33 => ?_)
        obtain rfl : k_33 = nI (Z % 5) := ek_33.trans (pk_rem (a := Z) (d := 5) (by omega) (by omega) (by omega))
        refine lv_iconst (v := 4) hx hb dL_isPlayed_160 (by decide) ?_
        have j_35 : ∀ (v_34 : Int32) (H : Heap) (locs : List Loc), v_34 = (if (nI (Z % 5)) = 4 then (if (nI ((Z / 5) % 3)) ≤ 0 then (nI (Z % 5)) else 1 : Int32) else (nI (Z % 5)) : Int32) → gS D A s.heap w H locs → W p l e rm_L_isPlayed s m args below meth c H locs 0 0 Q (F0 m 181 ls (.int v_34 :: [])) := by
          intro v_34 H locs ev_34 hG
          obtain ⟨wh, hwh, ewh⟩ : ∃ wh, wh < 5 ∧ v_34 = nI wh := by
            rw [ev_34]
            repeat' split
            all_goals first | exact ⟨1, by omega, rfl⟩ | exact ⟨Z % 5, Nat.mod_lt _ (by omega), rfl⟩
          rw [ewh]
          rcases (show wh = 0 ∨ wh = 1 ∨ wh = 2 ∨ wh = 3 ∨ wh = 4 by omega) with ewl | ewl | ewl | ewl | ewl
          · skip
            rw [ewl]
            show W p l e _ s m args below meth c H locs _ _ _ (F0 m 181 ls [.int 0])
            refine lv_istore (lv' := [(5, .int 0), (0, .ref oa), (1, .ref ac), (2, .ref am), (3, .int (nI way)), (4, .int (nI Z))]) hx hb dL_isPlayed_181 hl (by decide) rfl (fun ls hl => ?_)
            refine lv_aload_n hx hb dL_isPlayed_183 rfl (lv_at hl 3 rfl) ?_
            refine lv_iconst (v := 4) hx hb dL_isPlayed_184 (by decide) ?_
            refine lv_iload hx hb dL_isPlayed_185 (lv_at hl 0 rfl) ?_
            refine lv_iconst (v := 4) hx hb dL_isPlayed_187 (by decide) ?_
            refine lv_icmp_ne (tgt := 195) hx hb dL_isPlayed_188 (by decide) (fun _ => ?_) (fun c9 => absurd c9 (by decide))
            refine lv_iconst (v := 1) hx hb dL_isPlayed_195 (by decide) ?_
            refine g_iastN hE hG h2 4 rfl (by decide) (by decide) dL_isPlayed_196 (fun H locs w_36 ew_36 hG => ?_)
            have h_37 : w_36 1000 = some (ac, .inl (tc 1, 15, .inr (.inl gc))) := gU_n ew_36 (by decide) h1
            have h_38 : w_36 1002 = some (ap, .inl (tc 0, 32, .inl gp)) := gU_n ew_36 (by decide) h3
            have h_39 : w_36 1001 = some (am, .inl (tc 0, 19, .inl (upd gm 4 1))) := gU_s ew_36
            refine lv_aload_n hx hb dL_isPlayed_197 rfl (lv_at hl 3 rfl) ?_
            refine lv_bipush (v := 10) hx hb dL_isPlayed_198 (by decide) ?_
            refine lv_iload hx hb dL_isPlayed_200 (lv_at hl 0 rfl) ?_
            refine lv_iconst (v := 3) hx hb dL_isPlayed_202 (by decide) ?_
            refine lv_icmp_ge (tgt := 211) hx hb dL_isPlayed_203 (by decide) (fun c9 => absurd c9 (by decide)) (fun _ => ?_)
            refine lv_iload hx hb dL_isPlayed_206 (lv_at hl 0 rfl) ?_
            refine lv_goto (tgt := 215) hx hb dL_isPlayed_208 (by decide) ?_
            refine g_iastN hE hG h_39 10 rfl (by decide) (by decide) dL_isPlayed_215 (fun H locs w_40 ew_40 hG => ?_)
            have h_41 : w_40 1000 = some (ac, .inl (tc 1, 15, .inr (.inl gc))) := gU_n ew_40 (by decide) h_37
            have h_42 : w_40 1002 = some (ap, .inl (tc 0, 32, .inl gp)) := gU_n ew_40 (by decide) h_38
            have h_43 : w_40 1001 = some (am, .inl (tc 0, 19, .inl (upd (upd gm 4 1) 10 0))) := gU_s ew_40
            refine lv_aload_n hx hb dL_isPlayed_216 rfl (lv_at hl 3 rfl) ?_
            refine lv_bipush (v := 11) hx hb dL_isPlayed_217 (by decide) ?_
            refine lv_iload hx hb dL_isPlayed_219 (lv_at hl 0 rfl) ?_
            refine lv_iconst (v := 3) hx hb dL_isPlayed_221 (by decide) ?_
            refine lv_icmp_ne (tgt := 262) hx hb dL_isPlayed_222 (by decide) (fun _ => ?_) (fun c9 => absurd c9 (by decide))
            refine lv_aload_n hx hb dL_isPlayed_262 rfl (lv_at hl 3 rfl) ?_
            refine lv_bipush (v := 11) hx hb dL_isPlayed_263 (by decide) ?_
            refine g_ialdN hE hG h_43 11 rfl (by decide) (by decide) dL_isPlayed_265 ?_
            rw [show ((upd (upd gm 4 1) 10 0) 11) = (gm 11) from ((pk_un (by omega)).trans (pk_un (by omega)))]
            rw [hm11n]
            refine g_iastN hE hG h_43 11 rfl (by decide) (by decide) dL_isPlayed_266 (fun H locs w_44 ew_44 hG => ?_)
            have h_45 : w_44 1000 = some (ac, .inl (tc 1, 15, .inr (.inl gc))) := gU_n ew_44 (by decide) h_41
            have h_46 : w_44 1002 = some (ap, .inl (tc 0, 32, .inl gp)) := gU_n ew_44 (by decide) h_42
            have h_47 : w_44 1001 = some (am, .inl (tc 0, 19, .inl (upd (upd (upd gm 4 1) 10 0) 11 (nI nE)))) := gU_s ew_44
            refine lv_aload_n hx hb dL_isPlayed_267 rfl (lv_at hl 1 rfl) ?_
            refine lv_iload hx hb dL_isPlayed_268 (lv_at hl 0 rfl) ?_
            have hC : cO tc w_44 oa d tk st := cO_g hC hI.1 (fun k hk => by rw [ew_44, gU_ne _ _ (by omega), ew_40, gU_ne _ _ (by omega), ew_36, gU_ne _ _ (by omega)])
            obtain ⟨fsz_48, z_48⟩ := cO_z hC
            refine g_callV (rest := []) (As := [.int 0]) hE hG hl.1 (k_drum l hfl D tc A w_44 oa d tk st 0 B hC hI.1 (by omega) hI.2.2.2.2.2 (go_drum (x := 0) (by decide) hg2)) z_48 rfl mw2_128 mw2_129 mw2_130 mw1_1 mw2_131 rfl nm_X5_drum ⟨⟨Nat.le_of_ble_eq_true rfl, Nat.le_of_ble_eq_true rfl⟩, Nat.le_of_ble_eq_true rfl, Nat.le_of_ble_eq_true rfl⟩ rfl rfl (Nat.le_of_ble_eq_true rfl) dL_isPlayed_270 (g_no) ?_
            intro v9 w_49 H locs h9 hG
            obtain ⟨e9, hC, g_50⟩ := h9
            rw [e9]; clear e9
            show W p l e _ s m args below meth c H locs _ _ _ (F0 m 273 ls [.int (d 9 4)])
            have h_51 : w_49 1000 = some (ac, .inl (tc 1, 15, .inr (.inl gc))) := (g_50 1000 (by decide)).trans h_45
            have h_52 : w_49 1002 = some (ap, .inl (tc 0, 32, .inl gp)) := (g_50 1002 (by decide)).trans h_46
            have h_53 : w_49 1001 = some (am, .inl (tc 0, 19, .inl (upd (upd (upd gm 4 1) 10 0) 11 (nI nE)))) := (g_50 1001 (by decide)).trans h_47
            refine lv_aload_n hx hb dL_isPlayed_273 rfl (lv_at hl 3 rfl) ?_
            refine lv_bipush (v := 6) hx hb dL_isPlayed_274 (by decide) ?_
            refine g_ialdN hE hG h_53 6 rfl (by decide) (by decide) dL_isPlayed_276 ?_
            rw [show ((upd (upd (upd gm 4 1) 10 0) 11 (nI nE)) 6) = (gm 6) from ((pk_un (by omega)).trans ((pk_un (by omega)).trans (pk_un (by omega))))]
            rw [(hm6.trans x4)]
            refine lv_icmp_ne (tgt := 284) hx hb dL_isPlayed_277 (by decide) (fun c9 => (c9 x4).elim) (fun c9 => ?_)
            refine lv_iconst (v := 1) hx hb dL_isPlayed_280 (by decide) ?_
            refine lv_goto (tgt := 285) hx hb dL_isPlayed_281 (by decide) ?_
            have edr : m_drum d 0 = gD d 9 (upd (d 9) 8 0) := by unfold m_drum; rw [if_neg (by decide), if_neg (by decide)]
            subst hQ
            exact g_zret hE hG hr (by decide) (Nat.le_of_ble_eq_true rfl) (Nat.le_of_ble_eq_true rfl) dL_isPlayed_285 ⟨rfl, _, _, _, _, _, _, hC, h_51, h_53, h_52, iOk_up (I_drum hI (go_drum (x := 0) (by decide) hg2)) (by omega), (by rw [edr]; exact ⟨(rA_cg hRA rfl rfl rfl rfl rfl rfl rfl (fun i hi => rfl) (fun i hi => (pk_un (by omega)).trans ((pk_un (by omega)).trans (pk_un (by omega))))), ⟨⟨hg2.symm, hm5, hm6, hm7, hm8, hm9, rfl, enE.symm, hm12, hm13, hm14⟩, h01, ⟨nV, hnV, enV⟩, ⟨nE, hnE, enE⟩, ⟨nT, hnT, enT⟩, ⟨nY, hnY, enY⟩, hb9⟩, hRT, (rU_cg hRU rfl rfl rfl rfl rfl (fun k hk => rfl) (fun u hu => (pk_un (by omega)).trans ((pk_un (by omega)).trans (pk_un (by omega))))), hRP⟩)⟩
          · skip
            rw [ewl]
            show W p l e _ s m args below meth c H locs _ _ _ (F0 m 181 ls [.int 1])
            refine lv_istore (lv' := [(5, .int 1), (0, .ref oa), (1, .ref ac), (2, .ref am), (3, .int (nI way)), (4, .int (nI Z))]) hx hb dL_isPlayed_181 hl (by decide) rfl (fun ls hl => ?_)
            refine lv_aload_n hx hb dL_isPlayed_183 rfl (lv_at hl 3 rfl) ?_
            refine lv_iconst (v := 4) hx hb dL_isPlayed_184 (by decide) ?_
            refine lv_iload hx hb dL_isPlayed_185 (lv_at hl 0 rfl) ?_
            refine lv_iconst (v := 4) hx hb dL_isPlayed_187 (by decide) ?_
            refine lv_icmp_ne (tgt := 195) hx hb dL_isPlayed_188 (by decide) (fun _ => ?_) (fun c9 => absurd c9 (by decide))
            refine lv_iconst (v := 1) hx hb dL_isPlayed_195 (by decide) ?_
            refine g_iastN hE hG h2 4 rfl (by decide) (by decide) dL_isPlayed_196 (fun H locs w_54 ew_54 hG => ?_)
            have h_55 : w_54 1000 = some (ac, .inl (tc 1, 15, .inr (.inl gc))) := gU_n ew_54 (by decide) h1
            have h_56 : w_54 1002 = some (ap, .inl (tc 0, 32, .inl gp)) := gU_n ew_54 (by decide) h3
            have h_57 : w_54 1001 = some (am, .inl (tc 0, 19, .inl (upd gm 4 1))) := gU_s ew_54
            refine lv_aload_n hx hb dL_isPlayed_197 rfl (lv_at hl 3 rfl) ?_
            refine lv_bipush (v := 10) hx hb dL_isPlayed_198 (by decide) ?_
            refine lv_iload hx hb dL_isPlayed_200 (lv_at hl 0 rfl) ?_
            refine lv_iconst (v := 3) hx hb dL_isPlayed_202 (by decide) ?_
            refine lv_icmp_ge (tgt := 211) hx hb dL_isPlayed_203 (by decide) (fun c9 => absurd c9 (by decide)) (fun _ => ?_)
            refine lv_iload hx hb dL_isPlayed_206 (lv_at hl 0 rfl) ?_
            refine lv_goto (tgt := 215) hx hb dL_isPlayed_208 (by decide) ?_
            refine g_iastN hE hG h_57 10 rfl (by decide) (by decide) dL_isPlayed_215 (fun H locs w_58 ew_58 hG => ?_)
            have h_59 : w_58 1000 = some (ac, .inl (tc 1, 15, .inr (.inl gc))) := gU_n ew_58 (by decide) h_55
            have h_60 : w_58 1002 = some (ap, .inl (tc 0, 32, .inl gp)) := gU_n ew_58 (by decide) h_56
            have h_61 : w_58 1001 = some (am, .inl (tc 0, 19, .inl (upd (upd gm 4 1) 10 1))) := gU_s ew_58
            refine lv_aload_n hx hb dL_isPlayed_216 rfl (lv_at hl 3 rfl) ?_
            refine lv_bipush (v := 11) hx hb dL_isPlayed_217 (by decide) ?_
            refine lv_iload hx hb dL_isPlayed_219 (lv_at hl 0 rfl) ?_
            refine lv_iconst (v := 3) hx hb dL_isPlayed_221 (by decide) ?_
            refine lv_icmp_ne (tgt := 262) hx hb dL_isPlayed_222 (by decide) (fun _ => ?_) (fun c9 => absurd c9 (by decide))
            refine lv_aload_n hx hb dL_isPlayed_262 rfl (lv_at hl 3 rfl) ?_
            refine lv_bipush (v := 11) hx hb dL_isPlayed_263 (by decide) ?_
            refine g_ialdN hE hG h_61 11 rfl (by decide) (by decide) dL_isPlayed_265 ?_
            rw [show ((upd (upd gm 4 1) 10 1) 11) = (gm 11) from ((pk_un (by omega)).trans (pk_un (by omega)))]
            rw [hm11n]
            refine g_iastN hE hG h_61 11 rfl (by decide) (by decide) dL_isPlayed_266 (fun H locs w_62 ew_62 hG => ?_)
            have h_63 : w_62 1000 = some (ac, .inl (tc 1, 15, .inr (.inl gc))) := gU_n ew_62 (by decide) h_59
            have h_64 : w_62 1002 = some (ap, .inl (tc 0, 32, .inl gp)) := gU_n ew_62 (by decide) h_60
            have h_65 : w_62 1001 = some (am, .inl (tc 0, 19, .inl (upd (upd (upd gm 4 1) 10 1) 11 (nI nE)))) := gU_s ew_62
            refine lv_aload_n hx hb dL_isPlayed_267 rfl (lv_at hl 1 rfl) ?_
            refine lv_iload hx hb dL_isPlayed_268 (lv_at hl 0 rfl) ?_
            have hC : cO tc w_62 oa d tk st := cO_g hC hI.1 (fun k hk => by rw [ew_62, gU_ne _ _ (by omega), ew_58, gU_ne _ _ (by omega), ew_54, gU_ne _ _ (by omega)])
            obtain ⟨fsz_66, z_66⟩ := cO_z hC
            refine g_callV (rest := []) (As := [.int 1]) hE hG hl.1 (k_drum l hfl D tc A w_62 oa d tk st 1 B hC hI.1 (by omega) hI.2.2.2.2.2 (go_drum (x := 1) (by decide) hg2)) z_66 rfl mw2_128 mw2_129 mw2_130 mw1_1 mw2_131 rfl nm_X5_drum ⟨⟨Nat.le_of_ble_eq_true rfl, Nat.le_of_ble_eq_true rfl⟩, Nat.le_of_ble_eq_true rfl, Nat.le_of_ble_eq_true rfl⟩ rfl rfl (Nat.le_of_ble_eq_true rfl) dL_isPlayed_270 (g_no) ?_
            intro v9 w_67 H locs h9 hG
            obtain ⟨e9, hC, g_68⟩ := h9
            rw [e9]; clear e9
            show W p l e _ s m args below meth c H locs _ _ _ (F0 m 273 ls [.int (d 9 4)])
            have h_69 : w_67 1000 = some (ac, .inl (tc 1, 15, .inr (.inl gc))) := (g_68 1000 (by decide)).trans h_63
            have h_70 : w_67 1002 = some (ap, .inl (tc 0, 32, .inl gp)) := (g_68 1002 (by decide)).trans h_64
            have h_71 : w_67 1001 = some (am, .inl (tc 0, 19, .inl (upd (upd (upd gm 4 1) 10 1) 11 (nI nE)))) := (g_68 1001 (by decide)).trans h_65
            refine lv_aload_n hx hb dL_isPlayed_273 rfl (lv_at hl 3 rfl) ?_
            refine lv_bipush (v := 6) hx hb dL_isPlayed_274 (by decide) ?_
            refine g_ialdN hE hG h_71 6 rfl (by decide) (by decide) dL_isPlayed_276 ?_
            rw [show ((upd (upd (upd gm 4 1) 10 1) 11 (nI nE)) 6) = (gm 6) from ((pk_un (by omega)).trans ((pk_un (by omega)).trans (pk_un (by omega))))]
            rw [(hm6.trans x4)]
            refine lv_icmp_ne (tgt := 284) hx hb dL_isPlayed_277 (by decide) (fun c9 => (c9 x4).elim) (fun c9 => ?_)
            refine lv_iconst (v := 1) hx hb dL_isPlayed_280 (by decide) ?_
            refine lv_goto (tgt := 285) hx hb dL_isPlayed_281 (by decide) ?_
            have edr : m_drum d 1 = gD d 9 (upd (d 9) 8 1) := by unfold m_drum; rw [if_neg (by decide), if_neg (by decide)]
            subst hQ
            exact g_zret hE hG hr (by decide) (Nat.le_of_ble_eq_true rfl) (Nat.le_of_ble_eq_true rfl) dL_isPlayed_285 ⟨rfl, _, _, _, _, _, _, hC, h_69, h_71, h_70, iOk_up (I_drum hI (go_drum (x := 1) (by decide) hg2)) (by omega), (by rw [edr]; exact ⟨(rA_cg hRA rfl rfl rfl rfl rfl rfl rfl (fun i hi => rfl) (fun i hi => (pk_un (by omega)).trans ((pk_un (by omega)).trans (pk_un (by omega))))), ⟨⟨hg2.symm, hm5, hm6, hm7, hm8, hm9, rfl, enE.symm, hm12, hm13, hm14⟩, h01, ⟨nV, hnV, enV⟩, ⟨nE, hnE, enE⟩, ⟨nT, hnT, enT⟩, ⟨nY, hnY, enY⟩, hb9⟩, hRT, (rU_cg hRU rfl rfl rfl rfl rfl (fun k hk => rfl) (fun u hu => (pk_un (by omega)).trans ((pk_un (by omega)).trans (pk_un (by omega))))), hRP⟩)⟩
          · skip
            rw [ewl]
            show W p l e _ s m args below meth c H locs _ _ _ (F0 m 181 ls [.int 2])
            refine lv_istore (lv' := [(5, .int 2), (0, .ref oa), (1, .ref ac), (2, .ref am), (3, .int (nI way)), (4, .int (nI Z))]) hx hb dL_isPlayed_181 hl (by decide) rfl (fun ls hl => ?_)
            refine lv_aload_n hx hb dL_isPlayed_183 rfl (lv_at hl 3 rfl) ?_
            refine lv_iconst (v := 4) hx hb dL_isPlayed_184 (by decide) ?_
            refine lv_iload hx hb dL_isPlayed_185 (lv_at hl 0 rfl) ?_
            refine lv_iconst (v := 4) hx hb dL_isPlayed_187 (by decide) ?_
            refine lv_icmp_ne (tgt := 195) hx hb dL_isPlayed_188 (by decide) (fun _ => ?_) (fun c9 => absurd c9 (by decide))
            refine lv_iconst (v := 1) hx hb dL_isPlayed_195 (by decide) ?_
            refine g_iastN hE hG h2 4 rfl (by decide) (by decide) dL_isPlayed_196 (fun H locs w_72 ew_72 hG => ?_)
            have h_73 : w_72 1000 = some (ac, .inl (tc 1, 15, .inr (.inl gc))) := gU_n ew_72 (by decide) h1
            have h_74 : w_72 1002 = some (ap, .inl (tc 0, 32, .inl gp)) := gU_n ew_72 (by decide) h3
            have h_75 : w_72 1001 = some (am, .inl (tc 0, 19, .inl (upd gm 4 1))) := gU_s ew_72
            refine lv_aload_n hx hb dL_isPlayed_197 rfl (lv_at hl 3 rfl) ?_
            refine lv_bipush (v := 10) hx hb dL_isPlayed_198 (by decide) ?_
            refine lv_iload hx hb dL_isPlayed_200 (lv_at hl 0 rfl) ?_
            refine lv_iconst (v := 3) hx hb dL_isPlayed_202 (by decide) ?_
            refine lv_icmp_ge (tgt := 211) hx hb dL_isPlayed_203 (by decide) (fun c9 => absurd c9 (by decide)) (fun _ => ?_)
            refine lv_iload hx hb dL_isPlayed_206 (lv_at hl 0 rfl) ?_
            refine lv_goto (tgt := 215) hx hb dL_isPlayed_208 (by decide) ?_
            refine g_iastN hE hG h_75 10 rfl (by decide) (by decide) dL_isPlayed_215 (fun H locs w_76 ew_76 hG => ?_)
            have h_77 : w_76 1000 = some (ac, .inl (tc 1, 15, .inr (.inl gc))) := gU_n ew_76 (by decide) h_73
            have h_78 : w_76 1002 = some (ap, .inl (tc 0, 32, .inl gp)) := gU_n ew_76 (by decide) h_74
            have h_79 : w_76 1001 = some (am, .inl (tc 0, 19, .inl (upd (upd gm 4 1) 10 2))) := gU_s ew_76
            refine lv_aload_n hx hb dL_isPlayed_216 rfl (lv_at hl 3 rfl) ?_
            refine lv_bipush (v := 11) hx hb dL_isPlayed_217 (by decide) ?_
            refine lv_iload hx hb dL_isPlayed_219 (lv_at hl 0 rfl) ?_
            refine lv_iconst (v := 3) hx hb dL_isPlayed_221 (by decide) ?_
            refine lv_icmp_ne (tgt := 262) hx hb dL_isPlayed_222 (by decide) (fun _ => ?_) (fun c9 => absurd c9 (by decide))
            refine lv_aload_n hx hb dL_isPlayed_262 rfl (lv_at hl 3 rfl) ?_
            refine lv_bipush (v := 11) hx hb dL_isPlayed_263 (by decide) ?_
            refine g_ialdN hE hG h_79 11 rfl (by decide) (by decide) dL_isPlayed_265 ?_
            rw [show ((upd (upd gm 4 1) 10 2) 11) = (gm 11) from ((pk_un (by omega)).trans (pk_un (by omega)))]
            rw [hm11n]
            refine g_iastN hE hG h_79 11 rfl (by decide) (by decide) dL_isPlayed_266 (fun H locs w_80 ew_80 hG => ?_)
            have h_81 : w_80 1000 = some (ac, .inl (tc 1, 15, .inr (.inl gc))) := gU_n ew_80 (by decide) h_77
            have h_82 : w_80 1002 = some (ap, .inl (tc 0, 32, .inl gp)) := gU_n ew_80 (by decide) h_78
            have h_83 : w_80 1001 = some (am, .inl (tc 0, 19, .inl (upd (upd (upd gm 4 1) 10 2) 11 (nI nE)))) := gU_s ew_80
            refine lv_aload_n hx hb dL_isPlayed_267 rfl (lv_at hl 1 rfl) ?_
            refine lv_iload hx hb dL_isPlayed_268 (lv_at hl 0 rfl) ?_
            have hC : cO tc w_80 oa d tk st := cO_g hC hI.1 (fun k hk => by rw [ew_80, gU_ne _ _ (by omega), ew_76, gU_ne _ _ (by omega), ew_72, gU_ne _ _ (by omega)])
            obtain ⟨fsz_84, z_84⟩ := cO_z hC
            refine g_callV (rest := []) (As := [.int 2]) hE hG hl.1 (k_drum l hfl D tc A w_80 oa d tk st 2 B hC hI.1 (by omega) hI.2.2.2.2.2 (go_drum (x := 2) (by decide) hg2)) z_84 rfl mw2_128 mw2_129 mw2_130 mw1_1 mw2_131 rfl nm_X5_drum ⟨⟨Nat.le_of_ble_eq_true rfl, Nat.le_of_ble_eq_true rfl⟩, Nat.le_of_ble_eq_true rfl, Nat.le_of_ble_eq_true rfl⟩ rfl rfl (Nat.le_of_ble_eq_true rfl) dL_isPlayed_270 (g_no) ?_
            intro v9 w_85 H locs h9 hG
            obtain ⟨e9, hC, g_86⟩ := h9
            rw [e9]; clear e9
            show W p l e _ s m args below meth c H locs _ _ _ (F0 m 273 ls [.int (d 9 4)])
            have h_87 : w_85 1000 = some (ac, .inl (tc 1, 15, .inr (.inl gc))) := (g_86 1000 (by decide)).trans h_81
            have h_88 : w_85 1002 = some (ap, .inl (tc 0, 32, .inl gp)) := (g_86 1002 (by decide)).trans h_82
            have h_89 : w_85 1001 = some (am, .inl (tc 0, 19, .inl (upd (upd (upd gm 4 1) 10 2) 11 (nI nE)))) := (g_86 1001 (by decide)).trans h_83
            refine lv_aload_n hx hb dL_isPlayed_273 rfl (lv_at hl 3 rfl) ?_
            refine lv_bipush (v := 6) hx hb dL_isPlayed_274 (by decide) ?_
            refine g_ialdN hE hG h_89 6 rfl (by decide) (by decide) dL_isPlayed_276 ?_
            rw [show ((upd (upd (upd gm 4 1) 10 2) 11 (nI nE)) 6) = (gm 6) from ((pk_un (by omega)).trans ((pk_un (by omega)).trans (pk_un (by omega))))]
            rw [(hm6.trans x4)]
            refine lv_icmp_ne (tgt := 284) hx hb dL_isPlayed_277 (by decide) (fun c9 => (c9 x4).elim) (fun c9 => ?_)
            refine lv_iconst (v := 1) hx hb dL_isPlayed_280 (by decide) ?_
            refine lv_goto (tgt := 285) hx hb dL_isPlayed_281 (by decide) ?_
            have edr : m_drum d 2 = gD d 9 (upd (d 9) 8 2) := by unfold m_drum; rw [if_neg (by decide), if_neg (by decide)]
            subst hQ
            exact g_zret hE hG hr (by decide) (Nat.le_of_ble_eq_true rfl) (Nat.le_of_ble_eq_true rfl) dL_isPlayed_285 ⟨rfl, _, _, _, _, _, _, hC, h_87, h_89, h_88, iOk_up (I_drum hI (go_drum (x := 2) (by decide) hg2)) (by omega), (by rw [edr]; exact ⟨(rA_cg hRA rfl rfl rfl rfl rfl rfl rfl (fun i hi => rfl) (fun i hi => (pk_un (by omega)).trans ((pk_un (by omega)).trans (pk_un (by omega))))), ⟨⟨hg2.symm, hm5, hm6, hm7, hm8, hm9, rfl, enE.symm, hm12, hm13, hm14⟩, h01, ⟨nV, hnV, enV⟩, ⟨nE, hnE, enE⟩, ⟨nT, hnT, enT⟩, ⟨nY, hnY, enY⟩, hb9⟩, hRT, (rU_cg hRU rfl rfl rfl rfl rfl (fun k hk => rfl) (fun u hu => (pk_un (by omega)).trans ((pk_un (by omega)).trans (pk_un (by omega))))), hRP⟩)⟩
          · skip
            rw [ewl]
            show W p l e _ s m args below meth c H locs _ _ _ (F0 m 181 ls [.int 3])
            refine lv_istore (lv' := [(5, .int 3), (0, .ref oa), (1, .ref ac), (2, .ref am), (3, .int (nI way)), (4, .int (nI Z))]) hx hb dL_isPlayed_181 hl (by decide) rfl (fun ls hl => ?_)
            refine lv_aload_n hx hb dL_isPlayed_183 rfl (lv_at hl 3 rfl) ?_
            refine lv_iconst (v := 4) hx hb dL_isPlayed_184 (by decide) ?_
            refine lv_iload hx hb dL_isPlayed_185 (lv_at hl 0 rfl) ?_
            refine lv_iconst (v := 4) hx hb dL_isPlayed_187 (by decide) ?_
            refine lv_icmp_ne (tgt := 195) hx hb dL_isPlayed_188 (by decide) (fun _ => ?_) (fun c9 => absurd c9 (by decide))
            refine lv_iconst (v := 1) hx hb dL_isPlayed_195 (by decide) ?_
            refine g_iastN hE hG h2 4 rfl (by decide) (by decide) dL_isPlayed_196 (fun H locs w_90 ew_90 hG => ?_)
            have h_91 : w_90 1000 = some (ac, .inl (tc 1, 15, .inr (.inl gc))) := gU_n ew_90 (by decide) h1
            have h_92 : w_90 1002 = some (ap, .inl (tc 0, 32, .inl gp)) := gU_n ew_90 (by decide) h3
            have h_93 : w_90 1001 = some (am, .inl (tc 0, 19, .inl (upd gm 4 1))) := gU_s ew_90
            refine lv_aload_n hx hb dL_isPlayed_197 rfl (lv_at hl 3 rfl) ?_
            refine lv_bipush (v := 10) hx hb dL_isPlayed_198 (by decide) ?_
            refine lv_iload hx hb dL_isPlayed_200 (lv_at hl 0 rfl) ?_
            refine lv_iconst (v := 3) hx hb dL_isPlayed_202 (by decide) ?_
            refine lv_icmp_ge (tgt := 211) hx hb dL_isPlayed_203 (by decide) (fun _ => ?_) (fun c9 => (c9 (by decide)).elim)
            refine lv_aload_n hx hb dL_isPlayed_211 rfl (lv_at hl 3 rfl) ?_
            refine lv_bipush (v := 10) hx hb dL_isPlayed_212 (by decide) ?_
            refine g_ialdN hE hG h_93 10 rfl (by decide) (by decide) dL_isPlayed_214 ?_
            rw [show ((upd gm 4 1) 10) = (gm 10) from (pk_un (by omega))]
            refine g_iastN hE hG h_93 10 rfl (by decide) (by decide) dL_isPlayed_215 (fun H locs w_94 ew_94 hG => ?_)
            have h_95 : w_94 1000 = some (ac, .inl (tc 1, 15, .inr (.inl gc))) := gU_n ew_94 (by decide) h_91
            have h_96 : w_94 1002 = some (ap, .inl (tc 0, 32, .inl gp)) := gU_n ew_94 (by decide) h_92
            have h_97 : w_94 1001 = some (am, .inl (tc 0, 19, .inl (upd (upd gm 4 1) 10 (gm 10)))) := gU_s ew_94
            refine lv_aload_n hx hb dL_isPlayed_216 rfl (lv_at hl 3 rfl) ?_
            refine lv_bipush (v := 11) hx hb dL_isPlayed_217 (by decide) ?_
            refine lv_iload hx hb dL_isPlayed_219 (lv_at hl 0 rfl) ?_
            refine lv_iconst (v := 3) hx hb dL_isPlayed_221 (by decide) ?_
            refine lv_icmp_ne (tgt := 262) hx hb dL_isPlayed_222 (by decide) (fun c9 => (c9 (by decide)).elim) (fun _ => ?_)
            refine lv_aload_n hx hb dL_isPlayed_225 rfl (lv_at hl 3 rfl) ?_
            refine lv_bipush (v := 11) hx hb dL_isPlayed_226 (by decide) ?_
            refine g_ialdN hE hG h_97 11 rfl (by decide) (by decide) dL_isPlayed_228 ?_
            rw [show ((upd (upd gm 4 1) 10 (gm 10)) 11) = (gm 11) from ((pk_un (by omega)).trans (pk_un (by omega)))]
            rw [hm11n]
            refine lv_if_ne (tgt := 262) hx hb dL_isPlayed_229 (by decide) (fun c_98 => ?_) (fun c_98 => ?_)
            · skip
              have nc_98 : ¬ (nE = 0) := fun h9 => c_98 ((nI_eq (a := nE) (b := 0) (by omega) (by omega)).mpr h9)
              refine lv_aload_n hx hb dL_isPlayed_262 rfl (lv_at hl 3 rfl) ?_
              refine lv_bipush (v := 11) hx hb dL_isPlayed_263 (by decide) ?_
              refine g_ialdN hE hG h_97 11 rfl (by decide) (by decide) dL_isPlayed_265 ?_
              rw [show ((upd (upd gm 4 1) 10 (gm 10)) 11) = (gm 11) from ((pk_un (by omega)).trans (pk_un (by omega)))]
              rw [hm11n]
              refine g_iastN hE hG h_97 11 rfl (by decide) (by decide) dL_isPlayed_266 (fun H locs w_99 ew_99 hG => ?_)
              have h_100 : w_99 1000 = some (ac, .inl (tc 1, 15, .inr (.inl gc))) := gU_n ew_99 (by decide) h_95
              have h_101 : w_99 1002 = some (ap, .inl (tc 0, 32, .inl gp)) := gU_n ew_99 (by decide) h_96
              have h_102 : w_99 1001 = some (am, .inl (tc 0, 19, .inl (upd (upd (upd gm 4 1) 10 (gm 10)) 11 (nI nE)))) := gU_s ew_99
              refine lv_aload_n hx hb dL_isPlayed_267 rfl (lv_at hl 1 rfl) ?_
              refine lv_iload hx hb dL_isPlayed_268 (lv_at hl 0 rfl) ?_
              have hC : cO tc w_99 oa d tk st := cO_g hC hI.1 (fun k hk => by rw [ew_99, gU_ne _ _ (by omega), ew_94, gU_ne _ _ (by omega), ew_90, gU_ne _ _ (by omega)])
              obtain ⟨fsz_103, z_103⟩ := cO_z hC
              refine g_callV (rest := []) (As := [.int 3]) hE hG hl.1 (k_drum l hfl D tc A w_99 oa d tk st 3 B hC hI.1 (by omega) hI.2.2.2.2.2 (go_drum (x := 3) (by decide) hg2)) z_103 rfl mw2_128 mw2_129 mw2_130 mw1_1 mw2_131 rfl nm_X5_drum ⟨⟨Nat.le_of_ble_eq_true rfl, Nat.le_of_ble_eq_true rfl⟩, Nat.le_of_ble_eq_true rfl, Nat.le_of_ble_eq_true rfl⟩ rfl rfl (Nat.le_of_ble_eq_true rfl) dL_isPlayed_270 (g_no) ?_
              intro v9 w_104 H locs h9 hG
              obtain ⟨e9, hC, g_105⟩ := h9
              rw [e9]; clear e9
              show W p l e _ s m args below meth c H locs _ _ _ (F0 m 273 ls [.int (d 9 4)])
              have h_106 : w_104 1000 = some (ac, .inl (tc 1, 15, .inr (.inl gc))) := (g_105 1000 (by decide)).trans h_100
              have h_107 : w_104 1002 = some (ap, .inl (tc 0, 32, .inl gp)) := (g_105 1002 (by decide)).trans h_101
              have h_108 : w_104 1001 = some (am, .inl (tc 0, 19, .inl (upd (upd (upd gm 4 1) 10 (gm 10)) 11 (nI nE)))) := (g_105 1001 (by decide)).trans h_102
              refine lv_aload_n hx hb dL_isPlayed_273 rfl (lv_at hl 3 rfl) ?_
              refine lv_bipush (v := 6) hx hb dL_isPlayed_274 (by decide) ?_
              refine g_ialdN hE hG h_108 6 rfl (by decide) (by decide) dL_isPlayed_276 ?_
              rw [show ((upd (upd (upd gm 4 1) 10 (gm 10)) 11 (nI nE)) 6) = (gm 6) from ((pk_un (by omega)).trans ((pk_un (by omega)).trans (pk_un (by omega))))]
              rw [(hm6.trans x4)]
              refine lv_icmp_ne (tgt := 284) hx hb dL_isPlayed_277 (by decide) (fun c9 => (c9 x4).elim) (fun c9 => ?_)
              refine lv_iconst (v := 1) hx hb dL_isPlayed_280 (by decide) ?_
              refine lv_goto (tgt := 285) hx hb dL_isPlayed_281 (by decide) ?_
              have edr : m_drum d 3 = gD d 9 (upd (d 9) 9 (if d 9 9 ≤ 0 then (if nI (lenN d (d 9 3).toNatClampNeg) < 2 * d 9 4 then d 9 7 + 2 else d 9 7 + 1) else d 9 9)) := by unfold m_drum; rw [if_neg (by decide), if_pos rfl]
              have e11 : (if d 9 9 ≤ 0 then (if nI (lenN d (d 9 3).toNatClampNeg) < 2 * d 9 4 then d 9 7 + 2 else d 9 7 + 1) else d 9 9) = (nI nE) := by
                rw [enE, x3, x4, x7, nI_clamp (by omega), hlen, two_mul_nI]
                rw [if_neg (nI_nle (by omega) (by omega))]
              subst hQ
              exact g_zret hE hG hr (by decide) (Nat.le_of_ble_eq_true rfl) (Nat.le_of_ble_eq_true rfl) dL_isPlayed_285 ⟨rfl, _, _, _, _, _, _, hC, h_106, h_108, h_107, iOk_up (I_drum hI (go_drum (x := 3) (by decide) hg2)) (by omega), (by rw [edr]; exact ⟨(rA_cg hRA rfl rfl rfl rfl rfl rfl rfl (fun i hi => rfl) (fun i hi => (pk_un (by omega)).trans ((pk_un (by omega)).trans (pk_un (by omega))))), ⟨⟨hg2.symm, hm5, hm6, hm7, hm8, hm9, hm10, e11.symm, hm12, hm13, hm14⟩, h01, ⟨nV, hnV, enV⟩, ⟨_, (by omega), e11⟩, ⟨nT, hnT, enT⟩, ⟨nY, hnY, enY⟩, hb9⟩, hRT, (rU_cg hRU rfl rfl rfl rfl rfl (fun k hk => rfl) (fun u hu => (pk_un (by omega)).trans ((pk_un (by omega)).trans (pk_un (by omega))))), hRP⟩)⟩
            · skip
              have nc_98 : nE = 0 := (nI_eq (a := nE) (b := 0) (by omega) (by omega)).mp c_98
              refine lv_aload_n hx hb dL_isPlayed_232 rfl (lv_at hl 3 rfl) ?_
              refine lv_bipush (v := 9) hx hb dL_isPlayed_233 (by decide) ?_
              refine g_ialdN hE hG h_97 9 rfl (by decide) (by decide) dL_isPlayed_235 ?_
              rw [show ((upd (upd gm 4 1) 10 (gm 10)) 9) = (gm 9) from ((pk_un (by omega)).trans (pk_un (by omega)))]
              rw [(hm9.trans x7)]
              refine lv_aload_n hx hb dL_isPlayed_236 rfl (lv_at hl 3 rfl) ?_
              refine lv_bipush (v := 6) hx hb dL_isPlayed_237 (by decide) ?_
              refine g_ialdN hE hG h_97 6 rfl (by decide) (by decide) dL_isPlayed_239 ?_
              rw [show ((upd (upd gm 4 1) 10 (gm 10)) 6) = (gm 6) from ((pk_un (by omega)).trans (pk_un (by omega)))]
              rw [(hm6.trans x4)]
              refine lv_aload_n hx hb dL_isPlayed_240 rfl (lv_at hl 3 rfl) ?_
              refine lv_aload_n hx hb dL_isPlayed_241 rfl (lv_at hl 3 rfl) ?_
              refine lv_iconst (v := 5) hx hb dL_isPlayed_242 (by decide) ?_
              refine g_ialdN hE hG h_97 5 rfl (by decide) (by decide) dL_isPlayed_243 ?_
              rw [show ((upd (upd gm 4 1) 10 (gm 10)) 5) = (gm 5) from ((pk_un (by omega)).trans (pk_un (by omega)))]
              rw [(hm5.trans x3)]
              refine g_ialdN hE hG h_97 i rfl (by omega) (by decide) dL_isPlayed_244 ?_
              rw [show ((upd (upd gm 4 1) 10 (gm 10)) i) = (gm i) from ((pk_un (by omega)).trans (pk_un (by omega)))]
              rw [hgi]
              refine lv_aload_n hx hb dL_isPlayed_245 rfl (lv_at hl 3 rfl) ?_
              refine lv_bipush (v := 6) hx hb dL_isPlayed_246 (by decide) ?_
              refine g_ialdN hE hG h_97 6 rfl (by decide) (by decide) dL_isPlayed_248 ?_
              rw [show ((upd (upd gm 4 1) 10 (gm 10)) 6) = (gm 6) from ((pk_un (by omega)).trans (pk_un (by omega)))]
              rw [(hm6.trans x4)]
              refine lv_isub hx hb dL_isPlayed_249 ?_
              refine lv_topi (fun k_109 ek_109 => ?_)
              obtain rfl : k_109 = nI ((4 * q) - pl) := ek_109.trans (pk_sub (a := (4 * q)) (b := pl) (by omega))
              refine lv_icmp_le (tgt := 257) hx hb dL_isPlayed_250 (by decide) (fun c_110 => ?_) (fun c_110 => ?_)
              · skip
                have nc_110 : pl ≤ ((4 * q) - pl) := (nI_leI (a := pl) (b := ((4 * q) - pl)) (by omega) (by omega)).mp c_110
                refine lv_iconst (v := 1) hx hb dL_isPlayed_257 (by decide) ?_
                refine lv_iadd hx hb dL_isPlayed_258 ?_
                refine lv_topi (fun k_111 ek_111 => ?_)
                obtain rfl : k_111 = nI (g + 1) := ek_111.trans (nI_add g 1)
                refine lv_goto (tgt := 266) hx hb dL_isPlayed_259 (by decide) ?_
                refine g_iastN hE hG h_97 11 rfl (by decide) (by decide) dL_isPlayed_266 (fun H locs w_112 ew_112 hG => ?_)
                have h_113 : w_112 1000 = some (ac, .inl (tc 1, 15, .inr (.inl gc))) := gU_n ew_112 (by decide) h_95
                have h_114 : w_112 1002 = some (ap, .inl (tc 0, 32, .inl gp)) := gU_n ew_112 (by decide) h_96
                have h_115 : w_112 1001 = some (am, .inl (tc 0, 19, .inl (upd (upd (upd gm 4 1) 10 (gm 10)) 11 (nI (g + 1))))) := gU_s ew_112
                refine lv_aload_n hx hb dL_isPlayed_267 rfl (lv_at hl 1 rfl) ?_
                refine lv_iload hx hb dL_isPlayed_268 (lv_at hl 0 rfl) ?_
                have hC : cO tc w_112 oa d tk st := cO_g hC hI.1 (fun k hk => by rw [ew_112, gU_ne _ _ (by omega), ew_94, gU_ne _ _ (by omega), ew_90, gU_ne _ _ (by omega)])
                obtain ⟨fsz_116, z_116⟩ := cO_z hC
                refine g_callV (rest := []) (As := [.int 3]) hE hG hl.1 (k_drum l hfl D tc A w_112 oa d tk st 3 B hC hI.1 (by omega) hI.2.2.2.2.2 (go_drum (x := 3) (by decide) hg2)) z_116 rfl mw2_128 mw2_129 mw2_130 mw1_1 mw2_131 rfl nm_X5_drum ⟨⟨Nat.le_of_ble_eq_true rfl, Nat.le_of_ble_eq_true rfl⟩, Nat.le_of_ble_eq_true rfl, Nat.le_of_ble_eq_true rfl⟩ rfl rfl (Nat.le_of_ble_eq_true rfl) dL_isPlayed_270 (g_no) ?_
                intro v9 w_117 H locs h9 hG
                obtain ⟨e9, hC, g_118⟩ := h9
                rw [e9]; clear e9
                show W p l e _ s m args below meth c H locs _ _ _ (F0 m 273 ls [.int (d 9 4)])
                have h_119 : w_117 1000 = some (ac, .inl (tc 1, 15, .inr (.inl gc))) := (g_118 1000 (by decide)).trans h_113
                have h_120 : w_117 1002 = some (ap, .inl (tc 0, 32, .inl gp)) := (g_118 1002 (by decide)).trans h_114
                have h_121 : w_117 1001 = some (am, .inl (tc 0, 19, .inl (upd (upd (upd gm 4 1) 10 (gm 10)) 11 (nI (g + 1))))) := (g_118 1001 (by decide)).trans h_115
                refine lv_aload_n hx hb dL_isPlayed_273 rfl (lv_at hl 3 rfl) ?_
                refine lv_bipush (v := 6) hx hb dL_isPlayed_274 (by decide) ?_
                refine g_ialdN hE hG h_121 6 rfl (by decide) (by decide) dL_isPlayed_276 ?_
                rw [show ((upd (upd (upd gm 4 1) 10 (gm 10)) 11 (nI (g + 1))) 6) = (gm 6) from ((pk_un (by omega)).trans ((pk_un (by omega)).trans (pk_un (by omega))))]
                rw [(hm6.trans x4)]
                refine lv_icmp_ne (tgt := 284) hx hb dL_isPlayed_277 (by decide) (fun c9 => (c9 x4).elim) (fun c9 => ?_)
                refine lv_iconst (v := 1) hx hb dL_isPlayed_280 (by decide) ?_
                refine lv_goto (tgt := 285) hx hb dL_isPlayed_281 (by decide) ?_
                have edr : m_drum d 3 = gD d 9 (upd (d 9) 9 (if d 9 9 ≤ 0 then (if nI (lenN d (d 9 3).toNatClampNeg) < 2 * d 9 4 then d 9 7 + 2 else d 9 7 + 1) else d 9 9)) := by unfold m_drum; rw [if_neg (by decide), if_pos rfl]
                have e11 : (if d 9 9 ≤ 0 then (if nI (lenN d (d 9 3).toNatClampNeg) < 2 * d 9 4 then d 9 7 + 2 else d 9 7 + 1) else d 9 9) = (nI (g + 1)) := by
                  rw [enE, x3, x4, x7, nI_clamp (by omega), hlen, two_mul_nI]
                  rw [if_pos (show nI nE ≤ 0 from (by rw [nc_98]; decide))]
                  rw [if_neg (nI_nlt (by omega) (by omega))]; exact nI_add g 1
                subst hQ
                exact g_zret hE hG hr (by decide) (Nat.le_of_ble_eq_true rfl) (Nat.le_of_ble_eq_true rfl) dL_isPlayed_285 ⟨rfl, _, _, _, _, _, _, hC, h_119, h_121, h_120, iOk_up (I_drum hI (go_drum (x := 3) (by decide) hg2)) (by omega), (by rw [edr]; exact ⟨(rA_cg hRA rfl rfl rfl rfl rfl rfl rfl (fun i hi => rfl) (fun i hi => (pk_un (by omega)).trans ((pk_un (by omega)).trans (pk_un (by omega))))), ⟨⟨hg2.symm, hm5, hm6, hm7, hm8, hm9, hm10, e11.symm, hm12, hm13, hm14⟩, h01, ⟨nV, hnV, enV⟩, ⟨_, (by omega), e11⟩, ⟨nT, hnT, enT⟩, ⟨nY, hnY, enY⟩, hb9⟩, hRT, (rU_cg hRU rfl rfl rfl rfl rfl (fun k hk => rfl) (fun u hu => (pk_un (by omega)).trans ((pk_un (by omega)).trans (pk_un (by omega))))), hRP⟩)⟩
              · skip
                have nc_110 : ¬ (pl ≤ ((4 * q) - pl)) := fun h9 => c_110 ((nI_leI (a := pl) (b := ((4 * q) - pl)) (by omega) (by omega)).mpr h9)
                refine lv_iconst (v := 2) hx hb dL_isPlayed_253 (by decide) ?_
                refine lv_goto (tgt := 258) hx hb dL_isPlayed_254 (by decide) ?_
                refine lv_iadd hx hb dL_isPlayed_258 ?_
                refine lv_topi (fun k_122 ek_122 => ?_)
                obtain rfl : k_122 = nI (g + 2) := ek_122.trans (nI_add g 2)
                refine lv_goto (tgt := 266) hx hb dL_isPlayed_259 (by decide) ?_
                refine g_iastN hE hG h_97 11 rfl (by decide) (by decide) dL_isPlayed_266 (fun H locs w_123 ew_123 hG => ?_)
                have h_124 : w_123 1000 = some (ac, .inl (tc 1, 15, .inr (.inl gc))) := gU_n ew_123 (by decide) h_95
                have h_125 : w_123 1002 = some (ap, .inl (tc 0, 32, .inl gp)) := gU_n ew_123 (by decide) h_96
                have h_126 : w_123 1001 = some (am, .inl (tc 0, 19, .inl (upd (upd (upd gm 4 1) 10 (gm 10)) 11 (nI (g + 2))))) := gU_s ew_123
                refine lv_aload_n hx hb dL_isPlayed_267 rfl (lv_at hl 1 rfl) ?_
                refine lv_iload hx hb dL_isPlayed_268 (lv_at hl 0 rfl) ?_
                have hC : cO tc w_123 oa d tk st := cO_g hC hI.1 (fun k hk => by rw [ew_123, gU_ne _ _ (by omega), ew_94, gU_ne _ _ (by omega), ew_90, gU_ne _ _ (by omega)])
                obtain ⟨fsz_127, z_127⟩ := cO_z hC
                refine g_callV (rest := []) (As := [.int 3]) hE hG hl.1 (k_drum l hfl D tc A w_123 oa d tk st 3 B hC hI.1 (by omega) hI.2.2.2.2.2 (go_drum (x := 3) (by decide) hg2)) z_127 rfl mw2_128 mw2_129 mw2_130 mw1_1 mw2_131 rfl nm_X5_drum ⟨⟨Nat.le_of_ble_eq_true rfl, Nat.le_of_ble_eq_true rfl⟩, Nat.le_of_ble_eq_true rfl, Nat.le_of_ble_eq_true rfl⟩ rfl rfl (Nat.le_of_ble_eq_true rfl) dL_isPlayed_270 (g_no) ?_
                intro v9 w_128 H locs h9 hG
                obtain ⟨e9, hC, g_129⟩ := h9
                rw [e9]; clear e9
                show W p l e _ s m args below meth c H locs _ _ _ (F0 m 273 ls [.int (d 9 4)])
                have h_130 : w_128 1000 = some (ac, .inl (tc 1, 15, .inr (.inl gc))) := (g_129 1000 (by decide)).trans h_124
                have h_131 : w_128 1002 = some (ap, .inl (tc 0, 32, .inl gp)) := (g_129 1002 (by decide)).trans h_125
                have h_132 : w_128 1001 = some (am, .inl (tc 0, 19, .inl (upd (upd (upd gm 4 1) 10 (gm 10)) 11 (nI (g + 2))))) := (g_129 1001 (by decide)).trans h_126
                refine lv_aload_n hx hb dL_isPlayed_273 rfl (lv_at hl 3 rfl) ?_
                refine lv_bipush (v := 6) hx hb dL_isPlayed_274 (by decide) ?_
                refine g_ialdN hE hG h_132 6 rfl (by decide) (by decide) dL_isPlayed_276 ?_
                rw [show ((upd (upd (upd gm 4 1) 10 (gm 10)) 11 (nI (g + 2))) 6) = (gm 6) from ((pk_un (by omega)).trans ((pk_un (by omega)).trans (pk_un (by omega))))]
                rw [(hm6.trans x4)]
                refine lv_icmp_ne (tgt := 284) hx hb dL_isPlayed_277 (by decide) (fun c9 => (c9 x4).elim) (fun c9 => ?_)
                refine lv_iconst (v := 1) hx hb dL_isPlayed_280 (by decide) ?_
                refine lv_goto (tgt := 285) hx hb dL_isPlayed_281 (by decide) ?_
                have edr : m_drum d 3 = gD d 9 (upd (d 9) 9 (if d 9 9 ≤ 0 then (if nI (lenN d (d 9 3).toNatClampNeg) < 2 * d 9 4 then d 9 7 + 2 else d 9 7 + 1) else d 9 9)) := by unfold m_drum; rw [if_neg (by decide), if_pos rfl]
                have e11 : (if d 9 9 ≤ 0 then (if nI (lenN d (d 9 3).toNatClampNeg) < 2 * d 9 4 then d 9 7 + 2 else d 9 7 + 1) else d 9 9) = (nI (g + 2)) := by
                  rw [enE, x3, x4, x7, nI_clamp (by omega), hlen, two_mul_nI]
                  rw [if_pos (show nI nE ≤ 0 from (by rw [nc_98]; decide))]
                  rw [if_pos (nI_lt (by omega) (by omega))]; exact nI_add g 2
                subst hQ
                exact g_zret hE hG hr (by decide) (Nat.le_of_ble_eq_true rfl) (Nat.le_of_ble_eq_true rfl) dL_isPlayed_285 ⟨rfl, _, _, _, _, _, _, hC, h_130, h_132, h_131, iOk_up (I_drum hI (go_drum (x := 3) (by decide) hg2)) (by omega), (by rw [edr]; exact ⟨(rA_cg hRA rfl rfl rfl rfl rfl rfl rfl (fun i hi => rfl) (fun i hi => (pk_un (by omega)).trans ((pk_un (by omega)).trans (pk_un (by omega))))), ⟨⟨hg2.symm, hm5, hm6, hm7, hm8, hm9, hm10, e11.symm, hm12, hm13, hm14⟩, h01, ⟨nV, hnV, enV⟩, ⟨_, (by omega), e11⟩, ⟨nT, hnT, enT⟩, ⟨nY, hnY, enY⟩, hb9⟩, hRT, (rU_cg hRU rfl rfl rfl rfl rfl (fun k hk => rfl) (fun u hu => (pk_un (by omega)).trans ((pk_un (by omega)).trans (pk_un (by omega))))), hRP⟩)⟩
          · skip
            rw [ewl]
            show W p l e _ s m args below meth c H locs _ _ _ (F0 m 181 ls [.int 4])
            refine lv_istore (lv' := [(5, .int 4), (0, .ref oa), (1, .ref ac), (2, .ref am), (3, .int (nI way)), (4, .int (nI Z))]) hx hb dL_isPlayed_181 hl (by decide) rfl (fun ls hl => ?_)
            refine lv_aload_n hx hb dL_isPlayed_183 rfl (lv_at hl 3 rfl) ?_
            refine lv_iconst (v := 4) hx hb dL_isPlayed_184 (by decide) ?_
            refine lv_iload hx hb dL_isPlayed_185 (lv_at hl 0 rfl) ?_
            refine lv_iconst (v := 4) hx hb dL_isPlayed_187 (by decide) ?_
            refine lv_icmp_ne (tgt := 195) hx hb dL_isPlayed_188 (by decide) (fun c9 => (c9 (by decide)).elim) (fun _ => ?_)
            refine lv_iconst (v := 0) hx hb dL_isPlayed_191 (by decide) ?_
            refine lv_goto (tgt := 196) hx hb dL_isPlayed_192 (by decide) ?_
            refine g_iastN hE hG h2 4 rfl (by decide) (by decide) dL_isPlayed_196 (fun H locs w_133 ew_133 hG => ?_)
            have h_134 : w_133 1000 = some (ac, .inl (tc 1, 15, .inr (.inl gc))) := gU_n ew_133 (by decide) h1
            have h_135 : w_133 1002 = some (ap, .inl (tc 0, 32, .inl gp)) := gU_n ew_133 (by decide) h3
            have h_136 : w_133 1001 = some (am, .inl (tc 0, 19, .inl (upd gm 4 0))) := gU_s ew_133
            refine lv_aload_n hx hb dL_isPlayed_197 rfl (lv_at hl 3 rfl) ?_
            refine lv_bipush (v := 10) hx hb dL_isPlayed_198 (by decide) ?_
            refine lv_iload hx hb dL_isPlayed_200 (lv_at hl 0 rfl) ?_
            refine lv_iconst (v := 3) hx hb dL_isPlayed_202 (by decide) ?_
            refine lv_icmp_ge (tgt := 211) hx hb dL_isPlayed_203 (by decide) (fun _ => ?_) (fun c9 => (c9 (by decide)).elim)
            refine lv_aload_n hx hb dL_isPlayed_211 rfl (lv_at hl 3 rfl) ?_
            refine lv_bipush (v := 10) hx hb dL_isPlayed_212 (by decide) ?_
            refine g_ialdN hE hG h_136 10 rfl (by decide) (by decide) dL_isPlayed_214 ?_
            rw [show ((upd gm 4 0) 10) = (gm 10) from (pk_un (by omega))]
            refine g_iastN hE hG h_136 10 rfl (by decide) (by decide) dL_isPlayed_215 (fun H locs w_137 ew_137 hG => ?_)
            have h_138 : w_137 1000 = some (ac, .inl (tc 1, 15, .inr (.inl gc))) := gU_n ew_137 (by decide) h_134
            have h_139 : w_137 1002 = some (ap, .inl (tc 0, 32, .inl gp)) := gU_n ew_137 (by decide) h_135
            have h_140 : w_137 1001 = some (am, .inl (tc 0, 19, .inl (upd (upd gm 4 0) 10 (gm 10)))) := gU_s ew_137
            refine lv_aload_n hx hb dL_isPlayed_216 rfl (lv_at hl 3 rfl) ?_
            refine lv_bipush (v := 11) hx hb dL_isPlayed_217 (by decide) ?_
            refine lv_iload hx hb dL_isPlayed_219 (lv_at hl 0 rfl) ?_
            refine lv_iconst (v := 3) hx hb dL_isPlayed_221 (by decide) ?_
            refine lv_icmp_ne (tgt := 262) hx hb dL_isPlayed_222 (by decide) (fun _ => ?_) (fun c9 => absurd c9 (by decide))
            refine lv_aload_n hx hb dL_isPlayed_262 rfl (lv_at hl 3 rfl) ?_
            refine lv_bipush (v := 11) hx hb dL_isPlayed_263 (by decide) ?_
            refine g_ialdN hE hG h_140 11 rfl (by decide) (by decide) dL_isPlayed_265 ?_
            rw [show ((upd (upd gm 4 0) 10 (gm 10)) 11) = (gm 11) from ((pk_un (by omega)).trans (pk_un (by omega)))]
            rw [hm11n]
            refine g_iastN hE hG h_140 11 rfl (by decide) (by decide) dL_isPlayed_266 (fun H locs w_141 ew_141 hG => ?_)
            have h_142 : w_141 1000 = some (ac, .inl (tc 1, 15, .inr (.inl gc))) := gU_n ew_141 (by decide) h_138
            have h_143 : w_141 1002 = some (ap, .inl (tc 0, 32, .inl gp)) := gU_n ew_141 (by decide) h_139
            have h_144 : w_141 1001 = some (am, .inl (tc 0, 19, .inl (upd (upd (upd gm 4 0) 10 (gm 10)) 11 (nI nE)))) := gU_s ew_141
            refine lv_aload_n hx hb dL_isPlayed_267 rfl (lv_at hl 1 rfl) ?_
            refine lv_iload hx hb dL_isPlayed_268 (lv_at hl 0 rfl) ?_
            have hC : cO tc w_141 oa d tk st := cO_g hC hI.1 (fun k hk => by rw [ew_141, gU_ne _ _ (by omega), ew_137, gU_ne _ _ (by omega), ew_133, gU_ne _ _ (by omega)])
            obtain ⟨fsz_145, z_145⟩ := cO_z hC
            refine g_callV (rest := []) (As := [.int 4]) hE hG hl.1 (k_drum l hfl D tc A w_141 oa d tk st 4 B hC hI.1 (by omega) hI.2.2.2.2.2 (go_drum (x := 4) (by decide) hg2)) z_145 rfl mw2_128 mw2_129 mw2_130 mw1_1 mw2_131 rfl nm_X5_drum ⟨⟨Nat.le_of_ble_eq_true rfl, Nat.le_of_ble_eq_true rfl⟩, Nat.le_of_ble_eq_true rfl, Nat.le_of_ble_eq_true rfl⟩ rfl rfl (Nat.le_of_ble_eq_true rfl) dL_isPlayed_270 (g_no) ?_
            intro v9 w_146 H locs h9 hG
            obtain ⟨e9, hC, g_147⟩ := h9
            rw [e9]; clear e9
            show W p l e _ s m args below meth c H locs _ _ _ (F0 m 273 ls [.int (d 9 4)])
            have h_148 : w_146 1000 = some (ac, .inl (tc 1, 15, .inr (.inl gc))) := (g_147 1000 (by decide)).trans h_142
            have h_149 : w_146 1002 = some (ap, .inl (tc 0, 32, .inl gp)) := (g_147 1002 (by decide)).trans h_143
            have h_150 : w_146 1001 = some (am, .inl (tc 0, 19, .inl (upd (upd (upd gm 4 0) 10 (gm 10)) 11 (nI nE)))) := (g_147 1001 (by decide)).trans h_144
            refine lv_aload_n hx hb dL_isPlayed_273 rfl (lv_at hl 3 rfl) ?_
            refine lv_bipush (v := 6) hx hb dL_isPlayed_274 (by decide) ?_
            refine g_ialdN hE hG h_150 6 rfl (by decide) (by decide) dL_isPlayed_276 ?_
            rw [show ((upd (upd (upd gm 4 0) 10 (gm 10)) 11 (nI nE)) 6) = (gm 6) from ((pk_un (by omega)).trans ((pk_un (by omega)).trans (pk_un (by omega))))]
            rw [(hm6.trans x4)]
            refine lv_icmp_ne (tgt := 284) hx hb dL_isPlayed_277 (by decide) (fun c9 => (c9 x4).elim) (fun c9 => ?_)
            refine lv_iconst (v := 1) hx hb dL_isPlayed_280 (by decide) ?_
            refine lv_goto (tgt := 285) hx hb dL_isPlayed_281 (by decide) ?_
            have edr : m_drum d 4 = gD d 9 (upd (d 9) 2 0) := by unfold m_drum; rw [if_pos rfl]
            subst hQ
            exact g_zret hE hG hr (by decide) (Nat.le_of_ble_eq_true rfl) (Nat.le_of_ble_eq_true rfl) dL_isPlayed_285 ⟨rfl, _, _, _, _, _, _, hC, h_148, h_150, h_149, iOk_up (I_drum hI (go_drum (x := 4) (by decide) hg2)) (by omega), (by rw [edr]; exact ⟨(rA_cg hRA rfl rfl rfl rfl rfl rfl rfl (fun i hi => rfl) (fun i hi => (pk_un (by omega)).trans ((pk_un (by omega)).trans (pk_un (by omega))))), ⟨⟨rfl, hm5, hm6, hm7, hm8, hm9, hm10, enE.symm, hm12, hm13, hm14⟩, Or.inl rfl, ⟨nV, hnV, enV⟩, ⟨nE, hnE, enE⟩, ⟨nT, hnT, enT⟩, ⟨nY, hnY, enY⟩, fun h => absurd rfl h⟩, hRT, (rU_cg hRU rfl rfl rfl rfl rfl (fun k hk => rfl) (fun u hu => (pk_un (by omega)).trans ((pk_un (by omega)).trans (pk_un (by omega))))), hRP⟩)⟩
        refine lv_icmp_ne (tgt := 177) hx hb dL_isPlayed_161 (by decide) (fun c_151 => ?_) (fun c_151 => ?_)
        · skip
          refine lv_iload hx hb dL_isPlayed_177 (lv_at hl 4 rfl) ?_
          refine lv_iconst (v := 5) hx hb dL_isPlayed_179 (by decide) ?_
          refine lv_irem hx hb dL_isPlayed_180 (by decide) ?_
          refine lv_topi (fun k_152 ek_152 => ?_)
          obtain rfl : k_152 = nI (Z % 5) := ek_152.trans (pk_rem (a := Z) (d := 5) (by omega) (by omega) (by omega))
          exact j_35 _ _ _ (by rw [if_neg c_151]) hG
        · skip
          refine lv_iload hx hb dL_isPlayed_164 (lv_at hl 4 rfl) ?_
          refine lv_iconst (v := 5) hx hb dL_isPlayed_166 (by decide) ?_
          refine lv_idiv hx hb dL_isPlayed_167 (by decide) ?_
          refine lv_topi (fun k_153 ek_153 => ?_)
          obtain rfl : k_153 = nI (Z / 5) := ek_153.trans (pk_div (a := Z) (d := 5) (by omega) (by omega) (by omega))
          refine lv_iconst (v := 3) hx hb dL_isPlayed_168 (by decide) ?_
          refine lv_irem hx hb dL_isPlayed_169 (by decide) ?_
          refine lv_topi (fun k_154 ek_154 => ?_)
          obtain rfl : k_154 = nI ((Z / 5) % 3) := ek_154.trans (pk_rem (a := (Z / 5)) (d := 3) (by omega) (by omega) (by omega))
          refine lv_if_le (tgt := 177) hx hb dL_isPlayed_170 (by decide) (fun c_155 => ?_) (fun c_155 => ?_)
          · skip
            have nc_155 : ((Z / 5) % 3) ≤ 0 := (nI_leI (a := ((Z / 5) % 3)) (b := 0) (by omega) (by omega)).mp c_155
            refine lv_iload hx hb dL_isPlayed_177 (lv_at hl 4 rfl) ?_
            refine lv_iconst (v := 5) hx hb dL_isPlayed_179 (by decide) ?_
            refine lv_irem hx hb dL_isPlayed_180 (by decide) ?_
            refine lv_topi (fun k_156 ek_156 => ?_)
            obtain rfl : k_156 = nI (Z % 5) := ek_156.trans (pk_rem (a := Z) (d := 5) (by omega) (by omega) (by omega))
            exact j_35 _ _ _ (by rw [if_pos c_151, if_pos c_155]) hG
          · skip
            have nc_155 : ¬ (((Z / 5) % 3) ≤ 0) := fun h9 => c_155 ((nI_leI (a := ((Z / 5) % 3)) (b := 0) (by omega) (by omega)).mpr h9)
            refine lv_iconst (v := 1) hx hb dL_isPlayed_173 (by decide) ?_
            refine lv_goto (tgt := 181) hx hb dL_isPlayed_174 (by decide) ?_
            exact j_35 _ _ _ (by rw [if_pos c_151, if_neg c_155]) hG
  · skip
    have nc_1 : way = 0 := (nI_eq (a := way) (b := 0) (by omega) (by omega)).mp c_1
    refine lv_iload hx hb dL_isPlayed_4 (lv_at hl 4 rfl) ?_
    refine lv_iconst (v := 2) hx hb dL_isPlayed_6 (by decide) ?_
    refine lv_irem hx hb dL_isPlayed_7 (by decide) ?_
    refine lv_topi (fun k_157 ek_157 => ?_)
    obtain rfl : k_157 = nI (Z % 2) := ek_157.trans (pk_rem (a := Z) (d := 2) (by omega) (by omega) (by omega))
    refine lv_topi (fun k_158 ek_158 => ?_)
    obtain ⟨i, hi, rfl⟩ : ∃ i : Nat, (i < 2) ∧ k_158 = nI i := ⟨Z % 2, by omega, ek_158⟩
    refine lv_istore (lv' := [(5, .int (nI i)), (0, .ref oa), (1, .ref ac), (2, .ref am), (3, .int (nI way)), (4, .int (nI Z))]) hx hb dL_isPlayed_8 hl (by decide) rfl (fun ls hl => ?_)
    obtain ⟨ff, hff, eff⟩ := (hRA.2 i hi).2.2.2.2.1
    have hmf := (hRA.2 i hi).2.2.2.1.trans eff
    rcases id h01 with hg2 | hg2
    · skip
      have hg4 := hm4.trans hg2
      refine lv_aload_n hx hb dL_isPlayed_10 rfl (lv_at hl 3 rfl) ?_
      refine lv_iconst (v := 4) hx hb dL_isPlayed_11 (by decide) ?_
      refine g_ialdN hE hG h2 4 rfl (by decide) (by decide) dL_isPlayed_12 ?_
      rw [hg4]
      refine lv_iconst (v := 1) hx hb dL_isPlayed_13 (by decide) ?_
      refine lv_icmp_eq (tgt := 34) hx hb dL_isPlayed_14 (by decide) (fun c9 => absurd c9 (by decide)) (fun _ => ?_)
      refine lv_aload_n hx hb dL_isPlayed_17 rfl (lv_at hl 3 rfl) ?_
      refine lv_iconst (v := 2) hx hb dL_isPlayed_18 (by decide) ?_
      refine lv_iload hx hb dL_isPlayed_19 (lv_at hl 0 rfl) ?_
      refine lv_iadd hx hb dL_isPlayed_21 ?_
      refine lv_topi (fun k_159 ek_159 => ?_)
      obtain rfl : k_159 = nI (2 + i) := ek_159.trans (nI_add 2 i)
      refine g_ialdN hE hG h2 (2 + i) rfl (by omega) (by decide) dL_isPlayed_22 ?_
      rw [hmf]
      refine lv_aload_n hx hb dL_isPlayed_23 rfl (lv_at hl 3 rfl) ?_
      refine lv_bipush (v := 13) hx hb dL_isPlayed_24 (by decide) ?_
      refine g_ialdN hE hG h2 13 rfl (by decide) (by decide) dL_isPlayed_26 ?_
      rw [hm13n]
      refine lv_ishr hx hb dL_isPlayed_27 ?_
      refine lv_iconst (v := 1) hx hb dL_isPlayed_28 (by decide) ?_
      refine lv_iand hx hb dL_isPlayed_29 ?_
      refine lv_iconst (v := 1) hx hb dL_isPlayed_30 (by decide) ?_
      refine lv_icmp_ne (tgt := 36) hx hb dL_isPlayed_31 (by decide) (fun c_160 => ?_) (fun c_160 => ?_)
      · skip
        have hbit := c_160
        refine lv_aload_n hx hb dL_isPlayed_36 rfl (lv_at hl 3 rfl) ?_
        refine lv_iconst (v := 4) hx hb dL_isPlayed_37 (by decide) ?_
        refine lv_iconst (v := 1) hx hb dL_isPlayed_38 (by decide) ?_
        refine g_iastN hE hG h2 4 rfl (by decide) (by decide) dL_isPlayed_39 (fun H locs w_161 ew_161 hG => ?_)
        have h_162 : w_161 1000 = some (ac, .inl (tc 1, 15, .inr (.inl gc))) := gU_n ew_161 (by decide) h1
        have h_163 : w_161 1002 = some (ap, .inl (tc 0, 32, .inl gp)) := gU_n ew_161 (by decide) h3
        have h_164 : w_161 1001 = some (am, .inl (tc 0, 19, .inl (upd gm 4 1))) := gU_s ew_161
        refine lv_aload_n hx hb dL_isPlayed_40 rfl (lv_at hl 3 rfl) ?_
        refine lv_iconst (v := 5) hx hb dL_isPlayed_41 (by decide) ?_
        refine lv_iload hx hb dL_isPlayed_42 (lv_at hl 0 rfl) ?_
        refine g_iastN hE hG h_164 5 rfl (by decide) (by decide) dL_isPlayed_44 (fun H locs w_165 ew_165 hG => ?_)
        have h_166 : w_165 1000 = some (ac, .inl (tc 1, 15, .inr (.inl gc))) := gU_n ew_165 (by decide) h_162
        have h_167 : w_165 1002 = some (ap, .inl (tc 0, 32, .inl gp)) := gU_n ew_165 (by decide) h_163
        have h_168 : w_165 1001 = some (am, .inl (tc 0, 19, .inl (upd (upd gm 4 1) 5 (nI i)))) := gU_s ew_165
        refine lv_aload_n hx hb dL_isPlayed_45 rfl (lv_at hl 3 rfl) ?_
        refine lv_bipush (v := 6) hx hb dL_isPlayed_46 (by decide) ?_
        refine lv_iconst (v := 0) hx hb dL_isPlayed_48 (by decide) ?_
        refine g_iastN hE hG h_168 6 rfl (by decide) (by decide) dL_isPlayed_49 (fun H locs w_169 ew_169 hG => ?_)
        have h_170 : w_169 1000 = some (ac, .inl (tc 1, 15, .inr (.inl gc))) := gU_n ew_169 (by decide) h_166
        have h_171 : w_169 1002 = some (ap, .inl (tc 0, 32, .inl gp)) := gU_n ew_169 (by decide) h_167
        have h_172 : w_169 1001 = some (am, .inl (tc 0, 19, .inl (upd (upd (upd gm 4 1) 5 (nI i)) 6 0))) := gU_s ew_169
        refine lv_aload_n hx hb dL_isPlayed_50 rfl (lv_at hl 3 rfl) ?_
        refine lv_bipush (v := 7) hx hb dL_isPlayed_51 (by decide) ?_
        refine lv_bipush (v := 20) hx hb dL_isPlayed_53 (by decide) ?_
        refine g_iastN hE hG h_172 7 rfl (by decide) (by decide) dL_isPlayed_55 (fun H locs w_173 ew_173 hG => ?_)
        have h_174 : w_173 1000 = some (ac, .inl (tc 1, 15, .inr (.inl gc))) := gU_n ew_173 (by decide) h_170
        have h_175 : w_173 1002 = some (ap, .inl (tc 0, 32, .inl gp)) := gU_n ew_173 (by decide) h_171
        have h_176 : w_173 1001 = some (am, .inl (tc 0, 19, .inl (upd (upd (upd (upd gm 4 1) 5 (nI i)) 6 0) 7 20))) := gU_s ew_173
        refine lv_aload_n hx hb dL_isPlayed_56 rfl (lv_at hl 3 rfl) ?_
        refine lv_bipush (v := 8) hx hb dL_isPlayed_57 (by decide) ?_
        refine lv_iconst (v := 0) hx hb dL_isPlayed_59 (by decide) ?_
        refine g_iastN hE hG h_176 8 rfl (by decide) (by decide) dL_isPlayed_60 (fun H locs w_177 ew_177 hG => ?_)
        have h_178 : w_177 1000 = some (ac, .inl (tc 1, 15, .inr (.inl gc))) := gU_n ew_177 (by decide) h_174
        have h_179 : w_177 1002 = some (ap, .inl (tc 0, 32, .inl gp)) := gU_n ew_177 (by decide) h_175
        have h_180 : w_177 1001 = some (am, .inl (tc 0, 19, .inl (upd (upd (upd (upd (upd gm 4 1) 5 (nI i)) 6 0) 7 20) 8 0))) := gU_s ew_177
        refine lv_aload_n hx hb dL_isPlayed_61 rfl (lv_at hl 3 rfl) ?_
        refine lv_bipush (v := 9) hx hb dL_isPlayed_62 (by decide) ?_
        refine lv_iconst (v := 0) hx hb dL_isPlayed_64 (by decide) ?_
        refine g_iastN hE hG h_180 9 rfl (by decide) (by decide) dL_isPlayed_65 (fun H locs w_181 ew_181 hG => ?_)
        have h_182 : w_181 1000 = some (ac, .inl (tc 1, 15, .inr (.inl gc))) := gU_n ew_181 (by decide) h_178
        have h_183 : w_181 1002 = some (ap, .inl (tc 0, 32, .inl gp)) := gU_n ew_181 (by decide) h_179
        have h_184 : w_181 1001 = some (am, .inl (tc 0, 19, .inl (upd (upd (upd (upd (upd (upd gm 4 1) 5 (nI i)) 6 0) 7 20) 8 0) 9 0))) := gU_s ew_181
        refine lv_aload_n hx hb dL_isPlayed_66 rfl (lv_at hl 3 rfl) ?_
        refine lv_bipush (v := 10) hx hb dL_isPlayed_67 (by decide) ?_
        refine lv_iconst (v := 0) hx hb dL_isPlayed_69 (by decide) ?_
        refine g_iastN hE hG h_184 10 rfl (by decide) (by decide) dL_isPlayed_70 (fun H locs w_185 ew_185 hG => ?_)
        have h_186 : w_185 1000 = some (ac, .inl (tc 1, 15, .inr (.inl gc))) := gU_n ew_185 (by decide) h_182
        have h_187 : w_185 1002 = some (ap, .inl (tc 0, 32, .inl gp)) := gU_n ew_185 (by decide) h_183
        have h_188 : w_185 1001 = some (am, .inl (tc 0, 19, .inl (upd (upd (upd (upd (upd (upd (upd gm 4 1) 5 (nI i)) 6 0) 7 20) 8 0) 9 0) 10 0))) := gU_s ew_185
        refine lv_aload_n hx hb dL_isPlayed_71 rfl (lv_at hl 3 rfl) ?_
        refine lv_bipush (v := 11) hx hb dL_isPlayed_72 (by decide) ?_
        refine lv_iconst (v := 0) hx hb dL_isPlayed_74 (by decide) ?_
        refine g_iastN hE hG h_188 11 rfl (by decide) (by decide) dL_isPlayed_75 (fun H locs w_189 ew_189 hG => ?_)
        have h_190 : w_189 1000 = some (ac, .inl (tc 1, 15, .inr (.inl gc))) := gU_n ew_189 (by decide) h_186
        have h_191 : w_189 1002 = some (ap, .inl (tc 0, 32, .inl gp)) := gU_n ew_189 (by decide) h_187
        have h_192 : w_189 1001 = some (am, .inl (tc 0, 19, .inl (upd (upd (upd (upd (upd (upd (upd (upd gm 4 1) 5 (nI i)) 6 0) 7 20) 8 0) 9 0) 10 0) 11 0))) := gU_s ew_189
        refine lv_aload_n hx hb dL_isPlayed_76 rfl (lv_at hl 3 rfl) ?_
        refine lv_bipush (v := 12) hx hb dL_isPlayed_77 (by decide) ?_
        refine lv_dup2_11 hx hb dL_isPlayed_79 rfl rfl ?_
        refine g_ialdN hE hG h_192 12 rfl (by decide) (by decide) dL_isPlayed_80 ?_
        rw [show ((upd (upd (upd (upd (upd (upd (upd (upd gm 4 1) 5 (nI i)) 6 0) 7 20) 8 0) 9 0) 10 0) 11 0) 12) = (gm 12) from ((pk_un (by omega)).trans ((pk_un (by omega)).trans ((pk_un (by omega)).trans ((pk_un (by omega)).trans ((pk_un (by omega)).trans ((pk_un (by omega)).trans ((pk_un (by omega)).trans (pk_un (by omega)))))))))]
        refine lv_iconst (v := 1) hx hb dL_isPlayed_81 (by decide) ?_
        refine lv_iadd hx hb dL_isPlayed_82 ?_
        refine g_iastN hE hG h_192 12 rfl (by decide) (by decide) dL_isPlayed_83 (fun H locs w_193 ew_193 hG => ?_)
        have h_194 : w_193 1000 = some (ac, .inl (tc 1, 15, .inr (.inl gc))) := gU_n ew_193 (by decide) h_190
        have h_195 : w_193 1002 = some (ap, .inl (tc 0, 32, .inl gp)) := gU_n ew_193 (by decide) h_191
        have h_196 : w_193 1001 = some (am, .inl (tc 0, 19, .inl (upd (upd (upd (upd (upd (upd (upd (upd (upd gm 4 1) 5 (nI i)) 6 0) 7 20) 8 0) 9 0) 10 0) 11 0) 12 ((gm 12) + 1)))) := gU_s ew_193
        refine lv_aload_n hx hb dL_isPlayed_84 rfl (lv_at hl 1 rfl) ?_
        refine lv_iload hx hb dL_isPlayed_85 (lv_at hl 0 rfl) ?_
        have hC : cO tc w_193 oa d tk st := cO_g hC hI.1 (fun k hk => by rw [ew_193, gU_ne _ _ (by omega), ew_189, gU_ne _ _ (by omega), ew_185, gU_ne _ _ (by omega), ew_181, gU_ne _ _ (by omega), ew_177, gU_ne _ _ (by omega), ew_173, gU_ne _ _ (by omega), ew_169, gU_ne _ _ (by omega), ew_165, gU_ne _ _ (by omega), ew_161, gU_ne _ _ (by omega)])
        obtain ⟨fsz_197, z_197⟩ := cO_z hC
        refine g_callV (rest := []) (As := [.int (nI i)]) hE hG hl.1 (k_begin l hfl D tc A w_193 oa d tk st (nI i) hC hI.1 (go_begin hI.1 (by omega) hg2 eff enT (and1_nz hbit))) z_197 rfl mw2_109 mw2_110 mw2_111 mw1_1 mw2_112 rfl nm_X5_begin ⟨⟨Nat.le_of_ble_eq_true rfl, Nat.le_of_ble_eq_true rfl⟩, Nat.le_of_ble_eq_true rfl, Nat.le_of_ble_eq_true rfl⟩ rfl rfl (Nat.le_of_ble_eq_true rfl) dL_isPlayed_87 (g_no) ?_
        intro v9 w_198 H locs h9 hG
        obtain ⟨e9, hC, g_199⟩ := h9
        rw [e9]; clear e9
        show W p l e _ s m args below meth c H locs _ _ _ (F0 m 90 ls [.int (d 9 10 + 1)])
        have h_200 : w_198 1000 = some (ac, .inl (tc 1, 15, .inr (.inl gc))) := (g_199 1000 (by decide)).trans h_194
        have h_201 : w_198 1002 = some (ap, .inl (tc 0, 32, .inl gp)) := (g_199 1002 (by decide)).trans h_195
        have h_202 : w_198 1001 = some (am, .inl (tc 0, 19, .inl (upd (upd (upd (upd (upd (upd (upd (upd (upd gm 4 1) 5 (nI i)) 6 0) 7 20) 8 0) 9 0) 10 0) 11 0) 12 ((gm 12) + 1)))) := (g_199 1001 (by decide)).trans h_196
        refine lv_aload_n hx hb dL_isPlayed_90 rfl (lv_at hl 3 rfl) ?_
        refine lv_bipush (v := 12) hx hb dL_isPlayed_91 (by decide) ?_
        refine g_ialdN hE hG h_202 12 rfl (by decide) (by decide) dL_isPlayed_93 ?_
        rw [show ((upd (upd (upd (upd (upd (upd (upd (upd (upd gm 4 1) 5 (nI i)) 6 0) 7 20) 8 0) 9 0) 10 0) 11 0) 12 ((gm 12) + 1)) 12) = ((gm 12) + 1) from pk_us]
        refine lv_icmp_ne (tgt := 101) hx hb dL_isPlayed_94 (by decide) (fun c9 => (c9 (by rw [hm12])).elim) (fun c9 => ?_)
        refine lv_iconst (v := 1) hx hb dL_isPlayed_97 (by decide) ?_
        refine lv_goto (tgt := 102) hx hb dL_isPlayed_98 (by decide) ?_
        subst hQ
        exact g_zret hE hG hr (by decide) (Nat.le_of_ble_eq_true rfl) (Nat.le_of_ble_eq_true rfl) dL_isPlayed_102 ⟨rfl, _, _, _, _, _, _, hC, h_200, h_202, h_201, iOk_up (I_begin hI (go_begin hI.1 (by omega) hg2 eff enT (and1_nz hbit))) (by omega), ⟨(rA_cg hRA rfl rfl rfl rfl rfl rfl rfl (fun i hi => rfl) (fun i hi => (pk_un (by omega)).trans ((pk_un (by omega)).trans ((pk_un (by omega)).trans ((pk_un (by omega)).trans ((pk_un (by omega)).trans ((pk_un (by omega)).trans ((pk_un (by omega)).trans ((pk_un (by omega)).trans (pk_un (by omega))))))))))), ⟨⟨rfl, rfl, rfl, rfl, rfl, rfl, rfl, rfl, congrArg (· + 1) hm12, hm13, hm14⟩, Or.inr rfl, ⟨0, by decide, rfl⟩, ⟨0, by decide, rfl⟩, ⟨nT, hnT, enT⟩, ⟨nY, hnY, enY⟩, fun _ => ⟨10, by decide, by decide, rfl⟩⟩, hRT, (rU_cg hRU rfl rfl rfl rfl rfl (fun k hk => rfl) (fun u hu => (pk_un (by omega)).trans ((pk_un (by omega)).trans ((pk_un (by omega)).trans ((pk_un (by omega)).trans ((pk_un (by omega)).trans ((pk_un (by omega)).trans ((pk_un (by omega)).trans ((pk_un (by omega)).trans (pk_un (by omega))))))))))), hRP⟩⟩
      · skip
        refine lv_iconst (v := 1) hx hb dL_isPlayed_34 (by decide) ?_
        subst hQ
        exact g_zret hE hG hr (by decide) (Nat.le_of_ble_eq_true rfl) (Nat.le_of_ble_eq_true rfl) dL_isPlayed_35 ⟨rfl, _, _, _, _, _, _, hC, h1, h2, h3, iOk_up hI (by omega), hR⟩
    · skip
      have hg4 := hm4.trans hg2
      refine lv_aload_n hx hb dL_isPlayed_10 rfl (lv_at hl 3 rfl) ?_
      refine lv_iconst (v := 4) hx hb dL_isPlayed_11 (by decide) ?_
      refine g_ialdN hE hG h2 4 rfl (by decide) (by decide) dL_isPlayed_12 ?_
      rw [hg4]
      refine lv_iconst (v := 1) hx hb dL_isPlayed_13 (by decide) ?_
      refine lv_icmp_eq (tgt := 34) hx hb dL_isPlayed_14 (by decide) (fun _ => ?_) (fun c9 => (c9 (by decide)).elim)
      refine lv_iconst (v := 1) hx hb dL_isPlayed_34 (by decide) ?_
      subst hQ
      exact g_zret hE hG hr (by decide) (Nat.le_of_ble_eq_true rfl) (Nat.le_of_ble_eq_true rfl) dL_isPlayed_35 ⟨rfl, _, _, _, _, _, _, hC, h1, h2, h3, iOk_up hI (by omega), hR⟩
