/-! isTuned -/
theorem rP_s {d : gDt} {gp : Nat → Int32} {u tn : Nat} {x : Int32} (h : rP d gp) (hu : u < 4) (ht : tn < 7) : rP (sL (gD d 4 (upd (d 4) ((8 : Int32) * nI u + nI (tn + 1)).toNatClampNeg x)) 0) (upd gp (7 * u + tn) x) := by
  refine ⟨fun s k hs hk => ?_, fun s hs => (pk_un (by omega)).trans (h.2 s hs)⟩
  show upd gp (7 * u + tn) x (7 * s + k) = upd (d 4) ((8 : Int32) * nI u + nI (tn + 1)).toNatClampNeg x (8 * s + k + 1)
  rw [pit_ix hu ht]
  by_cases e : s = u ∧ k = tn
  · obtain ⟨rfl, rfl⟩ := e
    rw [pk_us, pk_us]
  · rw [pk_un (by omega), pk_un (by omega)]
    exact h.1 s k hs hk
theorem rP_d {d : gDt} {gp : Nat → Int32} {u : Nat} {x : Int32} (h : rP d gp) (hu : u < 4) : rP (sL (gD d 5 (upd (d 5) (nI u).toNatClampNeg x)) 0) (upd gp (28 + u) x) := by
  refine ⟨fun s k hs hk => (pk_un (by omega)).trans (h.1 s k hs hk), fun s hs => ?_⟩
  show upd gp (28 + u) x (28 + s) = upd (d 5) (nI u).toNatClampNeg x s
  rw [nI_clamp (by omega)]
  by_cases e : s = u
  · rw [e, pk_us, pk_us]
  · rw [pk_un (by omega), pk_un e]
    exact h.2 s hs
/-- the law's pitches when k of them have aged -/
def yrL (gp : Nat → Int32) (k : Nat) : Nat → Int32 := fun j => if j < 28 then f_ags (gp (28 + j / 7)) (k / 28 + (if j < k % 28 then 1 else 0)) (gp j) else gp j
theorem yrL_0 (gp : Nat → Int32) : gp = yrL gp 0 := by
  funext j
  unfold yrL
  by_cases h : j < 28
  · rw [if_pos h]; rfl
  · rw [if_neg h]
theorem yrL_a (gp : Nat → Int32) (k : Nat) : yrL gp k (k % 28) = f_ags (gp (28 + k % 28 / 7)) (k / 28) (gp (k % 28)) := by
  unfold yrL
  rw [if_pos (Nat.mod_lt _ (by decide)), if_neg (Nat.lt_irrefl _), Nat.add_zero]
theorem yrL_r (gp : Nat → Int32) (k q : Nat) : yrL gp k (28 + q) = gp (28 + q) := by
  unfold yrL
  rw [if_neg (by omega)]
theorem yrL_s (gp : Nat → Int32) (k : Nat) : upd (upd (yrL gp k) (k % 28) (f_ags (gp (28 + k % 28 / 7)) (k / 28) (gp (k % 28)) - f_ags (gp (28 + k % 28 / 7)) (k / 28) (gp (k % 28)) * gp (28 + k % 28 / 7) / 10000)) (k % 28) (f_ag1 (gp (28 + k % 28 / 7)) (f_ags (gp (28 + k % 28 / 7)) (k / 28) (gp (k % 28)))) = yrL gp (k + 1) := by
  funext j
  by_cases hj : j = k % 28
  · subst hj
    rw [pk_us]
    unfold yrL
    rw [if_pos (Nat.mod_lt _ (by decide)), ← f_ags_s]
    congr 1
    split <;> omega
  · rw [pk_un hj, pk_un hj]
    unfold yrL
    by_cases h : j < 28
    · rw [if_pos h, if_pos h]
      congr 1
      split <;> split <;> omega
    · rw [if_neg h, if_neg h]
theorem rP_y {d : gDt} {gp : Nat → Int32} {my : Nat} {x : Int32} (h : rP d gp) (hm : my < 1000) : rP (sL (gD (gD d 4 (m_yrs d (nI my).toNatClampNeg)) 9 (upd (d 9) 12 x)) 0) (yrL gp (28 * my)) := by
  rw [nI_clamp (by omega)]
  refine ⟨fun s k hs hk => ?_, fun s hs => (yrL_r gp _ s).trans (h.2 s hs)⟩
  show yrL gp (28 * my) (7 * s + k) = m_yrs d my (8 * s + k + 1)
  unfold yrL m_yrs f_cp
  have e1 : 28 * my % 28 = 0 := by omega
  have e2 : 28 * my / 28 = my := by omega
  rw [if_pos (show 7 * s + k < 28 by omega), if_pos (show 8 * s + k + 1 < 32 by omega), e2, e1, if_neg (Nat.not_lt_zero _), Nat.add_zero]
  show _ = f_ags (d 5 ((8 * s + k + 1) / 8)) my (d 4 (8 * s + k + 1))
  rw [show (7 * s + k) / 7 = s by omega, show (8 * s + k + 1) / 8 = s by omega, h.1 s k hs hk, h.2 s hs]
/-- the law's pitches when k tones are tuned -/
def tuL (gp : Nat → Int32) (u v k : Nat) : Nat → Int32 := fun j => if 7 * u ≤ j ∧ j < 7 * u + k then m_tun (gp (7 * u)).toInt64 (gp (7 * v)).toInt64 (gp j) else gp j
theorem tuL_0 (gp : Nat → Int32) (u v : Nat) : gp = tuL gp u v 0 := by
  funext j
  unfold tuL
  rw [if_neg (by omega)]
theorem tuL_o {gp : Nat → Int32} {u v k j : Nat} (h : ¬ (7 * u ≤ j ∧ j < 7 * u + k)) : tuL gp u v k j = gp j := if_neg h
theorem tuL_s {gp : Nat → Int32} {u v k : Nat} {x : Int32} (e : x = m_tun (gp (7 * u)).toInt64 (gp (7 * v)).toInt64 (gp (7 * u + k))) : upd (tuL gp u v k) (7 * u + k) x = tuL gp u v (k + 1) := by
  funext j
  by_cases hj : j = 7 * u + k
  · subst hj
    rw [pk_us, e]
    unfold tuL
    rw [if_pos (by omega)]
  · rw [pk_un hj]
    unfold tuL
    by_cases h : 7 * u ≤ j ∧ j < 7 * u + k
    · rw [if_pos h, if_pos (by omega)]
    · rw [if_neg h, if_neg (by omega)]
theorem lc_lt {x y : Int64} : lg_cmp x y < 0 ↔ x < y := by
  unfold lg_cmp
  by_cases h1 : y < x
  · have h2 : ¬ x < y := by rw [Int64.lt_iff_toInt_lt] at h1 ⊢; omega
    simp [h1, h2]
  · by_cases h2 : x = y
    · subst h2; simp [h1]
    · have h3 : x < y := by
        rw [Int64.lt_iff_toInt_lt] at h1 ⊢
        have : x.toInt ≠ y.toInt := fun h => h2 (Int64.toInt_inj.mp h)
        omega
      simp [h1, h2, h3]
theorem lc_gt {x y : Int64} : 0 < lg_cmp x y ↔ y < x := by
  unfold lg_cmp
  by_cases h1 : y < x
  · simp [h1]
  · by_cases h2 : x = y
    · simp [h1, h2]
    · simp [h1, h2]
theorem tu_hi {o q : Int64} {a : Int32} (h : ¬ lg_cmp (a.toInt64 * q / o) 200000 ≤ 0) : (200000 : Int32) = m_tun o q a := by
  have h1 : (200000 : Int64) < a.toInt64 * q / o := lc_gt.mp (Int32.not_le.mp h)
  have h2 : 0 ≤ lg_cmp (a.toInt64 * q / o) 5000 := Int32.not_lt.mp (fun g => by
    have g1 := lc_lt.mp g
    rw [Int64.lt_iff_toInt_lt] at g1 h1
    have e1 : (200000 : Int64).toInt = 200000 := by decide
    have e2 : (5000 : Int64).toInt = 5000 := by decide
    omega)
  unfold m_tun
  rw [if_pos h2, if_neg h]
theorem tu_lo {o q : Int64} {a : Int32} (h : ¬ 0 ≤ lg_cmp (a.toInt64 * q / o) 5000) : (5000 : Int32) = m_tun o q a := by
  unfold m_tun
  rw [if_neg h]
theorem tu_mid {o q : Int64} {a : Int32} (h : 0 ≤ lg_cmp (a.toInt64 * q / o) 5000) (h2 : lg_cmp (a.toInt64 * q / o) 200000 ≤ 0) : (a.toInt64 * q / o).toInt32 = m_tun o q a := by
  unfold m_tun
  rw [if_pos h, if_pos h2]
theorem rP_t {d : gDt} {gp : Nat → Int32} {u v : Nat} (h : rP d gp) (hu : u < 4) (hv : v < 4) : rP (sL (gD d 4 (m_tunD d (nI u) (nI v))) 0) (tuL gp u v 7) := by
  refine ⟨fun s k hs hk => ?_, fun s hs => (tuL_o (by omega)).trans (h.2 s hs)⟩
  show tuL gp u v 7 (7 * s + k) = m_tunD d (nI u) (nI v) (8 * s + k + 1)
  have h1 := h.1 u 0 hu (by decide)
  have h2 := h.1 v 0 hv (by decide)
  unfold m_tunD f_cpO
  rw [nI_clamp (by omega), nI_clamp (by omega)]
  by_cases e : s = u
  · subst e
    rw [if_pos (by omega)]
    unfold tuL
    rw [if_pos (by omega)]
    show _ = m_tun (d 4 (8 * s + 1)).toInt64 (d 4 (8 * v + 1)).toInt64 (d 4 (8 * s + k + 1))
    rw [← h.1 s k hs hk]
    rw [Nat.add_zero] at h1 h2
    rw [h1, h2]
  · rw [if_neg (by omega), tuL_o (by omega)]
    exact h.1 s k hs hk
abbrev rm_L_isTuned : Room := { frames := 11, cells := 20, slots := 200, locals := 410 }
theorem nm_L_isTuned : gNm yL_isTuned 5 := ⟨by decide +kernel, by decide +kernel, by decide +kernel⟩
set_option maxHeartbeats 4000000 in
set_option maxRecDepth 100000 in
theorem c_L_isTuned (l : Launch) (hfl : l.stackTraces = false) (D : va_G) (tc : Nat → ClassId) (A : Nat → Prop) (w : gW) (oa : Nat) (ac : Nat) (am : Nat) (ap : Nat) (B : Nat) (way : Nat) (Z : Nat) (hH : hO tc oa ac am ap B w) (hB : B ≤ 50000) (hway : way < 4) (hZ : Z < 1000000000) : gM l yL_isTuned cL_isTuned 12 (some .boolean) rm_L_isTuned D tc A [.ref oa, .ref am, .ref ap, .int (nI way), .int (nI Z)] w (fun v w' => v = some (.int 1) ∧ hO tc oa ac am ap (B + 300) w') (fun _ => False) := by
  refine gM_of (by decide +kernel) (Nat.le_of_ble_eq_true rfl) ?_
  intro p e s m args below meth c ls Q hQ hE hG hr hnt hnm hl
  have hx := hE.1
  have hb := hE.2.1
  have hl : lv_has ls 12 [(0, .ref oa), (1, .ref am), (2, .ref ap), (3, .int (nI way)), (4, .int (nI Z))] := hl
  obtain ⟨d, tk, st, gc, gm, gp, hC, h1, h2, h3, hI, hR⟩ := hH
  obtain ⟨hRA, hRB, hRT, hRU, hRP⟩ := id hR
  obtain ⟨⟨hm4, hm5, hm6, hm7, hm8, hm9, hm10, hm11, hm12, hm13, hm14⟩, h01, ⟨nV, hnV, enV⟩, ⟨nE, hnE, enE⟩, ⟨nT, hnT, enT⟩, ⟨nY, hnY, enY⟩, hb9⟩ := id hRB
  have hnF := hRA.1.1
  have hnP := hRA.1.2.1
  have hnU := hRA.1.2.2
  have hm13n := hm13.trans enT
  have hm14n := hm14.trans enY
  have hm11n := hm11.trans enE
  refine lv_iload hx hb dL_isTuned_0 (lv_at hl 4 rfl) ?_
  refine lv_iconst (v := 4) hx hb dL_isTuned_2 (by decide) ?_
  refine lv_irem hx hb dL_isTuned_3 (by decide) ?_
  refine lv_topi (fun k_1 ek_1 => ?_)
  obtain rfl : k_1 = nI (Z % 4) := ek_1.trans (pk_rem (a := Z) (d := 4) (by omega) (by omega) (by omega))
  refine lv_topi (fun k_2 ek_2 => ?_)
  obtain ⟨u, hu, rfl⟩ : ∃ u : Nat, (u < 4) ∧ k_2 = nI u := ⟨Z % 4, by omega, ek_2⟩
  refine lv_istore (lv' := [(5, .int (nI u)), (0, .ref oa), (1, .ref am), (2, .ref ap), (3, .int (nI way)), (4, .int (nI Z))]) hx hb dL_isTuned_4 hl (by decide) rfl (fun ls hl => ?_)
  refine lv_iload_n hx hb dL_isTuned_6 rfl (lv_at hl 4 rfl) ?_
  refine lv_if_ne (tgt := 77) hx hb dL_isTuned_7 (by decide) (fun c_3 => ?_) (fun c_3 => ?_)
  · skip
    have nc_3 : ¬ (way = 0) := fun h9 => c_3 ((nI_eq (a := way) (b := 0) (by omega) (by omega)).mpr h9)
    refine lv_iload_n hx hb dL_isTuned_77 rfl (lv_at hl 4 rfl) ?_
    refine lv_iconst (v := 1) hx hb dL_isTuned_78 (by decide) ?_
    refine lv_icmp_ne (tgt := 129) hx hb dL_isTuned_79 (by decide) (fun c_4 => ?_) (fun c_4 => ?_)
    · skip
      have nc_4 : ¬ (way = 1) := fun h9 => c_4 ((nI_eq (a := way) (b := 1) (by omega) (by omega)).mpr h9)
      refine lv_iload_n hx hb dL_isTuned_129 rfl (lv_at hl 4 rfl) ?_
      refine lv_iconst (v := 2) hx hb dL_isTuned_130 (by decide) ?_
      refine lv_icmp_ne (tgt := 262) hx hb dL_isTuned_131 (by decide) (fun c_5 => ?_) (fun c_5 => ?_)
      · skip
        have nc_5 : ¬ (way = 2) := fun h9 => c_5 ((nI_eq (a := way) (b := 2) (by omega) (by omega)).mpr h9)
        refine lv_iload hx hb dL_isTuned_262 (lv_at hl 0 rfl) ?_
        refine lv_iconst (v := 1) hx hb dL_isTuned_264 (by decide) ?_
        refine lv_iadd hx hb dL_isTuned_265 ?_
        refine lv_topi (fun k_6 ek_6 => ?_)
        obtain rfl : k_6 = nI (u + 1) := ek_6.trans (nI_add u 1)
        refine lv_iload hx hb dL_isTuned_266 (lv_at hl 5 rfl) ?_
        refine lv_iconst (v := 4) hx hb dL_isTuned_268 (by decide) ?_
        refine lv_idiv hx hb dL_isTuned_269 (by decide) ?_
        refine lv_topi (fun k_7 ek_7 => ?_)
        obtain rfl : k_7 = nI (Z / 4) := ek_7.trans (pk_div (a := Z) (d := 4) (by omega) (by omega) (by omega))
        refine lv_iconst (v := 3) hx hb dL_isTuned_270 (by decide) ?_
        refine lv_irem hx hb dL_isTuned_271 (by decide) ?_
        refine lv_topi (fun k_8 ek_8 => ?_)
        obtain rfl : k_8 = nI ((Z / 4) % 3) := ek_8.trans (pk_rem (a := (Z / 4)) (d := 3) (by omega) (by omega) (by omega))
        refine lv_iadd hx hb dL_isTuned_272 ?_
        refine lv_topi (fun k_9 ek_9 => ?_)
        obtain rfl : k_9 = nI ((u + 1) + ((Z / 4) % 3)) := ek_9.trans (nI_add (u + 1) ((Z / 4) % 3))
        refine lv_iconst (v := 4) hx hb dL_isTuned_273 (by decide) ?_
        refine lv_irem hx hb dL_isTuned_274 (by decide) ?_
        refine lv_topi (fun k_10 ek_10 => ?_)
        obtain rfl : k_10 = nI (((u + 1) + ((Z / 4) % 3)) % 4) := ek_10.trans (pk_rem (a := ((u + 1) + ((Z / 4) % 3))) (d := 4) (by omega) (by omega) (by omega))
        refine lv_topi (fun k_11 ek_11 => ?_)
        obtain ⟨v, hv4, hvu, rfl⟩ : ∃ v : Nat, v < 4 ∧ v ≠ u ∧ k_11 = nI v := ⟨(u + 1 + Z / 4 % 3) % 4, by omega, by omega, ek_11⟩
        refine lv_istore (lv' := [(6, .int (nI v)), (5, .int (nI u)), (0, .ref oa), (1, .ref am), (2, .ref ap), (3, .int (nI way)), (4, .int (nI Z))]) hx hb dL_isTuned_275 hl (by decide) rfl (fun ls hl => ?_)
        refine lv_aload_n hx hb dL_isTuned_277 rfl (lv_at hl 4 rfl) ?_
        refine lv_bipush (v := 7) hx hb dL_isTuned_278 (by decide) ?_
        refine lv_iload hx hb dL_isTuned_280 (lv_at hl 1 rfl) ?_
        refine lv_imul hx hb dL_isTuned_282 ?_
        refine lv_topi (fun k_12 ek_12 => ?_)
        obtain rfl : k_12 = nI (7 * u) := ek_12.trans (pk_mul 7 u)
        refine g_ialdN hE hG h3 (7 * u) rfl (by omega) (by decide) dL_isTuned_283 ?_
        refine lv_i2l (v := (gp (7 * u)).toInt64) hx hb dL_isTuned_284 rfl ?_
        refine lv_lstore (lv' := [(7, .long ((gp (7 * u)).toInt64)), (6, .int (nI v)), (5, .int (nI u)), (0, .ref oa), (1, .ref am), (2, .ref ap), (3, .int (nI way)), (4, .int (nI Z))]) hx hb dL_isTuned_285 hl (by decide) rfl (fun ls hl => ?_)
        refine lv_iconst (v := 0) hx hb dL_isTuned_287 (by decide) ?_
        refine lv_istore (lv' := [(9, .int 0), (7, .long ((gp (7 * u)).toInt64)), (6, .int (nI v)), (5, .int (nI u)), (0, .ref oa), (1, .ref am), (2, .ref ap), (3, .int (nI way)), (4, .int (nI Z))]) hx hb dL_isTuned_288 hl (by decide) rfl (fun ls hl => ?_)
        have hnz : ¬ (gp (7 * u)).toInt64 = 0 := by have h9 := hRP.1 u 0 hu (by decide); rw [Nat.add_zero] at h9; rw [h9]; exact pOk_nz hI.2.2.2.1 hu
        have hlp_13 : ∀ (kv k : Nat) (gx : Nat → Int32) (wx : gW) (H : Heap) (locs : List Loc) (ls : Array Slot), k + kv = 7 → gx = tuL gp u v k → wx 1002 = some (ap, .inl (tc 0, 32, .inl gx)) → (∀ q9, q9 ≠ 1002 → wx q9 = w q9) → gS D A s.heap wx H locs → lv_has ls 12 [(9, .int (nI k)), (7, .long ((gp (7 * u)).toInt64)), (6, .int (nI v)), (5, .int (nI u)), (0, .ref oa), (1, .ref am), (2, .ref ap), (3, .int (nI way)), (4, .int (nI Z))] → W p l e rm_L_isTuned s m args below meth c H locs 0 0 Q (F0 m 290 ls []) := by
          intro kv
          induction kv with
          | zero =>
            intro k gx wx H locs ls hk hgx hw2 hfr hG hl
            have h_14 : wx 1000 = some (ac, .inl (tc 1, 15, .inr (.inl gc))) := (hfr 1000 (by decide)).trans h1
            have h_15 : wx 1001 = some (am, .inl (tc 0, 19, .inl gm)) := (hfr 1001 (by decide)).trans h2
            have ek9 : k = 7 := by omega
            rw [ek9] at hl hgx
            have hC : cO tc wx oa d tk st := cO_g hC hI.1 (fun q9 hq9 => hfr q9 (by omega))
            refine lv_iload hx hb dL_isTuned_290 (lv_at hl 0 rfl) ?_
            refine lv_bipush (v := 7) hx hb dL_isTuned_292 (by decide) ?_
            refine lv_icmp_ge (tgt := 371) hx hb dL_isTuned_294 (by decide) (fun c9 => ?_) (fun c9 => (c9 ((nI_leI (a := 7) (b := 7) (by omega) (by omega)).mpr (by omega))).elim)
            refine lv_aload_n hx hb dL_isTuned_371 rfl (lv_at hl 4 rfl) ?_
            refine lv_iload hx hb dL_isTuned_372 (lv_at hl 3 rfl) ?_
            refine lv_iload hx hb dL_isTuned_374 (lv_at hl 2 rfl) ?_
            obtain ⟨fsz_16, z_16⟩ := cO_z hC
            refine g_callV (rest := []) (As := [.int (nI u), .int (nI v)]) hE hG hl.1 (k_tune l hfl D tc A wx oa d tk st (nI u) (nI v) hC hI.1 hI.2.2.2.1 (go_tune hu hv4 (Ne.symm hvu))) z_16 rfl mw2_224 mw2_225 mw2_226 mw1_1 mw2_227 rfl nm_X5_tune ⟨⟨Nat.le_of_ble_eq_true rfl, Nat.le_of_ble_eq_true rfl⟩, Nat.le_of_ble_eq_true rfl, Nat.le_of_ble_eq_true rfl⟩ rfl rfl (Nat.le_of_ble_eq_true rfl) dL_isTuned_376 (g_no) ?_
            intro v9 w_17 H locs h9 hG
            obtain ⟨e9, hC, g_18⟩ := h9
            rw [e9]; clear e9
            show W p l e _ s m args below meth c H locs _ _ _ (F0 m 379 ls [.int ((m_tunD d (nI u) (nI v)) (8 * (nI u) + 1).toNatClampNeg)])
            have h_19 : w_17 1000 = some (ac, .inl (tc 1, 15, .inr (.inl gc))) := (g_18 1000 (by decide)).trans h_14
            have h_20 : w_17 1001 = some (am, .inl (tc 0, 19, .inl gm)) := (g_18 1001 (by decide)).trans h_15
            have h_21 : w_17 1002 = some (ap, .inl (tc 0, 32, .inl gx)) := (g_18 1002 (by decide)).trans hw2
            refine lv_aload_n hx hb dL_isTuned_379 rfl (lv_at hl 6 rfl) ?_
            refine lv_bipush (v := 7) hx hb dL_isTuned_380 (by decide) ?_
            refine lv_iload hx hb dL_isTuned_382 (lv_at hl 3 rfl) ?_
            refine lv_imul hx hb dL_isTuned_384 ?_
            refine lv_topi (fun k_22 ek_22 => ?_)
            obtain rfl : k_22 = nI (7 * u) := ek_22.trans (pk_mul 7 u)
            refine g_ialdN hE hG h_21 (7 * u) rfl (by omega) (by decide) dL_isTuned_385 ?_
            refine lv_icmp_ne (tgt := 393) hx hb dL_isTuned_386 (by decide) (fun c9 => (c9 (by rw [show (8 : Int32) * nI u + 1 = 8 * nI u + nI (0 + 1) from rfl, pit_ix hu (by decide), hgx]; exact ((rP_t hRP hu hv4).1 u 0 hu (by decide)).symm)).elim) (fun c9 => ?_)
            refine lv_iconst (v := 1) hx hb dL_isTuned_389 (by decide) ?_
            refine lv_goto (tgt := 394) hx hb dL_isTuned_390 (by decide) ?_
            subst hQ
            exact g_zret hE hG hr (by decide) (Nat.le_of_ble_eq_true rfl) (Nat.le_of_ble_eq_true rfl) dL_isTuned_394 ⟨rfl, _, _, _, _, _, _, hC, h_19, h_20, h_21, iOk_up (I_tune hI) (by omega), ⟨hRA, hRB, hRT, hRU, hgx ▸ rP_t hRP hu hv4⟩⟩
          | succ kv ih =>
            intro k gx wx H locs ls hk hgx hw2 hfr hG hl
            have h_23 : wx 1000 = some (ac, .inl (tc 1, 15, .inr (.inl gc))) := (hfr 1000 (by decide)).trans h1
            have h_24 : wx 1001 = some (am, .inl (tc 0, 19, .inl gm)) := (hfr 1001 (by decide)).trans h2
            have hg1 : gx (7 * u + k) = gp (7 * u + k) := by rw [hgx]; exact tuL_o (by omega)
            have hg2 : gx (7 * v) = gp (7 * v) := by rw [hgx]; exact tuL_o (by omega)
            refine lv_iload hx hb dL_isTuned_290 (lv_at hl 0 rfl) ?_
            refine lv_bipush (v := 7) hx hb dL_isTuned_292 (by decide) ?_
            refine lv_icmp_ge (tgt := 371) hx hb dL_isTuned_294 (by decide) (fun c9 => absurd c9 (fun h9 => absurd ((nI_leI (a := 7) (b := k) (by omega) (by omega)).mp h9) (by omega))) (fun c9 => ?_)
            refine lv_aload_n hx hb dL_isTuned_297 rfl (lv_at hl 6 rfl) ?_
            refine lv_bipush (v := 7) hx hb dL_isTuned_298 (by decide) ?_
            refine lv_iload hx hb dL_isTuned_300 (lv_at hl 3 rfl) ?_
            refine lv_imul hx hb dL_isTuned_302 ?_
            refine lv_topi (fun k_25 ek_25 => ?_)
            obtain rfl : k_25 = nI (7 * u) := ek_25.trans (pk_mul 7 u)
            refine lv_iload hx hb dL_isTuned_303 (lv_at hl 0 rfl) ?_
            refine lv_iadd hx hb dL_isTuned_305 ?_
            refine lv_topi (fun k_26 ek_26 => ?_)
            obtain rfl : k_26 = nI ((7 * u) + k) := ek_26.trans (nI_add (7 * u) k)
            refine g_ialdN hE hG hw2 ((7 * u) + k) rfl (by omega) (by decide) dL_isTuned_306 ?_
            rw [hg1]
            refine lv_i2l (v := (gp (7 * u + k)).toInt64) hx hb dL_isTuned_307 rfl ?_
            refine lv_aload_n hx hb dL_isTuned_308 rfl (lv_at hl 6 rfl) ?_
            refine lv_bipush (v := 7) hx hb dL_isTuned_309 (by decide) ?_
            refine lv_iload hx hb dL_isTuned_311 (lv_at hl 2 rfl) ?_
            refine lv_imul hx hb dL_isTuned_313 ?_
            refine lv_topi (fun k_27 ek_27 => ?_)
            obtain rfl : k_27 = nI (7 * v) := ek_27.trans (pk_mul 7 v)
            refine g_ialdN hE hG hw2 (7 * v) rfl (by omega) (by decide) dL_isTuned_314 ?_
            rw [hg2]
            refine lv_i2l (v := (gp (7 * v)).toInt64) hx hb dL_isTuned_315 rfl ?_
            refine lv_lmul hx hb dL_isTuned_316 ?_
            refine lv_lload hx hb dL_isTuned_317 (lv_at hl 1 rfl) ?_
            refine lv_ldiv hx hb dL_isTuned_319 hnz ?_
            refine lv_lstore (lv' := [(10, .long ((((gp (7 * u + k)).toInt64) * ((gp (7 * v)).toInt64)) / ((gp (7 * u)).toInt64))), (9, .int (nI k)), (7, .long ((gp (7 * u)).toInt64)), (6, .int (nI v)), (5, .int (nI u)), (0, .ref oa), (1, .ref am), (2, .ref ap), (3, .int (nI way)), (4, .int (nI Z))]) hx hb dL_isTuned_320 hl (by decide) rfl (fun ls hl => ?_)
            refine lv_aload_n hx hb dL_isTuned_322 rfl (lv_at hl 7 rfl) ?_
            refine lv_bipush (v := 7) hx hb dL_isTuned_323 (by decide) ?_
            refine lv_iload hx hb dL_isTuned_325 (lv_at hl 4 rfl) ?_
            refine lv_imul hx hb dL_isTuned_327 ?_
            refine lv_topi (fun k_28 ek_28 => ?_)
            obtain rfl : k_28 = nI (7 * u) := ek_28.trans (pk_mul 7 u)
            refine lv_iload hx hb dL_isTuned_328 (lv_at hl 1 rfl) ?_
            refine lv_iadd hx hb dL_isTuned_330 ?_
            refine lv_topi (fun k_29 ek_29 => ?_)
            obtain rfl : k_29 = nI ((7 * u) + k) := ek_29.trans (nI_add (7 * u) k)
            refine lv_lload hx hb dL_isTuned_331 (lv_at hl 0 rfl) ?_
            refine lv_ldc2 (v := 200000) hx hb hE.2.2.2.1 (hE.2.2.2.2.1 _ mw2_222) dL_isTuned_333 ?_
            refine W.lcmp hx hb dL_isTuned_336 ?_
            refine lv_if_le (tgt := 346) hx hb dL_isTuned_337 (by decide) (fun c_30 => ?_) (fun c_30 => ?_)
            · skip
              refine lv_lload hx hb dL_isTuned_346 (lv_at hl 0 rfl) ?_
              refine lv_ldc2 (v := 5000) hx hb hE.2.2.2.1 (hE.2.2.2.2.1 _ mw2_223) dL_isTuned_348 ?_
              refine W.lcmp hx hb dL_isTuned_351 ?_
              refine lv_if_ge (tgt := 361) hx hb dL_isTuned_352 (by decide) (fun c_31 => ?_) (fun c_31 => ?_)
              · skip
                refine lv_lload hx hb dL_isTuned_361 (lv_at hl 0 rfl) ?_
                refine lv_l2i (v := ((((gp (7 * u + k)).toInt64) * ((gp (7 * v)).toInt64)) / ((gp (7 * u)).toInt64)).toInt32) hx hb dL_isTuned_363 rfl ?_
                refine g_iastN hE hG hw2 ((7 * u) + k) rfl (by omega) (by decide) dL_isTuned_364 (fun H locs w_32 ew_32 hG => ?_)
                have h_33 : w_32 1000 = some (ac, .inl (tc 1, 15, .inr (.inl gc))) := gU_n ew_32 (by decide) h_23
                have h_34 : w_32 1001 = some (am, .inl (tc 0, 19, .inl gm)) := gU_n ew_32 (by decide) h_24
                have h_35 : w_32 1002 = some (ap, .inl (tc 0, 32, .inl (upd gx ((7 * u) + k) (((((gp (7 * u + k)).toInt64) * ((gp (7 * v)).toInt64)) / ((gp (7 * u)).toInt64)).toInt32)))) := gU_s ew_32
                refine lv_iinc (v := (nI (k + 1))) (lv' := [(9, .int (nI (k + 1))), (10, .long ((((gp (7 * u + k)).toInt64) * ((gp (7 * v)).toInt64)) / ((gp (7 * u)).toInt64))), (7, .long ((gp (7 * u)).toInt64)), (6, .int (nI v)), (5, .int (nI u)), (0, .ref oa), (1, .ref am), (2, .ref ap), (3, .int (nI way)), (4, .int (nI Z))]) hx hb dL_isTuned_365 hl (k := 1) rfl (nI_1 _) (by decide) rfl (fun ls hl => ?_)
                refine lv_goto (tgt := 290) hx hb dL_isTuned_368 (by decide) ?_
                exact ih (k + 1) _ _ _ _ _ (by omega) (by rw [hgx]; exact tuL_s (tu_mid c_31 c_30)) h_35 (fun q9 hq9 => by rw [ew_32, gU_ne _ _ hq9]; exact hfr q9 hq9) hG (lv_sub hl [0, 2, 3, 4, 5, 6, 7, 8, 9] rfl)
              · skip
                refine lv_ldc2 (v := 5000) hx hb hE.2.2.2.1 (hE.2.2.2.2.1 _ mw2_223) dL_isTuned_355 ?_
                refine lv_goto (tgt := 363) hx hb dL_isTuned_358 (by decide) ?_
                refine lv_l2i (v := 5000) hx hb dL_isTuned_363 (by decide) ?_
                refine g_iastN hE hG hw2 ((7 * u) + k) rfl (by omega) (by decide) dL_isTuned_364 (fun H locs w_36 ew_36 hG => ?_)
                have h_37 : w_36 1000 = some (ac, .inl (tc 1, 15, .inr (.inl gc))) := gU_n ew_36 (by decide) h_23
                have h_38 : w_36 1001 = some (am, .inl (tc 0, 19, .inl gm)) := gU_n ew_36 (by decide) h_24
                have h_39 : w_36 1002 = some (ap, .inl (tc 0, 32, .inl (upd gx ((7 * u) + k) 5000))) := gU_s ew_36
                refine lv_iinc (v := (nI (k + 1))) (lv' := [(9, .int (nI (k + 1))), (10, .long ((((gp (7 * u + k)).toInt64) * ((gp (7 * v)).toInt64)) / ((gp (7 * u)).toInt64))), (7, .long ((gp (7 * u)).toInt64)), (6, .int (nI v)), (5, .int (nI u)), (0, .ref oa), (1, .ref am), (2, .ref ap), (3, .int (nI way)), (4, .int (nI Z))]) hx hb dL_isTuned_365 hl (k := 1) rfl (nI_1 _) (by decide) rfl (fun ls hl => ?_)
                refine lv_goto (tgt := 290) hx hb dL_isTuned_368 (by decide) ?_
                exact ih (k + 1) _ _ _ _ _ (by omega) (by rw [hgx]; exact tuL_s (tu_lo c_31)) h_39 (fun q9 hq9 => by rw [ew_36, gU_ne _ _ hq9]; exact hfr q9 hq9) hG (lv_sub hl [0, 2, 3, 4, 5, 6, 7, 8, 9] rfl)
            · skip
              refine lv_ldc2 (v := 200000) hx hb hE.2.2.2.1 (hE.2.2.2.2.1 _ mw2_222) dL_isTuned_340 ?_
              refine lv_goto (tgt := 363) hx hb dL_isTuned_343 (by decide) ?_
              refine lv_l2i (v := 200000) hx hb dL_isTuned_363 (by decide) ?_
              refine g_iastN hE hG hw2 ((7 * u) + k) rfl (by omega) (by decide) dL_isTuned_364 (fun H locs w_40 ew_40 hG => ?_)
              have h_41 : w_40 1000 = some (ac, .inl (tc 1, 15, .inr (.inl gc))) := gU_n ew_40 (by decide) h_23
              have h_42 : w_40 1001 = some (am, .inl (tc 0, 19, .inl gm)) := gU_n ew_40 (by decide) h_24
              have h_43 : w_40 1002 = some (ap, .inl (tc 0, 32, .inl (upd gx ((7 * u) + k) 200000))) := gU_s ew_40
              refine lv_iinc (v := (nI (k + 1))) (lv' := [(9, .int (nI (k + 1))), (10, .long ((((gp (7 * u + k)).toInt64) * ((gp (7 * v)).toInt64)) / ((gp (7 * u)).toInt64))), (7, .long ((gp (7 * u)).toInt64)), (6, .int (nI v)), (5, .int (nI u)), (0, .ref oa), (1, .ref am), (2, .ref ap), (3, .int (nI way)), (4, .int (nI Z))]) hx hb dL_isTuned_365 hl (k := 1) rfl (nI_1 _) (by decide) rfl (fun ls hl => ?_)
              refine lv_goto (tgt := 290) hx hb dL_isTuned_368 (by decide) ?_
              exact ih (k + 1) _ _ _ _ _ (by omega) (by rw [hgx]; exact tuL_s (tu_hi c_30)) h_43 (fun q9 hq9 => by rw [ew_40, gU_ne _ _ hq9]; exact hfr q9 hq9) hG (lv_sub hl [0, 2, 3, 4, 5, 6, 7, 8, 9] rfl)
        exact hlp_13 7 0 _ _ _ _ _ (by omega) (tuL_0 gp u v) h3 (fun _ _ => rfl) hG (lv_sub hl [0, 1, 2, 3, 4, 5, 6, 7, 8] rfl)
      · skip
        have nc_5 : way = 2 := (nI_eq (a := way) (b := 2) (by omega) (by omega)).mp c_5
        refine lv_iconst (v := 1) hx hb dL_isTuned_134 (by decide) ?_
        refine lv_iload hx hb dL_isTuned_135 (lv_at hl 5 rfl) ?_
        refine lv_bipush (v := 9) hx hb dL_isTuned_137 (by decide) ?_
        refine lv_irem hx hb dL_isTuned_139 (by decide) ?_
        refine lv_topi (fun k_44 ek_44 => ?_)
        obtain rfl : k_44 = nI (Z % 9) := ek_44.trans (pk_rem (a := Z) (d := 9) (by omega) (by omega) (by omega))
        refine lv_topi (fun k_45 ek_45 => ?_)
        obtain ⟨z9, hz9, rfl⟩ : ∃ z9 : Nat, (z9 < 9) ∧ k_45 = nI z9 := ⟨Z % 9, by omega, ek_45⟩
        refine lv_iadd hx hb dL_isTuned_140 ?_
        refine lv_topi (fun k_46 ek_46 => ?_)
        obtain rfl : k_46 = nI (1 + z9) := ek_46.trans (nI_add 1 z9)
        refine lv_topi (fun k_47 ek_47 => ?_)
        obtain ⟨my, hmy1, hmy2, rfl⟩ : ∃ my : Nat, 1 ≤ my ∧ my ≤ 9 ∧ k_47 = nI my := ⟨1 + z9, by omega, by omega, ek_47⟩
        refine lv_istore (lv' := [(6, .int (nI my)), (5, .int (nI u)), (0, .ref oa), (1, .ref am), (2, .ref ap), (3, .int (nI way)), (4, .int (nI Z))]) hx hb dL_isTuned_141 hl (by decide) rfl (fun ls hl => ?_)
        refine lv_aload_n hx hb dL_isTuned_143 rfl (lv_at hl 3 rfl) ?_
        refine lv_bipush (v := 14) hx hb dL_isTuned_144 (by decide) ?_
        refine g_ialdN hE hG h2 14 rfl (by decide) (by decide) dL_isTuned_146 ?_
        rw [hm14n]
        refine lv_iload hx hb dL_isTuned_147 (lv_at hl 0 rfl) ?_
        refine lv_iadd hx hb dL_isTuned_149 ?_
        refine lv_topi (fun k_48 ek_48 => ?_)
        obtain rfl : k_48 = nI (nY + my) := ek_48.trans (nI_add nY my)
        refine lv_sipush (v := 300) hx hb dL_isTuned_150 (by decide) ?_
        refine lv_icmp_le (tgt := 158) hx hb dL_isTuned_153 (by decide) (fun c_49 => ?_) (fun c_49 => ?_)
        · skip
          have nc_49 : (nY + my) ≤ 300 := (nI_leI (a := (nY + my)) (b := 300) (by omega) (by omega)).mp c_49
          refine lv_iconst (v := 0) hx hb dL_isTuned_158 (by decide) ?_
          refine lv_istore (lv' := [(7, .int 0), (6, .int (nI my)), (5, .int (nI u)), (0, .ref oa), (1, .ref am), (2, .ref ap), (3, .int (nI way)), (4, .int (nI Z))]) hx hb dL_isTuned_159 hl (by decide) rfl (fun ls hl => ?_)
          have hlp_50 : ∀ (kv k : Nat) (gx : Nat → Int32) (wx : gW) (H : Heap) (locs : List Loc) (ls : Array Slot), k + kv = (28 * my) → gx = yrL gp k → wx 1002 = some (ap, .inl (tc 0, 32, .inl gx)) → (∀ q9, q9 ≠ 1002 → wx q9 = w q9) → gS D A s.heap wx H locs → lv_has ls 12 [(7, .int (nI k)), (6, .int (nI my)), (5, .int (nI u)), (0, .ref oa), (1, .ref am), (2, .ref ap), (3, .int (nI way)), (4, .int (nI Z))] → W p l e rm_L_isTuned s m args below meth c H locs 0 0 Q (F0 m 161 ls []) := by
            intro kv
            induction kv with
            | zero =>
              intro k gx wx H locs ls hk hgx hw2 hfr hG hl
              have h_51 : wx 1000 = some (ac, .inl (tc 1, 15, .inr (.inl gc))) := (hfr 1000 (by decide)).trans h1
              have h_52 : wx 1001 = some (am, .inl (tc 0, 19, .inl gm)) := (hfr 1001 (by decide)).trans h2
              have ek9 : k = (28 * my) := by omega
              rw [ek9] at hl hgx
              have hC : cO tc wx oa d tk st := cO_g hC hI.1 (fun q9 hq9 => hfr q9 (by omega))
              refine lv_iload hx hb dL_isTuned_161 (lv_at hl 0 rfl) ?_
              refine lv_bipush (v := 28) hx hb dL_isTuned_163 (by decide) ?_
              refine lv_iload hx hb dL_isTuned_165 (lv_at hl 1 rfl) ?_
              refine lv_imul hx hb dL_isTuned_167 ?_
              refine lv_topi (fun k_53 ek_53 => ?_)
              obtain rfl : k_53 = nI (28 * my) := ek_53.trans (pk_mul 28 my)
              refine lv_icmp_ge (tgt := 234) hx hb dL_isTuned_168 (by decide) (fun c9 => ?_) (fun c9 => (c9 ((nI_leI (a := (28 * my)) (b := (28 * my)) (by omega) (by omega)).mpr (by omega))).elim)
              refine lv_aload_n hx hb dL_isTuned_234 rfl (lv_at hl 4 rfl) ?_
              refine lv_bipush (v := 14) hx hb dL_isTuned_235 (by decide) ?_
              refine lv_dup2_11 hx hb dL_isTuned_237 rfl rfl ?_
              refine g_ialdN hE hG h_52 14 rfl (by decide) (by decide) dL_isTuned_238 ?_
              rw [hm14n]
              refine lv_iload hx hb dL_isTuned_239 (lv_at hl 1 rfl) ?_
              refine lv_iadd hx hb dL_isTuned_241 ?_
              refine lv_topi (fun k_54 ek_54 => ?_)
              obtain rfl : k_54 = nI (nY + my) := ek_54.trans (nI_add nY my)
              refine g_iastN hE hG h_52 14 rfl (by decide) (by decide) dL_isTuned_242 (fun H locs w_55 ew_55 hG => ?_)
              have h_56 : w_55 1000 = some (ac, .inl (tc 1, 15, .inr (.inl gc))) := gU_n ew_55 (by decide) h_51
              have h_57 : w_55 1002 = some (ap, .inl (tc 0, 32, .inl gx)) := gU_n ew_55 (by decide) hw2
              have h_58 : w_55 1001 = some (am, .inl (tc 0, 19, .inl (upd gm 14 (nI (nY + my))))) := gU_s ew_55
              refine lv_aload_n hx hb dL_isTuned_243 rfl (lv_at hl 3 rfl) ?_
              refine lv_iload hx hb dL_isTuned_244 (lv_at hl 1 rfl) ?_
              have hC : cO tc w_55 oa d tk st := cO_g hC hI.1 (fun k hk => by rw [ew_55, gU_ne _ _ (by omega)])
              obtain ⟨fsz_59, z_59⟩ := cO_z hC
              refine g_callV (rest := []) (As := [.int (nI my)]) hE hG hl.1 (k_years l hfl D tc A w_55 oa d tk st (nI my) hC hI.1 (go_years hmy1 (by omega) enY (by omega))) z_59 rfl mw2_211 mw2_212 mw2_213 mw1_1 mw2_214 rfl nm_X5_years ⟨⟨Nat.le_of_ble_eq_true rfl, Nat.le_of_ble_eq_true rfl⟩, Nat.le_of_ble_eq_true rfl, Nat.le_of_ble_eq_true rfl⟩ rfl rfl (Nat.le_of_ble_eq_true rfl) dL_isTuned_246 (g_no) ?_
              intro v9 w_60 H locs h9 hG
              obtain ⟨e9, hC, g_61⟩ := h9
              rw [e9]; clear e9
              show W p l e _ s m args below meth c H locs _ _ _ (F0 m 249 ls [.int (d 9 12 + (nI my))])
              have h_62 : w_60 1000 = some (ac, .inl (tc 1, 15, .inr (.inl gc))) := (g_61 1000 (by decide)).trans h_56
              have h_63 : w_60 1002 = some (ap, .inl (tc 0, 32, .inl gx)) := (g_61 1002 (by decide)).trans h_57
              have h_64 : w_60 1001 = some (am, .inl (tc 0, 19, .inl (upd gm 14 (nI (nY + my))))) := (g_61 1001 (by decide)).trans h_58
              refine lv_aload_n hx hb dL_isTuned_249 rfl (lv_at hl 4 rfl) ?_
              refine lv_bipush (v := 14) hx hb dL_isTuned_250 (by decide) ?_
              refine g_ialdN hE hG h_64 14 rfl (by decide) (by decide) dL_isTuned_252 ?_
              rw [show ((upd gm 14 (nI (nY + my))) 14) = (nI (nY + my)) from pk_us]
              refine lv_icmp_ne (tgt := 260) hx hb dL_isTuned_253 (by decide) (fun c9 => (c9 (by rw [enY, nI_add])).elim) (fun c9 => ?_)
              refine lv_iconst (v := 1) hx hb dL_isTuned_256 (by decide) ?_
              refine lv_goto (tgt := 261) hx hb dL_isTuned_257 (by decide) ?_
              have ey : nI (nY + my) = d 9 12 + nI my := by rw [enY, nI_add]
              subst hQ
              exact g_zret hE hG hr (by decide) (Nat.le_of_ble_eq_true rfl) (Nat.le_of_ble_eq_true rfl) dL_isTuned_261 ⟨rfl, _, _, _, _, _, _, hC, h_62, h_64, h_63, iOk_up (I_years hI) (by omega), ⟨(rA_cg hRA rfl rfl rfl rfl rfl rfl rfl (fun i hi => rfl) (fun i hi => pk_un (by omega))), ⟨⟨hm4, hm5, hm6, hm7, hm8, hm9, hm10, hm11, hm12, hm13, ey⟩, h01, ⟨nV, hnV, enV⟩, ⟨nE, hnE, enE⟩, ⟨nT, hnT, enT⟩, ⟨nY + my, by omega, ey.symm⟩, hb9⟩, hRT, (rU_cg hRU rfl rfl rfl rfl rfl (fun k hk => rfl) (fun u hu => pk_un (by omega))), hgx ▸ rP_y hRP (by omega)⟩⟩
            | succ kv ih =>
              intro k gx wx H locs ls hk hgx hw2 hfr hG hl
              have h_65 : wx 1000 = some (ac, .inl (tc 1, 15, .inr (.inl gc))) := (hfr 1000 (by decide)).trans h1
              have h_66 : wx 1001 = some (am, .inl (tc 0, 19, .inl gm)) := (hfr 1001 (by decide)).trans h2
              have hkm : k % 28 < 28 := Nat.mod_lt _ (by decide)
              have hga : gx (k % 28) = f_ags (gp (28 + k % 28 / 7)) (k / 28) (gp (k % 28)) := by rw [hgx]; exact yrL_a gp k
              have hgr : gx (28 + (k % 28) / 7) = gp (28 + k % 28 / 7) := by rw [hgx]; exact yrL_r gp k _
              refine lv_iload hx hb dL_isTuned_161 (lv_at hl 0 rfl) ?_
              refine lv_bipush (v := 28) hx hb dL_isTuned_163 (by decide) ?_
              refine lv_iload hx hb dL_isTuned_165 (lv_at hl 1 rfl) ?_
              refine lv_imul hx hb dL_isTuned_167 ?_
              refine lv_topi (fun k_67 ek_67 => ?_)
              obtain rfl : k_67 = nI (28 * my) := ek_67.trans (pk_mul 28 my)
              refine lv_icmp_ge (tgt := 234) hx hb dL_isTuned_168 (by decide) (fun c9 => absurd c9 (fun h9 => absurd ((nI_leI (a := (28 * my)) (b := k) (by omega) (by omega)).mp h9) (by omega))) (fun c9 => ?_)
              refine lv_iload hx hb dL_isTuned_171 (lv_at hl 0 rfl) ?_
              refine lv_bipush (v := 28) hx hb dL_isTuned_173 (by decide) ?_
              refine lv_irem hx hb dL_isTuned_175 (by decide) ?_
              refine lv_topi (fun k_68 ek_68 => ?_)
              obtain rfl : k_68 = nI (k % 28) := ek_68.trans (pk_rem (a := k) (d := 28) (by omega) (by omega) (by omega))
              refine lv_istore (lv' := [(8, .int (nI (k % 28))), (7, .int (nI k)), (6, .int (nI my)), (5, .int (nI u)), (0, .ref oa), (1, .ref am), (2, .ref ap), (3, .int (nI way)), (4, .int (nI Z))]) hx hb dL_isTuned_176 hl (by decide) rfl (fun ls hl => ?_)
              refine lv_aload_n hx hb dL_isTuned_178 rfl (lv_at hl 6 rfl) ?_
              refine lv_iload hx hb dL_isTuned_179 (lv_at hl 0 rfl) ?_
              refine lv_dup2_11 hx hb dL_isTuned_181 rfl rfl ?_
              refine g_ialdN hE hG hw2 (k % 28) rfl (by omega) (by decide) dL_isTuned_182 ?_
              rw [hga]
              refine lv_aload_n hx hb dL_isTuned_183 rfl (lv_at hl 6 rfl) ?_
              refine lv_iload hx hb dL_isTuned_184 (lv_at hl 0 rfl) ?_
              refine g_ialdN hE hG hw2 (k % 28) rfl (by omega) (by decide) dL_isTuned_186 ?_
              rw [hga]
              refine lv_aload_n hx hb dL_isTuned_187 rfl (lv_at hl 6 rfl) ?_
              refine lv_bipush (v := 28) hx hb dL_isTuned_188 (by decide) ?_
              refine lv_iload hx hb dL_isTuned_190 (lv_at hl 0 rfl) ?_
              refine lv_bipush (v := 7) hx hb dL_isTuned_192 (by decide) ?_
              refine lv_idiv hx hb dL_isTuned_194 (by decide) ?_
              refine lv_topi (fun k_69 ek_69 => ?_)
              obtain rfl : k_69 = nI ((k % 28) / 7) := ek_69.trans (pk_div (a := (k % 28)) (d := 7) (by omega) (by omega) (by omega))
              refine lv_iadd hx hb dL_isTuned_195 ?_
              refine lv_topi (fun k_70 ek_70 => ?_)
              obtain rfl : k_70 = nI (28 + ((k % 28) / 7)) := ek_70.trans (nI_add 28 ((k % 28) / 7))
              refine g_ialdN hE hG hw2 (28 + ((k % 28) / 7)) rfl (by omega) (by decide) dL_isTuned_196 ?_
              rw [hgr]
              refine lv_imul hx hb dL_isTuned_197 ?_
              refine lv_sipush (v := 10000) hx hb dL_isTuned_198 (by decide) ?_
              refine lv_idiv hx hb dL_isTuned_201 (by decide) ?_
              refine lv_isub hx hb dL_isTuned_202 ?_
              refine g_iastN hE hG hw2 (k % 28) rfl (by omega) (by decide) dL_isTuned_203 (fun H locs w_71 ew_71 hG => ?_)
              have h_72 : w_71 1000 = some (ac, .inl (tc 1, 15, .inr (.inl gc))) := gU_n ew_71 (by decide) h_65
              have h_73 : w_71 1001 = some (am, .inl (tc 0, 19, .inl gm)) := gU_n ew_71 (by decide) h_66
              have h_74 : w_71 1002 = some (ap, .inl (tc 0, 32, .inl (upd gx (k % 28) ((f_ags (gp (28 + k % 28 / 7)) (k / 28) (gp (k % 28))) - (((f_ags (gp (28 + k % 28 / 7)) (k / 28) (gp (k % 28))) * (gp (28 + k % 28 / 7))) / 10000))))) := gU_s ew_71
              refine lv_aload_n hx hb dL_isTuned_204 rfl (lv_at hl 6 rfl) ?_
              refine lv_iload hx hb dL_isTuned_205 (lv_at hl 0 rfl) ?_
              refine lv_aload_n hx hb dL_isTuned_207 rfl (lv_at hl 6 rfl) ?_
              refine lv_iload hx hb dL_isTuned_208 (lv_at hl 0 rfl) ?_
              refine g_ialdN hE hG h_74 (k % 28) rfl (by omega) (by decide) dL_isTuned_210 ?_
              rw [show ((upd gx (k % 28) ((f_ags (gp (28 + k % 28 / 7)) (k / 28) (gp (k % 28))) - (((f_ags (gp (28 + k % 28 / 7)) (k / 28) (gp (k % 28))) * (gp (28 + k % 28 / 7))) / 10000))) (k % 28)) = ((f_ags (gp (28 + k % 28 / 7)) (k / 28) (gp (k % 28))) - (((f_ags (gp (28 + k % 28 / 7)) (k / 28) (gp (k % 28))) * (gp (28 + k % 28 / 7))) / 10000)) from pk_us]
              refine lv_sipush (v := 5000) hx hb dL_isTuned_211 (by decide) ?_
              refine lv_icmp_ge (tgt := 223) hx hb dL_isTuned_214 (by decide) (fun c_75 => ?_) (fun c_75 => ?_)
              · skip
                refine lv_aload_n hx hb dL_isTuned_223 rfl (lv_at hl 6 rfl) ?_
                refine lv_iload hx hb dL_isTuned_224 (lv_at hl 0 rfl) ?_
                refine g_ialdN hE hG h_74 (k % 28) rfl (by omega) (by decide) dL_isTuned_226 ?_
                rw [show ((upd gx (k % 28) ((f_ags (gp (28 + k % 28 / 7)) (k / 28) (gp (k % 28))) - (((f_ags (gp (28 + k % 28 / 7)) (k / 28) (gp (k % 28))) * (gp (28 + k % 28 / 7))) / 10000))) (k % 28)) = ((f_ags (gp (28 + k % 28 / 7)) (k / 28) (gp (k % 28))) - (((f_ags (gp (28 + k % 28 / 7)) (k / 28) (gp (k % 28))) * (gp (28 + k % 28 / 7))) / 10000)) from pk_us]
                refine g_iastN hE hG h_74 (k % 28) rfl (by omega) (by decide) dL_isTuned_227 (fun H locs w_76 ew_76 hG => ?_)
                have h_77 : w_76 1000 = some (ac, .inl (tc 1, 15, .inr (.inl gc))) := gU_n ew_76 (by decide) h_72
                have h_78 : w_76 1001 = some (am, .inl (tc 0, 19, .inl gm)) := gU_n ew_76 (by decide) h_73
                have h_79 : w_76 1002 = some (ap, .inl (tc 0, 32, .inl (upd (upd gx (k % 28) ((f_ags (gp (28 + k % 28 / 7)) (k / 28) (gp (k % 28))) - (((f_ags (gp (28 + k % 28 / 7)) (k / 28) (gp (k % 28))) * (gp (28 + k % 28 / 7))) / 10000))) (k % 28) ((f_ags (gp (28 + k % 28 / 7)) (k / 28) (gp (k % 28))) - (((f_ags (gp (28 + k % 28 / 7)) (k / 28) (gp (k % 28))) * (gp (28 + k % 28 / 7))) / 10000))))) := gU_s ew_76
                refine lv_iinc (v := (nI (k + 1))) (lv' := [(7, .int (nI (k + 1))), (8, .int (nI (k % 28))), (6, .int (nI my)), (5, .int (nI u)), (0, .ref oa), (1, .ref am), (2, .ref ap), (3, .int (nI way)), (4, .int (nI Z))]) hx hb dL_isTuned_228 hl (k := 1) rfl (nI_1 _) (by decide) rfl (fun ls hl => ?_)
                refine lv_goto (tgt := 161) hx hb dL_isTuned_231 (by decide) ?_
                exact ih (k + 1) _ _ _ _ _ (by omega) (by rw [hgx, ← yrL_s gp k]; unfold f_ag1; rw [if_neg (Int32.not_lt.mpr c_75)]) h_79 (fun q9 hq9 => by rw [ew_76, gU_ne _ _ hq9, ew_71, gU_ne _ _ hq9]; exact hfr q9 hq9) hG (lv_sub hl [0, 2, 3, 4, 5, 6, 7, 8] rfl)
              · skip
                refine lv_sipush (v := 5000) hx hb dL_isTuned_217 (by decide) ?_
                refine lv_goto (tgt := 227) hx hb dL_isTuned_220 (by decide) ?_
                refine g_iastN hE hG h_74 (k % 28) rfl (by omega) (by decide) dL_isTuned_227 (fun H locs w_80 ew_80 hG => ?_)
                have h_81 : w_80 1000 = some (ac, .inl (tc 1, 15, .inr (.inl gc))) := gU_n ew_80 (by decide) h_72
                have h_82 : w_80 1001 = some (am, .inl (tc 0, 19, .inl gm)) := gU_n ew_80 (by decide) h_73
                have h_83 : w_80 1002 = some (ap, .inl (tc 0, 32, .inl (upd (upd gx (k % 28) ((f_ags (gp (28 + k % 28 / 7)) (k / 28) (gp (k % 28))) - (((f_ags (gp (28 + k % 28 / 7)) (k / 28) (gp (k % 28))) * (gp (28 + k % 28 / 7))) / 10000))) (k % 28) 5000))) := gU_s ew_80
                refine lv_iinc (v := (nI (k + 1))) (lv' := [(7, .int (nI (k + 1))), (8, .int (nI (k % 28))), (6, .int (nI my)), (5, .int (nI u)), (0, .ref oa), (1, .ref am), (2, .ref ap), (3, .int (nI way)), (4, .int (nI Z))]) hx hb dL_isTuned_228 hl (k := 1) rfl (nI_1 _) (by decide) rfl (fun ls hl => ?_)
                refine lv_goto (tgt := 161) hx hb dL_isTuned_231 (by decide) ?_
                exact ih (k + 1) _ _ _ _ _ (by omega) (by rw [hgx, ← yrL_s gp k]; unfold f_ag1; rw [if_pos (Int32.not_le.mp c_75)]) h_83 (fun q9 hq9 => by rw [ew_80, gU_ne _ _ hq9, ew_71, gU_ne _ _ hq9]; exact hfr q9 hq9) hG (lv_sub hl [0, 2, 3, 4, 5, 6, 7, 8] rfl)
          exact hlp_50 (28 * my) 0 _ _ _ _ _ (by omega) (yrL_0 gp) h3 (fun _ _ => rfl) hG (lv_sub hl [0, 1, 2, 3, 4, 5, 6, 7] rfl)
        · skip
          have nc_49 : ¬ ((nY + my) ≤ 300) := fun h9 => c_49 ((nI_leI (a := (nY + my)) (b := 300) (by omega) (by omega)).mpr h9)
          refine lv_iconst (v := 1) hx hb dL_isTuned_156 (by decide) ?_
          subst hQ
          exact g_zret hE hG hr (by decide) (Nat.le_of_ble_eq_true rfl) (Nat.le_of_ble_eq_true rfl) dL_isTuned_157 ⟨rfl, _, _, _, _, _, _, hC, h1, h2, h3, iOk_up hI (by omega), hR⟩
    · skip
      have nc_4 : way = 1 := (nI_eq (a := way) (b := 1) (by omega) (by omega)).mp c_4
      refine lv_aload_n hx hb dL_isTuned_82 rfl (lv_at hl 3 rfl) ?_
      refine lv_bipush (v := 28) hx hb dL_isTuned_83 (by decide) ?_
      refine lv_iload hx hb dL_isTuned_85 (lv_at hl 0 rfl) ?_
      refine lv_iadd hx hb dL_isTuned_87 ?_
      refine lv_topi (fun k_84 ek_84 => ?_)
      obtain rfl : k_84 = nI (28 + u) := ek_84.trans (nI_add 28 u)
      refine g_ialdN hE hG h3 (28 + u) rfl (by omega) (by decide) dL_isTuned_88 ?_
      refine lv_istore (lv' := [(6, .int (gp (28 + u))), (5, .int (nI u)), (0, .ref oa), (1, .ref am), (2, .ref ap), (3, .int (nI way)), (4, .int (nI Z))]) hx hb dL_isTuned_89 hl (by decide) rfl (fun ls hl => ?_)
      refine lv_aload_n hx hb dL_isTuned_91 rfl (lv_at hl 4 rfl) ?_
      refine lv_bipush (v := 28) hx hb dL_isTuned_92 (by decide) ?_
      refine lv_iload hx hb dL_isTuned_94 (lv_at hl 1 rfl) ?_
      refine lv_iadd hx hb dL_isTuned_96 ?_
      refine lv_topi (fun k_85 ek_85 => ?_)
      obtain rfl : k_85 = nI (28 + u) := ek_85.trans (nI_add 28 u)
      refine lv_iload hx hb dL_isTuned_97 (lv_at hl 6 rfl) ?_
      refine lv_iconst (v := 4) hx hb dL_isTuned_99 (by decide) ?_
      refine lv_idiv hx hb dL_isTuned_100 (by decide) ?_
      refine lv_topi (fun k_86 ek_86 => ?_)
      obtain rfl : k_86 = nI (Z / 4) := ek_86.trans (pk_div (a := Z) (d := 4) (by omega) (by omega) (by omega))
      refine lv_bipush (v := 51) hx hb dL_isTuned_101 (by decide) ?_
      refine lv_irem hx hb dL_isTuned_103 (by decide) ?_
      refine lv_topi (fun k_87 ek_87 => ?_)
      obtain rfl : k_87 = nI ((Z / 4) % 51) := ek_87.trans (pk_rem (a := (Z / 4)) (d := 51) (by omega) (by omega) (by omega))
      refine lv_topi (fun k_88 ek_88 => ?_)
      obtain ⟨dr, hdr, rfl⟩ : ∃ dr : Nat, (dr < 51) ∧ k_88 = nI dr := ⟨(Z / 4) % 51, by omega, ek_88⟩
      refine g_iastN hE hG h3 (28 + u) rfl (by omega) (by decide) dL_isTuned_104 (fun H locs w_89 ew_89 hG => ?_)
      have h_90 : w_89 1000 = some (ac, .inl (tc 1, 15, .inr (.inl gc))) := gU_n ew_89 (by decide) h1
      have h_91 : w_89 1001 = some (am, .inl (tc 0, 19, .inl gm)) := gU_n ew_89 (by decide) h2
      have h_92 : w_89 1002 = some (ap, .inl (tc 0, 32, .inl (upd gp (28 + u) (nI dr)))) := gU_s ew_89
      refine lv_aload_n hx hb dL_isTuned_105 rfl (lv_at hl 2 rfl) ?_
      refine lv_iload hx hb dL_isTuned_106 (lv_at hl 1 rfl) ?_
      refine lv_aload_n hx hb dL_isTuned_108 rfl (lv_at hl 4 rfl) ?_
      refine lv_bipush (v := 28) hx hb dL_isTuned_109 (by decide) ?_
      refine lv_iload hx hb dL_isTuned_111 (lv_at hl 1 rfl) ?_
      refine lv_iadd hx hb dL_isTuned_113 ?_
      refine lv_topi (fun k_93 ek_93 => ?_)
      obtain rfl : k_93 = nI (28 + u) := ek_93.trans (nI_add 28 u)
      refine g_ialdN hE hG h_92 (28 + u) rfl (by omega) (by decide) dL_isTuned_114 ?_
      rw [show ((upd gp (28 + u) (nI dr)) (28 + u)) = (nI dr) from pk_us]
      have hC : cO tc w_89 oa d tk st := cO_g hC hI.1 (fun k hk => by rw [ew_89, gU_ne _ _ (by omega)])
      obtain ⟨fsz_94, z_94⟩ := cO_z hC
      refine g_callV (rest := []) (As := [.int (nI u), .int (nI dr)]) hE hG hl.1 (k_drift l hfl D tc A w_89 oa d tk st (nI u) (nI dr) hC hI.1 (go_drift hu (by omega))) z_94 rfl mw2_206 mw2_207 mw2_208 mw1_1 mw2_209 rfl nm_X5_drift ⟨⟨Nat.le_of_ble_eq_true rfl, Nat.le_of_ble_eq_true rfl⟩, Nat.le_of_ble_eq_true rfl, Nat.le_of_ble_eq_true rfl⟩ rfl rfl (Nat.le_of_ble_eq_true rfl) dL_isTuned_115 (g_no) ?_
      intro v9 w_95 H locs h9 hG
      obtain ⟨e9, hC, g_96⟩ := h9
      rw [e9]; clear e9
      show W p l e _ s m args below meth c H locs _ _ _ (F0 m 118 ls [.int (d 5 (nI u).toNatClampNeg)])
      have h_97 : w_95 1000 = some (ac, .inl (tc 1, 15, .inr (.inl gc))) := (g_96 1000 (by decide)).trans h_90
      have h_98 : w_95 1001 = some (am, .inl (tc 0, 19, .inl gm)) := (g_96 1001 (by decide)).trans h_91
      have h_99 : w_95 1002 = some (ap, .inl (tc 0, 32, .inl (upd gp (28 + u) (nI dr)))) := (g_96 1002 (by decide)).trans h_92
      refine lv_iload hx hb dL_isTuned_118 (lv_at hl 0 rfl) ?_
      refine lv_icmp_ne (tgt := 127) hx hb dL_isTuned_120 (by decide) (fun c9 => (c9 (by rw [nI_clamp (by omega)]; exact (hRP.2 u hu).symm)).elim) (fun c9 => ?_)
      refine lv_iconst (v := 1) hx hb dL_isTuned_123 (by decide) ?_
      refine lv_goto (tgt := 128) hx hb dL_isTuned_124 (by decide) ?_
      subst hQ
      exact g_zret hE hG hr (by decide) (Nat.le_of_ble_eq_true rfl) (Nat.le_of_ble_eq_true rfl) dL_isTuned_128 ⟨rfl, _, _, _, _, _, _, hC, h_97, h_98, h_99, iOk_up (I_drift hI (go_drift hu (by omega))) (by omega), ⟨hRA, hRB, hRT, hRU, rP_d hRP hu⟩⟩
  · skip
    have nc_3 : way = 0 := (nI_eq (a := way) (b := 0) (by omega) (by omega)).mp c_3
    refine lv_bipush (v := 7) hx hb dL_isTuned_10 (by decide) ?_
    refine lv_iload hx hb dL_isTuned_12 (lv_at hl 0 rfl) ?_
    refine lv_imul hx hb dL_isTuned_14 ?_
    refine lv_topi (fun k_100 ek_100 => ?_)
    obtain rfl : k_100 = nI (7 * u) := ek_100.trans (pk_mul 7 u)
    refine lv_iload hx hb dL_isTuned_15 (lv_at hl 5 rfl) ?_
    refine lv_iconst (v := 4) hx hb dL_isTuned_17 (by decide) ?_
    refine lv_idiv hx hb dL_isTuned_18 (by decide) ?_
    refine lv_topi (fun k_101 ek_101 => ?_)
    obtain rfl : k_101 = nI (Z / 4) := ek_101.trans (pk_div (a := Z) (d := 4) (by omega) (by omega) (by omega))
    refine lv_bipush (v := 7) hx hb dL_isTuned_19 (by decide) ?_
    refine lv_irem hx hb dL_isTuned_21 (by decide) ?_
    refine lv_topi (fun k_102 ek_102 => ?_)
    obtain rfl : k_102 = nI ((Z / 4) % 7) := ek_102.trans (pk_rem (a := (Z / 4)) (d := 7) (by omega) (by omega) (by omega))
    refine lv_topi (fun k_103 ek_103 => ?_)
    obtain ⟨tn, htn, rfl⟩ : ∃ tn : Nat, (tn = Z / 4 % 7) ∧ k_103 = nI tn := ⟨(Z / 4) % 7, rfl, ek_103⟩
    have htn7 : tn < 7 := by omega
    refine lv_iadd hx hb dL_isTuned_22 ?_
    refine lv_topi (fun k_104 ek_104 => ?_)
    obtain rfl : k_104 = nI ((7 * u) + tn) := ek_104.trans (nI_add (7 * u) tn)
    refine lv_istore (lv' := [(6, .int (nI ((7 * u) + tn))), (5, .int (nI u)), (0, .ref oa), (1, .ref am), (2, .ref ap), (3, .int (nI way)), (4, .int (nI Z))]) hx hb dL_isTuned_23 hl (by decide) rfl (fun ls hl => ?_)
    refine lv_aload_n hx hb dL_isTuned_25 rfl (lv_at hl 4 rfl) ?_
    refine lv_iload hx hb dL_isTuned_26 (lv_at hl 0 rfl) ?_
    refine g_ialdN hE hG h3 ((7 * u) + tn) rfl (by omega) (by decide) dL_isTuned_28 ?_
    refine lv_istore (lv' := [(7, .int (gp ((7 * u) + tn))), (6, .int (nI ((7 * u) + tn))), (5, .int (nI u)), (0, .ref oa), (1, .ref am), (2, .ref ap), (3, .int (nI way)), (4, .int (nI Z))]) hx hb dL_isTuned_29 hl (by decide) rfl (fun ls hl => ?_)
    refine lv_aload_n hx hb dL_isTuned_31 rfl (lv_at hl 5 rfl) ?_
    refine lv_iload hx hb dL_isTuned_32 (lv_at hl 1 rfl) ?_
    refine lv_sipush (v := 5000) hx hb dL_isTuned_34 (by decide) ?_
    refine lv_iload hx hb dL_isTuned_37 (lv_at hl 7 rfl) ?_
    refine lv_bipush (v := 28) hx hb dL_isTuned_39 (by decide) ?_
    refine lv_idiv hx hb dL_isTuned_41 (by decide) ?_
    refine lv_topi (fun k_105 ek_105 => ?_)
    obtain rfl : k_105 = nI (Z / 28) := ek_105.trans (pk_div (a := Z) (d := 28) (by omega) (by omega) (by omega))
    refine lv_ldc (v := 195001) hx hb hE.2.2.2.1 (hE.2.2.2.2.1 _ mw2_182) dL_isTuned_42 ?_
    refine lv_irem hx hb dL_isTuned_44 (by decide) ?_
    refine lv_topi (fun k_106 ek_106 => ?_)
    obtain rfl : k_106 = nI ((Z / 28) % 195001) := ek_106.trans (pk_rem (a := (Z / 28)) (d := 195001) (by omega) (by omega) (by omega))
    refine lv_topi (fun k_107 ek_107 => ?_)
    obtain ⟨zz, hzz, rfl⟩ : ∃ zz : Nat, (zz < 195001) ∧ k_107 = nI zz := ⟨(Z / 28) % 195001, by omega, ek_107⟩
    refine lv_iadd hx hb dL_isTuned_45 ?_
    refine lv_topi (fun k_108 ek_108 => ?_)
    obtain rfl : k_108 = nI (5000 + zz) := ek_108.trans (nI_add 5000 zz)
    refine g_iastN hE hG h3 ((7 * u) + tn) rfl (by omega) (by decide) dL_isTuned_46 (fun H locs w_109 ew_109 hG => ?_)
    have h_110 : w_109 1000 = some (ac, .inl (tc 1, 15, .inr (.inl gc))) := gU_n ew_109 (by decide) h1
    have h_111 : w_109 1001 = some (am, .inl (tc 0, 19, .inl gm)) := gU_n ew_109 (by decide) h2
    have h_112 : w_109 1002 = some (ap, .inl (tc 0, 32, .inl (upd gp ((7 * u) + tn) (nI (5000 + zz))))) := gU_s ew_109
    refine lv_aload_n hx hb dL_isTuned_47 rfl (lv_at hl 3 rfl) ?_
    refine lv_iload hx hb dL_isTuned_48 (lv_at hl 2 rfl) ?_
    refine lv_iload hx hb dL_isTuned_50 (lv_at hl 7 rfl) ?_
    refine lv_iconst (v := 4) hx hb dL_isTuned_52 (by decide) ?_
    refine lv_idiv hx hb dL_isTuned_53 (by decide) ?_
    refine lv_topi (fun k_113 ek_113 => ?_)
    obtain rfl : k_113 = nI (Z / 4) := ek_113.trans (pk_div (a := Z) (d := 4) (by omega) (by omega) (by omega))
    refine lv_bipush (v := 7) hx hb dL_isTuned_54 (by decide) ?_
    refine lv_irem hx hb dL_isTuned_56 (by decide) ?_
    refine lv_topi (fun k_114 ek_114 => ?_)
    obtain rfl : k_114 = nI ((Z / 4) % 7) := ek_114.trans (pk_rem (a := (Z / 4)) (d := 7) (by omega) (by omega) (by omega))
    refine lv_topi (fun k_115 ek_115 => ?_)
    obtain rfl : k_115 = nI tn := ek_115.trans (congrArg nI htn.symm)
    refine lv_iconst (v := 1) hx hb dL_isTuned_57 (by decide) ?_
    refine lv_iadd hx hb dL_isTuned_58 ?_
    refine lv_topi (fun k_116 ek_116 => ?_)
    obtain rfl : k_116 = nI (tn + 1) := ek_116.trans (nI_add tn 1)
    refine lv_aload_n hx hb dL_isTuned_59 rfl (lv_at hl 5 rfl) ?_
    refine lv_iload hx hb dL_isTuned_60 (lv_at hl 1 rfl) ?_
    refine g_ialdN hE hG h_112 ((7 * u) + tn) rfl (by omega) (by decide) dL_isTuned_62 ?_
    rw [show ((upd gp ((7 * u) + tn) (nI (5000 + zz))) ((7 * u) + tn)) = (nI (5000 + zz)) from pk_us]
    have hC : cO tc w_109 oa d tk st := cO_g hC hI.1 (fun k hk => by rw [ew_109, gU_ne _ _ (by omega)])
    obtain ⟨fsz_117, z_117⟩ := cO_z hC
    refine g_callV (rest := []) (As := [.int (nI u), .int (nI (tn + 1)), .int (nI (5000 + zz))]) hE hG hl.1 (k_pitch l hfl D tc A w_109 oa d tk st (nI u) (nI (tn + 1)) (nI (5000 + zz)) hC hI.1 (go_pitch hu htn7 (z := 5000 + zz) (by omega) (by omega))) z_117 rfl mw2_183 mw2_184 mw2_185 mw1_1 mw2_186 rfl nm_X5_pitch ⟨⟨Nat.le_of_ble_eq_true rfl, Nat.le_of_ble_eq_true rfl⟩, Nat.le_of_ble_eq_true rfl, Nat.le_of_ble_eq_true rfl⟩ rfl rfl (Nat.le_of_ble_eq_true rfl) dL_isTuned_63 (g_no) ?_
    intro v9 w_118 H locs h9 hG
    obtain ⟨e9, hC, g_119⟩ := h9
    rw [e9]; clear e9
    show W p l e _ s m args below meth c H locs _ _ _ (F0 m 66 ls [.int (d 4 (8 * (nI u) + (nI (tn + 1))).toNatClampNeg)])
    have h_120 : w_118 1000 = some (ac, .inl (tc 1, 15, .inr (.inl gc))) := (g_119 1000 (by decide)).trans h_110
    have h_121 : w_118 1001 = some (am, .inl (tc 0, 19, .inl gm)) := (g_119 1001 (by decide)).trans h_111
    have h_122 : w_118 1002 = some (ap, .inl (tc 0, 32, .inl (upd gp ((7 * u) + tn) (nI (5000 + zz))))) := (g_119 1002 (by decide)).trans h_112
    refine lv_iload hx hb dL_isTuned_66 (lv_at hl 0 rfl) ?_
    refine lv_icmp_ne (tgt := 75) hx hb dL_isTuned_68 (by decide) (fun c9 => (c9 (by rw [pit_ix hu htn7]; exact (hRP.1 u tn hu htn7).symm)).elim) (fun c9 => ?_)
    refine lv_iconst (v := 1) hx hb dL_isTuned_71 (by decide) ?_
    refine lv_goto (tgt := 76) hx hb dL_isTuned_72 (by decide) ?_
    subst hQ
    exact g_zret hE hG hr (by decide) (Nat.le_of_ble_eq_true rfl) (Nat.le_of_ble_eq_true rfl) dL_isTuned_76 ⟨rfl, _, _, _, _, _, _, hC, h_120, h_121, h_122, iOk_up (I_pitch hI (go_pitch hu htn7 (z := 5000 + zz) (by omega) (by omega))) (by omega), ⟨hRA, hRB, hRT, hRU, rP_s hRP hu htn7⟩⟩
