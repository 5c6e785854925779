/-! isLearned -/
theorem rA_t {d : gDt} {gc : Nat → Int64} {gm : Nat → Int32} {i j to : Nat} (hOk : mOk d) (h : rA d gc gm) (hi : i < 2) (hj : j < lenN d i) (ht : to < 8) : rA (sL (gD d 3 (upd (d 3) ((65 : Int32) * nI i + nI (j + 1)).toNatClampNeg (nI to))) 0) (vp_updL gc i (f_wiL (gc i) (nI (j + 1)) (nI to))) gm := by
  have hn : i < nP d := by rw [h.1.2.1]; exact hi
  refine ⟨h.1, fun i2 hi2 => ?_⟩
  obtain ⟨q, -, hq4, hlen, -⟩ := rA_i h hi2
  have hr := (h.2 i2 hi2).2.2.2.2.2
  refine ⟨(h.2 i2 hi2).1, (h.2 i2 hi2).2.1, (h.2 i2 hi2).2.2.1, (h.2 i2 hi2).2.2.2.1, (h.2 i2 hi2).2.2.2.2.1, ?_⟩
  rw [tone_ix hOk hn hj]
  by_cases e : i2 = i
  · subst e
    rw [pk_uLs]
    refine rRow_wi (f' := fun j2 => upd (d 3) (65 * i2 + j + 1) (nI to) (65 * i2 + j2)) hr (by omega) hj ht pk_us (fun q2 hq2 hne => pk_un (by omega))
  · rw [pk_uLn e]
    refine rRow_cg hr rfl (fun q2 hq2 => ?_)
    obtain ⟨q5, -, hq5, hlen5, -⟩ := rA_i h hi
    exact pk_un (by omega)
theorem rA_f {d : gDt} {gc : Nat → Int64} {gm : Nat → Int32} {i fb : Nat} (h : rA d gc gm) (hi : i < 2) (hf : fb < 32) : rA (sL (gD d 2 (upd (d 2) (nI i).toNatClampNeg (nI fb))) 0) gc (upd gm (2 + i) (nI fb)) := by
  refine ⟨h.1, fun i2 hi2 => ?_⟩
  obtain ⟨a1, a2, a3, a4, a5, a6⟩ := h.2 i2 hi2
  rw [nI_clamp (by omega)]
  refine ⟨a1, a2, (pk_un (by omega)).trans a3, ?_, ?_, a6⟩
  · show upd gm (2 + i) (nI fb) (2 + i2) = upd (d 2) i (nI fb) i2
    by_cases e : i2 = i
    · rw [e, pk_us, pk_us]
    · rw [pk_un (by omega), pk_un e]; exact a4
  · show ∃ f, f < 32 ∧ upd (d 2) i (nI fb) i2 = nI f
    by_cases e : i2 = i
    · rw [e, pk_us]; exact ⟨fb, hf, rfl⟩
    · rw [pk_un e]; exact a5
theorem rU_s {d : gDt} {gc : Nat → Int64} {gm : Nat → Int32} {u i j to : Nat} (hl : ∀ i, i < 2 → lenN d i ≤ 16) (h : rU d gc gm) (hu : u < 4) (hi : i < 2) (hj : j < lenN d i) (ht : to < 8) (hk : ¬ d 7 (6 * u + i) = 0) (hr : rRow (gc (2 + 2 * u + i)) (lenN d i) (fun j => d 8 (65 * (6 * u + i) + j))) : rU (sL (gD d 8 (upd (d 8) ((65 : Int32) * (6 * nI u + nI i) + nI (j + 1)).toNatClampNeg (nI to))) 0) (vp_updL gc (2 + 2 * u + i) (f_wiL (gc (2 + 2 * u + i)) (nI (j + 1)) (nI to))) gm := by
  intro u2 hu2
  have hli := hl i hi
  obtain ⟨a1, a2, a3⟩ := h u2 hu2
  rw [ix_ver2 (by omega) (by omega) (by omega)]
  refine ⟨a1, a2, fun i2 hi2 => ?_⟩
  have hli2 := hl i2 hi2
  by_cases e : u2 = u ∧ i2 = i
  · obtain ⟨rfl, rfl⟩ := e
    rw [pk_uLs]
    refine Or.inr ⟨hk, rRow_wi (f' := fun j2 => upd (d 8) (65 * (6 * u2 + i2) + j + 1) (nI to) (65 * (6 * u2 + i2) + j2)) hr (by omega) hj ht pk_us (fun q2 hq2 hne => pk_un (by omega))⟩
  · rw [pk_uLn (by omega)]
    rcases a3 i2 hi2 with b | ⟨b1, b2⟩
    · exact Or.inl b
    · exact Or.inr ⟨b1, rRow_cg b2 rfl (fun q2 hq2 => pk_un (by omega))⟩
theorem rU_l {d : gDt} {gc : Nat → Int64} {gm : Nat → Int32} {u i : Nat} {o : Int32} {its : Int64} (hOk : mOk d) (hl : ∀ i, i < 2 → lenN d i ≤ 16) (h : rU d gc gm) (hu : u < 4) (hi : i < 2) (hP : nP d = 2) (hr : rRow its (lenN d i) (fun j => m_tof d o i j)) : rU (sL (m_lrn d (nI u) (nI i) o) 0) (vp_updL gc (2 + 2 * u + i) its) gm := by
  intro u2 hu2
  have hli := hl i hi
  obtain ⟨a1, a2, a3⟩ := h u2 hu2
  obtain ⟨v1, v2⟩ := lrn_V (f3 := fun _ => 0) (g := fun j => m_tof d o i (j + 1)) (u := u) (i := i) (o := o) hOk (by omega) (by omega) (fun j _ => rfl)
  have e7 : m_lrn d (nI u) (nI i) o 7 = upd (d 7) (6 * u + i) 1 := by
    show upd (d 7) ((6 : Int32) * nI u + nI i).toNatClampNeg 1 = _
    rw [lrn_7 (d := d) (by omega) (by omega)]
  refine ⟨a1, a2, fun i2 hi2 => ?_⟩
  show (m_lrn d (nI u) (nI i) o 7 (6 * u2 + i2) = 0 ∧ _) ∨ (¬ m_lrn d (nI u) (nI i) o 7 (6 * u2 + i2) = 0 ∧ rRow _ (lenN d i2) (fun j => m_lrnV d (nI u) (nI i) o (65 * (6 * u2 + i2) + j)))
  rw [e7]
  have hli2 := hl i2 hi2
  by_cases e : u2 = u ∧ i2 = i
  · obtain ⟨rfl, rfl⟩ := e
    rw [pk_us, pk_uLs]
    refine Or.inr ⟨by decide, rRow_cg hr rfl (fun q2 hq2 => ?_)⟩
    show m_lrnV d (nI u2) (nI i2) o (65 * (6 * u2 + i2) + q2 + 1) = _
    rw [← v1 q2 hq2]
    unfold f_cp
    rw [if_pos hq2]
  · rw [pk_uLn (by omega), pk_un (by omega)]
    rcases a3 i2 hi2 with b | ⟨b1, b2⟩
    · exact Or.inl b
    · exact Or.inr ⟨b1, rRow_cg b2 rfl (fun q2 hq2 => v2 (6 * u2 + i2) q2 (by omega) (by omega))⟩
theorem m1_ne {u : Nat} (hu : u < 2 ^ 31) : ¬ (-1 : Int32) = nI u := fun h => by
  have h1 : ((-1 : Int32)).toInt = (nI u).toInt := by rw [← h]
  rw [nI_toInt hu] at h1
  have e : ((-1 : Int32)).toInt = -1 := by decide
  omega
theorem knc_l {d : gDt} {gc : Nat → Int64} {gm : Nat → Int32} {u i k : Nat} {its : Int64} (h : rU d gc gm) (hu : u < 4) (hi : i < 2) (hk : k < 4) (hp : 0 ≤ lg_cmp its 0) : (if 0 ≤ lg_cmp (vp_updL gc (2 + 2 * u + i) its (2 + 2 * k + i)) 0 then (1 : Int32) else 0) = if upd (d 7) ((6 : Int32) * nI u + nI i).toNatClampNeg 1 ((6 : Int32) * nI k + nI i).toNatClampNeg = 0 then 0 else 1 := by
  rw [lrn_7 (d := d) (by omega) (by omega), lrn_7 (d := d) (by omega) (by omega)]
  by_cases e : k = u
  · subst e
    rw [pk_us, pk_uLs, if_pos hp]
    rfl
  · rw [pk_uLn (by omega), pk_un (by omega)]
    rcases (h k hk).2.2 i hi with ⟨b1, b2⟩ | ⟨b1, b2⟩
    · rw [b1, b2]; decide
    · rw [if_pos (rRow_nn b2).2, if_neg b1]
abbrev rm_L_isLearned : Room := { frames := 11, cells := 30, slots := 200, locals := 410 }
theorem nm_L_isLearned : gNm yL_isLearned 5 := ⟨by decide +kernel, by decide +kernel, by decide +kernel⟩
set_option maxHeartbeats 4000000 in
set_option maxRecDepth 100000 in
theorem c_L_isLearned (l : Launch) (hfl : l.stackTraces = false) (D : va_G) (tc : Nat → ClassId) (A : Nat → Prop) (w : gW) (oa : Nat) (ac : Nat) (am : Nat) (ap : Nat) (B : Nat) (way : Nat) (Z : Nat) (hH : hO tc oa ac am ap B w) (hB : B ≤ 50000) (hway : way < 4) (hZ : Z < 1000000000) : gM l yL_isLearned cL_isLearned 15 (some .boolean) rm_L_isLearned D tc A [.ref oa, .ref ac, .ref am, .int (nI way), .int (nI Z)] w (fun v w' => v = some (.int 1) ∧ hO tc oa ac am ap (B + 300) w') (fun _ => False) := by
  refine gM_of (by decide +kernel) (Nat.le_of_ble_eq_true rfl) ?_
  intro p e s m args below meth c ls Q hQ hE hG hr hnt hnm hl
  have hx := hE.1
  have hb := hE.2.1
  have hl : lv_has ls 15 [(0, .ref oa), (1, .ref ac), (2, .ref am), (3, .int (nI way)), (4, .int (nI Z))] := hl
  obtain ⟨d, tk, st, gc, gm, gp, hC, h1, h2, h3, hI, hR⟩ := hH
  obtain ⟨hRA, hRB, hRT, hRU, hRP⟩ := id hR
  obtain ⟨⟨hm4, hm5, hm6, hm7, hm8, hm9, hm10, hm11, hm12, hm13, hm14⟩, h01, ⟨nV, hnV, enV⟩, ⟨nE, hnE, enE⟩, ⟨nT, hnT, enT⟩, ⟨nY, hnY, enY⟩, hb9⟩ := id hRB
  have hnF := hRA.1.1
  have hnP := hRA.1.2.1
  have hnU := hRA.1.2.2
  have hm13n := hm13.trans enT
  have hm14n := hm14.trans enY
  have hm11n := hm11.trans enE
  refine lv_iload hx hb dL_isLearned_0 (lv_at hl 4 rfl) ?_
  refine lv_iconst (v := 4) hx hb dL_isLearned_2 (by decide) ?_
  refine lv_irem hx hb dL_isLearned_3 (by decide) ?_
  refine lv_topi (fun k_1 ek_1 => ?_)
  obtain rfl : k_1 = nI (Z % 4) := ek_1.trans (pk_rem (a := Z) (d := 4) (by omega) (by omega) (by omega))
  refine lv_topi (fun k_2 ek_2 => ?_)
  obtain ⟨u, hu, rfl⟩ : ∃ u : Nat, (u < 4) ∧ k_2 = nI u := ⟨Z % 4, by omega, ek_2⟩
  refine lv_istore (lv' := [(5, .int (nI u)), (0, .ref oa), (1, .ref ac), (2, .ref am), (3, .int (nI way)), (4, .int (nI Z))]) hx hb dL_isLearned_4 hl (by decide) rfl (fun ls hl => ?_)
  refine lv_iload hx hb dL_isLearned_6 (lv_at hl 5 rfl) ?_
  refine lv_iconst (v := 4) hx hb dL_isLearned_8 (by decide) ?_
  refine lv_idiv hx hb dL_isLearned_9 (by decide) ?_
  refine lv_topi (fun k_3 ek_3 => ?_)
  obtain rfl : k_3 = nI (Z / 4) := ek_3.trans (pk_div (a := Z) (d := 4) (by omega) (by omega) (by omega))
  refine lv_iconst (v := 2) hx hb dL_isLearned_10 (by decide) ?_
  refine lv_irem hx hb dL_isLearned_11 (by decide) ?_
  refine lv_topi (fun k_4 ek_4 => ?_)
  obtain rfl : k_4 = nI ((Z / 4) % 2) := ek_4.trans (pk_rem (a := (Z / 4)) (d := 2) (by omega) (by omega) (by omega))
  refine lv_topi (fun k_5 ek_5 => ?_)
  obtain ⟨i, hi, rfl⟩ : ∃ i : Nat, (i < 2) ∧ k_5 = nI i := ⟨(Z / 4) % 2, by omega, ek_5⟩
  refine lv_istore (lv' := [(6, .int (nI i)), (5, .int (nI u)), (0, .ref oa), (1, .ref ac), (2, .ref am), (3, .int (nI way)), (4, .int (nI Z))]) hx hb dL_isLearned_12 hl (by decide) rfl (fun ls hl => ?_)
  refine lv_iconst (v := 1) hx hb dL_isLearned_14 (by decide) ?_
  refine lv_iload hx hb dL_isLearned_15 (lv_at hl 6 rfl) ?_
  refine lv_bipush (v := 8) hx hb dL_isLearned_17 (by decide) ?_
  refine lv_idiv hx hb dL_isLearned_19 (by decide) ?_
  refine lv_topi (fun k_6 ek_6 => ?_)
  obtain rfl : k_6 = nI (Z / 8) := ek_6.trans (pk_div (a := Z) (d := 8) (by omega) (by omega) (by omega))
  refine lv_aload_n hx hb dL_isLearned_20 rfl (lv_at hl 4 rfl) ?_
  refine lv_iload hx hb dL_isLearned_21 (lv_at hl 0 rfl) ?_
  refine g_ialdN hE hG h2 i rfl (by omega) (by decide) dL_isLearned_23 ?_
  obtain ⟨q, hq1, hq4, hlen, h0, hgm⟩ := rA_i hRA hi
  rw [hgm]
  have hl16 : ∀ i, i < 2 → lenN d i ≤ 16 := fun i hi => by obtain ⟨q, -, h4, h5, -⟩ := rA_i hRA hi; omega
  refine lv_irem hx hb dL_isLearned_24 (nI_ne0 (by omega) (by omega)) ?_
  refine lv_topi (fun k_7 ek_7 => ?_)
  obtain rfl : k_7 = nI ((Z / 8) % (4 * q)) := ek_7.trans (pk_rem (a := (Z / 8)) (d := (4 * q)) (by omega) (by omega) (by omega))
  refine lv_iadd hx hb dL_isLearned_25 ?_
  refine lv_topi (fun k_8 ek_8 => ?_)
  obtain rfl : k_8 = nI (1 + ((Z / 8) % (4 * q))) := ek_8.trans (nI_add 1 ((Z / 8) % (4 * q)))
  refine lv_topi (fun k_9 ek_9 => ?_)
  obtain ⟨j, hj, rfl⟩ : ∃ j : Nat, j < 4 * q ∧ k_9 = nI (j + 1) := ⟨Z / 8 % (4 * q), Nat.mod_lt _ (by omega), ek_9.trans (by rw [Nat.add_comm])⟩
  refine lv_istore (lv' := [(7, .int (nI (j + 1))), (6, .int (nI i)), (5, .int (nI u)), (0, .ref oa), (1, .ref ac), (2, .ref am), (3, .int (nI way)), (4, .int (nI Z))]) hx hb dL_isLearned_26 hl (by decide) rfl (fun ls hl => ?_)
  refine lv_iload hx hb dL_isLearned_28 (lv_at hl 7 rfl) ?_
  refine lv_sipush (v := 128) hx hb dL_isLearned_30 (by decide) ?_
  refine lv_idiv hx hb dL_isLearned_33 (by decide) ?_
  refine lv_topi (fun k_10 ek_10 => ?_)
  obtain rfl : k_10 = nI (Z / 128) := ek_10.trans (pk_div (a := Z) (d := 128) (by omega) (by omega) (by omega))
  refine lv_bipush (v := 8) hx hb dL_isLearned_34 (by decide) ?_
  refine lv_irem hx hb dL_isLearned_36 (by decide) ?_
  refine lv_topi (fun k_11 ek_11 => ?_)
  obtain rfl : k_11 = nI ((Z / 128) % 8) := ek_11.trans (pk_rem (a := (Z / 128)) (d := 8) (by omega) (by omega) (by omega))
  refine lv_topi (fun k_12 ek_12 => ?_)
  obtain ⟨to, hto, rfl⟩ : ∃ to : Nat, (to < 8) ∧ k_12 = nI to := ⟨(Z / 128) % 8, by omega, ek_12⟩
  refine lv_istore (lv' := [(8, .int (nI to)), (7, .int (nI (j + 1))), (6, .int (nI i)), (5, .int (nI u)), (0, .ref oa), (1, .ref ac), (2, .ref am), (3, .int (nI way)), (4, .int (nI Z))]) hx hb dL_isLearned_37 hl (by decide) rfl (fun ls hl => ?_)
  refine lv_iconst (v := 2) hx hb dL_isLearned_39 (by decide) ?_
  refine lv_iconst (v := 2) hx hb dL_isLearned_40 (by decide) ?_
  refine lv_iload hx hb dL_isLearned_41 (lv_at hl 3 rfl) ?_
  refine lv_imul hx hb dL_isLearned_43 ?_
  refine lv_topi (fun k_13 ek_13 => ?_)
  obtain rfl : k_13 = nI (2 * u) := ek_13.trans (pk_mul 2 u)
  refine lv_iadd hx hb dL_isLearned_44 ?_
  refine lv_topi (fun k_14 ek_14 => ?_)
  obtain rfl : k_14 = nI (2 + (2 * u)) := ek_14.trans (nI_add 2 (2 * u))
  refine lv_iload hx hb dL_isLearned_45 (lv_at hl 2 rfl) ?_
  refine lv_iadd hx hb dL_isLearned_47 ?_
  refine lv_topi (fun k_15 ek_15 => ?_)
  obtain rfl : k_15 = nI ((2 + (2 * u)) + i) := ek_15.trans (nI_add (2 + (2 * u)) i)
  refine lv_istore (lv' := [(9, .int (nI ((2 + (2 * u)) + i))), (8, .int (nI to)), (7, .int (nI (j + 1))), (6, .int (nI i)), (5, .int (nI u)), (0, .ref oa), (1, .ref ac), (2, .ref am), (3, .int (nI way)), (4, .int (nI Z))]) hx hb dL_isLearned_48 hl (by decide) rfl (fun ls hl => ?_)
  refine lv_iload_n hx hb dL_isLearned_50 rfl (lv_at hl 8 rfl) ?_
  refine lv_if_ne (tgt := 101) hx hb dL_isLearned_51 (by decide) (fun c_16 => ?_) (fun c_16 => ?_)
  · skip
    have nc_16 : ¬ (way = 0) := fun h9 => c_16 ((nI_eq (a := way) (b := 0) (by omega) (by omega)).mpr h9)
    refine lv_iload_n hx hb dL_isLearned_101 rfl (lv_at hl 8 rfl) ?_
    refine lv_iconst (v := 1) hx hb dL_isLearned_102 (by decide) ?_
    refine lv_icmp_ne (tgt := 165) hx hb dL_isLearned_103 (by decide) (fun c_17 => ?_) (fun c_17 => ?_)
    · skip
      have nc_17 : ¬ (way = 1) := fun h9 => c_17 ((nI_eq (a := way) (b := 1) (by omega) (by omega)).mpr h9)
      refine lv_iload_n hx hb dL_isLearned_165 rfl (lv_at hl 8 rfl) ?_
      refine lv_iconst (v := 2) hx hb dL_isLearned_166 (by decide) ?_
      refine lv_icmp_ne (tgt := 230) hx hb dL_isLearned_167 (by decide) (fun c_18 => ?_) (fun c_18 => ?_)
      · skip
        have nc_18 : ¬ (way = 2) := fun h9 => c_18 ((nI_eq (a := way) (b := 2) (by omega) (by omega)).mpr h9)
        refine lv_iload hx hb dL_isLearned_230 (lv_at hl 9 rfl) ?_
        refine lv_bipush (v := 16) hx hb dL_isLearned_232 (by decide) ?_
        refine lv_idiv hx hb dL_isLearned_234 (by decide) ?_
        refine lv_topi (fun k_19 ek_19 => ?_)
        obtain rfl : k_19 = nI (Z / 16) := ek_19.trans (pk_div (a := Z) (d := 16) (by omega) (by omega) (by omega))
        refine lv_iconst (v := 5) hx hb dL_isLearned_235 (by decide) ?_
        refine lv_irem hx hb dL_isLearned_236 (by decide) ?_
        refine lv_topi (fun k_20 ek_20 => ?_)
        obtain rfl : k_20 = nI ((Z / 16) % 5) := ek_20.trans (pk_rem (a := (Z / 16)) (d := 5) (by omega) (by omega) (by omega))
        refine lv_topi (fun k_21 ek_21 => ?_)
        obtain ⟨x5, hx5, rfl⟩ : ∃ x5 : Nat, (x5 < 5) ∧ k_21 = nI x5 := ⟨(Z / 16) % 5, by omega, ek_21⟩
        rcases Nat.eq_zero_or_pos x5 with e5 | e5
        · skip
          subst e5
          skip
          refine lv_iconst (v := 1) hx hb dL_isLearned_237 (by decide) ?_
          refine lv_isub hx hb dL_isLearned_238 ?_
          refine lv_topi (fun k_22 ek_22 => ?_)
          obtain rfl : k_22 = (-1) := ek_22.trans (by decide)
          refine lv_istore (lv' := [(10, .int (-1)), (9, .int (nI ((2 + (2 * u)) + i))), (8, .int (nI to)), (7, .int (nI (j + 1))), (6, .int (nI i)), (5, .int (nI u)), (0, .ref oa), (1, .ref ac), (2, .ref am), (3, .int (nI way)), (4, .int (nI Z))]) hx hb dL_isLearned_239 hl (by decide) rfl (fun ls hl => ?_)
          refine lv_iload hx hb dL_isLearned_241 (lv_at hl 0 rfl) ?_
          refine lv_if_ge (tgt := 253) hx hb dL_isLearned_243 (by decide) (fun c9 => absurd c9 (by decide)) (fun _ => ?_)
          refine lv_aload_n hx hb dL_isLearned_246 rfl (lv_at hl 7 rfl) ?_
          refine lv_iload hx hb dL_isLearned_247 (lv_at hl 4 rfl) ?_
          refine g_laldN hE hG h1 i rfl (by omega) (by decide) dL_isLearned_249 ?_
          refine lv_goto (tgt := 264) hx hb dL_isLearned_250 (by decide) ?_
          refine lv_lstore (lv' := [(11, .long (gc i)), (10, .int (-1)), (9, .int (nI ((2 + (2 * u)) + i))), (8, .int (nI to)), (7, .int (nI (j + 1))), (6, .int (nI i)), (5, .int (nI u)), (0, .ref oa), (1, .ref ac), (2, .ref am), (3, .int (nI way)), (4, .int (nI Z))]) hx hb dL_isLearned_264 hl (by decide) rfl (fun ls hl => ?_)
          have hr2 := (hRA.2 i hi).2.2.2.2.2
          have hrt : rRow (gc i) (lenN d i) (fun j => m_tof d (-1) i j) := rRow_cg hr2 rfl (fun j _ => tof_h rfl)
          refine lv_iload hx hb dL_isLearned_266 (lv_at hl 1 rfl) ?_
          refine lv_iload hx hb dL_isLearned_268 (lv_at hl 6 rfl) ?_
          refine lv_icmp_eq (tgt := 280) hx hb dL_isLearned_270 (by decide) (fun c9 => absurd c9 (m1_ne (by omega))) (fun c9 => ?_)
          refine lv_lload hx hb dL_isLearned_273 (lv_at hl 0 rfl) ?_
          refine lv_lconst (v := 0) hx hb dL_isLearned_275 (by decide) ?_
          refine W.lcmp hx hb dL_isLearned_276 ?_
          refine lv_if_ge (tgt := 282) hx hb dL_isLearned_277 (by decide) (fun c9 => ?_) (fun c9 => (c9 (rRow_nn hr2).2).elim)
          refine lv_aload_n hx hb dL_isLearned_282 rfl (lv_at hl 8 rfl) ?_
          refine lv_iload hx hb dL_isLearned_283 (lv_at hl 2 rfl) ?_
          refine lv_lload hx hb dL_isLearned_285 (lv_at hl 0 rfl) ?_
          refine g_lastN hE hG h1 ((2 + (2 * u)) + i) rfl (by omega) (by decide) dL_isLearned_287 (fun H locs w_23 ew_23 hG => ?_)
          have h_24 : w_23 1001 = some (am, .inl (tc 0, 19, .inl gm)) := gU_n ew_23 (by decide) h2
          have h_25 : w_23 1002 = some (ap, .inl (tc 0, 32, .inl gp)) := gU_n ew_23 (by decide) h3
          have h_26 : w_23 1000 = some (ac, .inl (tc 1, 15, .inr (.inl (vp_updL gc ((2 + (2 * u)) + i) (gc i))))) := gU_s ew_23
          obtain ⟨gc2, egc⟩ : ∃ g, g = vp_updL gc (2 + 2 * u + i) (gc i) := ⟨_, rfl⟩
          rw [← egc] at h_26
          refine lv_iconst (v := 0) hx hb dL_isLearned_288 (by decide) ?_
          refine lv_istore (lv' := [(13, .int 0), (11, .long (gc i)), (10, .int (-1)), (9, .int (nI ((2 + (2 * u)) + i))), (8, .int (nI to)), (7, .int (nI (j + 1))), (6, .int (nI i)), (5, .int (nI u)), (0, .ref oa), (1, .ref ac), (2, .ref am), (3, .int (nI way)), (4, .int (nI Z))]) hx hb dL_isLearned_289 hl (by decide) rfl (fun ls hl => ?_)
          refine lv_iconst (v := 0) hx hb dL_isLearned_291 (by decide) ?_
          refine lv_istore (lv' := [(14, .int 0), (13, .int 0), (11, .long (gc i)), (10, .int (-1)), (9, .int (nI ((2 + (2 * u)) + i))), (8, .int (nI to)), (7, .int (nI (j + 1))), (6, .int (nI i)), (5, .int (nI u)), (0, .ref oa), (1, .ref ac), (2, .ref am), (3, .int (nI way)), (4, .int (nI Z))]) hx hb dL_isLearned_292 hl (by decide) rfl (fun ls hl => ?_)
          have hl : lv_has ls 15 [(14, .int (nI 0)), (13, .int (nI (m_knc (upd (d 7) ((6 : Int32) * nI u + nI i).toNatClampNeg 1) i 0))), (11, .long (gc i)), (10, .int (-1)), (9, .int (nI ((2 + (2 * u)) + i))), (8, .int (nI to)), (7, .int (nI (j + 1))), (6, .int (nI i)), (5, .int (nI u)), (0, .ref oa), (1, .ref ac), (2, .ref am), (3, .int (nI way)), (4, .int (nI Z))] := lv_sub hl [0, 1, 2, 3, 4, 5, 6, 7, 8, 9, 10, 11, 12, 13] rfl
          have hloop_29 : ∀ (n_27 k : Nat) (H : Heap) (locs : List Loc) (ls : Array Slot), k + n_27 = 4 → gS D A s.heap w_23 H locs → lv_has ls 15 [(14, .int (nI k)), (13, .int (nI (m_knc (upd (d 7) ((6 : Int32) * nI u + nI i).toNatClampNeg 1) i k))), (11, .long (gc i)), (10, .int (-1)), (9, .int (nI ((2 + (2 * u)) + i))), (8, .int (nI to)), (7, .int (nI (j + 1))), (6, .int (nI i)), (5, .int (nI u)), (0, .ref oa), (1, .ref ac), (2, .ref am), (3, .int (nI way)), (4, .int (nI Z))] → W p l e rm_L_isLearned s m args below meth c H locs 0 0 Q (F0 m 294 ls []) := by
            intro n_27
            induction n_27 with
            | zero =>
              intro k H locs ls hk_28 hG hl
              have ei9 : k = 4 := by omega
              rw [ei9] at hl
              refine lv_iload hx hb dL_isLearned_294 (lv_at hl 0 rfl) ?_
              refine lv_iconst (v := 4) hx hb dL_isLearned_296 (by decide) ?_
              refine lv_icmp_ge (tgt := 332) hx hb dL_isLearned_297 (by decide) (fun c9 => ?_) (fun c9 => (c9 ((nI_leI (a := 4) (b := 4) (by omega) (by omega)).mpr (by omega))).elim)
              refine lv_aload_n hx hb dL_isLearned_332 rfl (lv_at hl 9 rfl) ?_
              refine lv_iload hx hb dL_isLearned_333 (lv_at hl 8 rfl) ?_
              refine lv_iload hx hb dL_isLearned_335 (lv_at hl 7 rfl) ?_
              refine lv_iload hx hb dL_isLearned_337 (lv_at hl 3 rfl) ?_
              have hC : cO tc w_23 oa d tk st := cO_g hC hI.1 (fun k hk => by rw [ew_23, gU_ne _ _ (by omega)])
              obtain ⟨fsz_30, z_30⟩ := cO_z hC
              refine g_callV (rest := []) (As := [.int (nI u), .int (nI i), .int (-1)]) hE hG hl.1 (k_learn l hfl D tc A w_23 oa d tk st (nI u) (nI i) (-1) hC hI.1 (go_learn hI.1 (by omega) (by omega) (Or.inl rfl) (m1_ne (by omega)))) z_30 rfl mw3_27 mw3_28 mw3_29 mw1_1 mw3_30 rfl nm_X5_learn ⟨⟨Nat.le_of_ble_eq_true rfl, Nat.le_of_ble_eq_true rfl⟩, Nat.le_of_ble_eq_true rfl, Nat.le_of_ble_eq_true rfl⟩ rfl rfl (Nat.le_of_ble_eq_true rfl) dL_isLearned_339 (g_no) ?_
              intro v9 w_31 H locs h9 hG
              obtain ⟨e9, hC, g_32⟩ := h9
              rw [e9]; clear e9
              show W p l e _ s m args below meth c H locs _ _ _ (F0 m 342 ls [.int (nI (m_knc (upd (d 7) (6 * (nI u) + (nI i)).toNatClampNeg 1) (nI i).toNatClampNeg (nU d)))])
              have h_33 : w_31 1001 = some (am, .inl (tc 0, 19, .inl gm)) := (g_32 1001 (by decide)).trans h_24
              have h_34 : w_31 1002 = some (ap, .inl (tc 0, 32, .inl gp)) := (g_32 1002 (by decide)).trans h_25
              have h_35 : w_31 1000 = some (ac, .inl (tc 1, 15, .inr (.inl gc2))) := (g_32 1000 (by decide)).trans h_26
              refine lv_iload hx hb dL_isLearned_342 (lv_at hl 1 rfl) ?_
              refine lv_icmp_ne (tgt := 351) hx hb dL_isLearned_344 (by decide) (fun c9 => (c9 (by rw [nI_clamp (by omega), hnU])).elim) (fun c9 => ?_)
              refine lv_iconst (v := 1) hx hb dL_isLearned_347 (by decide) ?_
              refine lv_goto (tgt := 352) hx hb dL_isLearned_348 (by decide) ?_
              subst hQ
              exact g_zret hE hG hr (by decide) (Nat.le_of_ble_eq_true rfl) (Nat.le_of_ble_eq_true rfl) dL_isLearned_352 ⟨rfl, _, _, _, _, _, _, hC, h_35, h_33, h_34, iOk_up (I_learn hI) (by omega), (by rw [egc]; exact ⟨(rA_cg hRA rfl rfl rfl rfl rfl rfl rfl (fun i hi => pk_uLn (by omega)) (fun i hi => rfl)), hRB, ⟨(pk_uLn (by omega)).trans hRT.1, fun k hk => (pk_uLn (by omega)).trans (hRT.2 k hk)⟩, rU_l hI.1 hl16 hRU hu hi hnP hrt, hRP⟩)⟩
            | succ n_27 ihn_27 =>
              intro k H locs ls hk_28 hG hl
              refine lv_iload hx hb dL_isLearned_294 (lv_at hl 0 rfl) ?_
              refine lv_iconst (v := 4) hx hb dL_isLearned_296 (by decide) ?_
              refine lv_icmp_ge (tgt := 332) hx hb dL_isLearned_297 (by decide) (fun c9 => absurd c9 (fun h9 => absurd ((nI_leI (a := 4) (b := k) (by omega) (by omega)).mp h9) (by omega))) (fun c9 => ?_)
              refine lv_iload hx hb dL_isLearned_300 (lv_at hl 1 rfl) ?_
              refine lv_aload_n hx hb dL_isLearned_302 rfl (lv_at hl 10 rfl) ?_
              refine lv_iconst (v := 2) hx hb dL_isLearned_303 (by decide) ?_
              refine lv_iconst (v := 2) hx hb dL_isLearned_304 (by decide) ?_
              refine lv_iload hx hb dL_isLearned_305 (lv_at hl 0 rfl) ?_
              refine lv_imul hx hb dL_isLearned_307 ?_
              refine lv_topi (fun k_36 ek_36 => ?_)
              obtain rfl : k_36 = nI (2 * k) := ek_36.trans (pk_mul 2 k)
              refine lv_iadd hx hb dL_isLearned_308 ?_
              refine lv_topi (fun k_37 ek_37 => ?_)
              obtain rfl : k_37 = nI (2 + (2 * k)) := ek_37.trans (nI_add 2 (2 * k))
              refine lv_iload hx hb dL_isLearned_309 (lv_at hl 7 rfl) ?_
              refine lv_iadd hx hb dL_isLearned_311 ?_
              refine lv_topi (fun k_38 ek_38 => ?_)
              obtain rfl : k_38 = nI ((2 + (2 * k)) + i) := ek_38.trans (nI_add (2 + (2 * k)) i)
              refine g_laldN hE hG h_26 ((2 + (2 * k)) + i) rfl (by omega) (by decide) dL_isLearned_312 ?_
              refine lv_lconst (v := 0) hx hb dL_isLearned_313 (by decide) ?_
              refine W.lcmp hx hb dL_isLearned_314 ?_
              have j_40 : ∀ (v_39 : Int32) (H : Heap) (locs : List Loc), v_39 = (if 0 ≤ (lg_cmp (gc2 ((2 + (2 * k)) + i)) 0) then 1 else 0 : Int32) → gS D A s.heap w_23 H locs → W p l e rm_L_isLearned s m args below meth c H locs 0 0 Q (F0 m 323 ls (.int v_39 :: [.int (nI (m_knc (upd (d 7) ((6 : Int32) * nI u + nI i).toNatClampNeg 1) i k))])) := by
                intro v_39 H locs ev_39 hG
                refine lv_iadd hx hb dL_isLearned_323 ?_
                refine lv_istore (lv' := [(13, .int ((nI (m_knc (upd (d 7) ((6 : Int32) * nI u + nI i).toNatClampNeg 1) i k)) + v_39)), (14, .int (nI k)), (11, .long (gc i)), (10, .int (-1)), (9, .int (nI ((2 + (2 * u)) + i))), (8, .int (nI to)), (7, .int (nI (j + 1))), (6, .int (nI i)), (5, .int (nI u)), (0, .ref oa), (1, .ref ac), (2, .ref am), (3, .int (nI way)), (4, .int (nI Z))]) hx hb dL_isLearned_324 hl (by decide) rfl (fun ls hl => ?_)
                refine lv_iinc (v := (nI (k + 1))) (lv' := [(14, .int (nI (k + 1))), (13, .int ((nI (m_knc (upd (d 7) ((6 : Int32) * nI u + nI i).toNatClampNeg 1) i k)) + v_39)), (11, .long (gc i)), (10, .int (-1)), (9, .int (nI ((2 + (2 * u)) + i))), (8, .int (nI to)), (7, .int (nI (j + 1))), (6, .int (nI i)), (5, .int (nI u)), (0, .ref oa), (1, .ref ac), (2, .ref am), (3, .int (nI way)), (4, .int (nI Z))]) hx hb dL_isLearned_326 hl (k := 1) rfl (nI_1 _) (by decide) rfl (fun ls hl => ?_)
                refine lv_goto (tgt := 294) hx hb dL_isLearned_329 (by decide) ?_
                have hl : lv_has ls 15 [(14, .int (nI (k + 1))), (13, .int (nI (m_knc (upd (d 7) ((6 : Int32) * nI u + nI i).toNatClampNeg 1) i (k + 1)))), (11, .long (gc i)), (10, .int (-1)), (9, .int (nI ((2 + (2 * u)) + i))), (8, .int (nI to)), (7, .int (nI (j + 1))), (6, .int (nI i)), (5, .int (nI u)), (0, .ref oa), (1, .ref ac), (2, .ref am), (3, .int (nI way)), (4, .int (nI Z))] := by rw [m_knc_s (by omega) (by omega) (ev_39.trans (by rw [egc]; exact knc_l hRU hu hi (by omega) (rRow_nn hr2).2))] at hl; exact hl
                exact ihn_27 (k + 1) _ _ _ (by omega) hG (lv_sub hl [0, 1, 2, 3, 4, 5, 6, 7, 8, 9, 10, 11, 12, 13] rfl)
              refine lv_if_ge (tgt := 322) hx hb dL_isLearned_315 (by decide) (fun c_41 => ?_) (fun c_41 => ?_)
              · skip
                refine lv_iconst (v := 1) hx hb dL_isLearned_322 (by decide) ?_
                exact j_40 _ _ _ (by rw [if_pos c_41]) hG
              · skip
                refine lv_iconst (v := 0) hx hb dL_isLearned_318 (by decide) ?_
                refine lv_goto (tgt := 323) hx hb dL_isLearned_319 (by decide) ?_
                exact j_40 _ _ _ (by rw [if_neg c_41]) hG
          exact hloop_29 4 0 _ _ _ (by omega) hG (lv_sub hl [0, 1, 2, 3, 4, 5, 6, 7, 8, 9, 10, 11, 12, 13] rfl)
        · skip
          obtain ⟨o9, rfl⟩ : ∃ o9, x5 = o9 + 1 := ⟨x5 - 1, by omega⟩
          refine lv_iconst (v := 1) hx hb dL_isLearned_237 (by decide) ?_
          refine lv_isub hx hb dL_isLearned_238 ?_
          refine lv_topi (fun k_42 ek_42 => ?_)
          obtain rfl : k_42 = nI ((o9 + 1) - 1) := ek_42.trans (pk_sub (a := (o9 + 1)) (b := 1) (by omega))
          refine lv_topi (fun k_43 ek_43 => ?_)
          obtain rfl : k_43 = nI o9 := ek_43
          have ho4 : o9 < 4 := by omega
          refine lv_istore (lv' := [(10, .int (nI o9)), (9, .int (nI ((2 + (2 * u)) + i))), (8, .int (nI to)), (7, .int (nI (j + 1))), (6, .int (nI i)), (5, .int (nI u)), (0, .ref oa), (1, .ref ac), (2, .ref am), (3, .int (nI way)), (4, .int (nI Z))]) hx hb dL_isLearned_239 hl (by decide) rfl (fun ls hl => ?_)
          refine lv_iload hx hb dL_isLearned_241 (lv_at hl 0 rfl) ?_
          refine lv_if_ge (tgt := 253) hx hb dL_isLearned_243 (by decide) (fun c9 => ?_) (fun c9 => (c9 ((nI_leI (a := 0) (b := o9) (by omega) (by omega)).mpr (by omega))).elim)
          refine lv_aload_n hx hb dL_isLearned_253 rfl (lv_at hl 7 rfl) ?_
          refine lv_iconst (v := 2) hx hb dL_isLearned_254 (by decide) ?_
          refine lv_iconst (v := 2) hx hb dL_isLearned_255 (by decide) ?_
          refine lv_iload hx hb dL_isLearned_256 (lv_at hl 0 rfl) ?_
          refine lv_imul hx hb dL_isLearned_258 ?_
          refine lv_topi (fun k_44 ek_44 => ?_)
          obtain rfl : k_44 = nI (2 * o9) := ek_44.trans (pk_mul 2 o9)
          refine lv_iadd hx hb dL_isLearned_259 ?_
          refine lv_topi (fun k_45 ek_45 => ?_)
          obtain rfl : k_45 = nI (2 + (2 * o9)) := ek_45.trans (nI_add 2 (2 * o9))
          refine lv_iload hx hb dL_isLearned_260 (lv_at hl 4 rfl) ?_
          refine lv_iadd hx hb dL_isLearned_262 ?_
          refine lv_topi (fun k_46 ek_46 => ?_)
          obtain rfl : k_46 = nI ((2 + (2 * o9)) + i) := ek_46.trans (nI_add (2 + (2 * o9)) i)
          refine g_laldN hE hG h1 ((2 + (2 * o9)) + i) rfl (by omega) (by decide) dL_isLearned_263 ?_
          refine lv_lstore (lv' := [(11, .long (gc ((2 + (2 * o9)) + i))), (10, .int (nI o9)), (9, .int (nI ((2 + (2 * u)) + i))), (8, .int (nI to)), (7, .int (nI (j + 1))), (6, .int (nI i)), (5, .int (nI u)), (0, .ref oa), (1, .ref ac), (2, .ref am), (3, .int (nI way)), (4, .int (nI Z))]) hx hb dL_isLearned_264 hl (by decide) rfl (fun ls hl => ?_)
          rcases (hRU o9 ho4).2.2 i hi with ⟨hk2, hr2⟩ | ⟨hk2, hr2⟩
          · skip
            refine lv_iload hx hb dL_isLearned_266 (lv_at hl 1 rfl) ?_
            refine lv_iload hx hb dL_isLearned_268 (lv_at hl 6 rfl) ?_
            refine lv_icmp_eq (tgt := 280) hx hb dL_isLearned_270 (by decide) (fun c_47 => ?_) (fun c_47 => ?_)
            · skip
              have nc_47 : o9 = u := (nI_eq (a := o9) (b := u) (by omega) (by omega)).mp c_47
              refine lv_iconst (v := 1) hx hb dL_isLearned_280 (by decide) ?_
              subst hQ
              exact g_zret hE hG hr (by decide) (Nat.le_of_ble_eq_true rfl) (Nat.le_of_ble_eq_true rfl) dL_isLearned_281 ⟨rfl, _, _, _, _, _, _, hC, h1, h2, h3, iOk_up hI (by omega), hR⟩
            · skip
              have nc_47 : ¬ (o9 = u) := fun h9 => c_47 ((nI_eq (a := o9) (b := u) (by omega) (by omega)).mpr h9)
              refine lv_lload hx hb dL_isLearned_273 (lv_at hl 0 rfl) ?_
              refine lv_lconst (v := 0) hx hb dL_isLearned_275 (by decide) ?_
              refine W.lcmp hx hb dL_isLearned_276 ?_
              refine lv_if_ge (tgt := 282) hx hb dL_isLearned_277 (by decide) (fun c9 => absurd c9 (by rw [hr2]; decide)) (fun c9 => ?_)
              refine lv_iconst (v := 1) hx hb dL_isLearned_280 (by decide) ?_
              subst hQ
              exact g_zret hE hG hr (by decide) (Nat.le_of_ble_eq_true rfl) (Nat.le_of_ble_eq_true rfl) dL_isLearned_281 ⟨rfl, _, _, _, _, _, _, hC, h1, h2, h3, iOk_up hI (by omega), hR⟩
          · skip
            have hrt : rRow (gc (2 + 2 * o9 + i)) (lenN d i) (fun j => m_tof d (nI o9) i j) := rRow_cg hr2 rfl (fun j _ => tof_u (by omega))
            refine lv_iload hx hb dL_isLearned_266 (lv_at hl 1 rfl) ?_
            refine lv_iload hx hb dL_isLearned_268 (lv_at hl 6 rfl) ?_
            refine lv_icmp_eq (tgt := 280) hx hb dL_isLearned_270 (by decide) (fun c_48 => ?_) (fun c_48 => ?_)
            · skip
              have nc_48 : o9 = u := (nI_eq (a := o9) (b := u) (by omega) (by omega)).mp c_48
              refine lv_iconst (v := 1) hx hb dL_isLearned_280 (by decide) ?_
              subst hQ
              exact g_zret hE hG hr (by decide) (Nat.le_of_ble_eq_true rfl) (Nat.le_of_ble_eq_true rfl) dL_isLearned_281 ⟨rfl, _, _, _, _, _, _, hC, h1, h2, h3, iOk_up hI (by omega), hR⟩
            · skip
              have nc_48 : ¬ (o9 = u) := fun h9 => c_48 ((nI_eq (a := o9) (b := u) (by omega) (by omega)).mpr h9)
              refine lv_lload hx hb dL_isLearned_273 (lv_at hl 0 rfl) ?_
              refine lv_lconst (v := 0) hx hb dL_isLearned_275 (by decide) ?_
              refine W.lcmp hx hb dL_isLearned_276 ?_
              refine lv_if_ge (tgt := 282) hx hb dL_isLearned_277 (by decide) (fun c9 => ?_) (fun c9 => (c9 (rRow_nn hr2).2).elim)
              refine lv_aload_n hx hb dL_isLearned_282 rfl (lv_at hl 8 rfl) ?_
              refine lv_iload hx hb dL_isLearned_283 (lv_at hl 2 rfl) ?_
              refine lv_lload hx hb dL_isLearned_285 (lv_at hl 0 rfl) ?_
              refine g_lastN hE hG h1 ((2 + (2 * u)) + i) rfl (by omega) (by decide) dL_isLearned_287 (fun H locs w_49 ew_49 hG => ?_)
              have h_50 : w_49 1001 = some (am, .inl (tc 0, 19, .inl gm)) := gU_n ew_49 (by decide) h2
              have h_51 : w_49 1002 = some (ap, .inl (tc 0, 32, .inl gp)) := gU_n ew_49 (by decide) h3
              have h_52 : w_49 1000 = some (ac, .inl (tc 1, 15, .inr (.inl (vp_updL gc ((2 + (2 * u)) + i) (gc ((2 + (2 * o9)) + i)))))) := gU_s ew_49
              obtain ⟨gc2, egc⟩ : ∃ g, g = vp_updL gc (2 + 2 * u + i) (gc (2 + 2 * o9 + i)) := ⟨_, rfl⟩
              rw [← egc] at h_52
              refine lv_iconst (v := 0) hx hb dL_isLearned_288 (by decide) ?_
              refine lv_istore (lv' := [(13, .int 0), (11, .long (gc ((2 + (2 * o9)) + i))), (10, .int (nI o9)), (9, .int (nI ((2 + (2 * u)) + i))), (8, .int (nI to)), (7, .int (nI (j + 1))), (6, .int (nI i)), (5, .int (nI u)), (0, .ref oa), (1, .ref ac), (2, .ref am), (3, .int (nI way)), (4, .int (nI Z))]) hx hb dL_isLearned_289 hl (by decide) rfl (fun ls hl => ?_)
              refine lv_iconst (v := 0) hx hb dL_isLearned_291 (by decide) ?_
              refine lv_istore (lv' := [(14, .int 0), (13, .int 0), (11, .long (gc ((2 + (2 * o9)) + i))), (10, .int (nI o9)), (9, .int (nI ((2 + (2 * u)) + i))), (8, .int (nI to)), (7, .int (nI (j + 1))), (6, .int (nI i)), (5, .int (nI u)), (0, .ref oa), (1, .ref ac), (2, .ref am), (3, .int (nI way)), (4, .int (nI Z))]) hx hb dL_isLearned_292 hl (by decide) rfl (fun ls hl => ?_)
              have hl : lv_has ls 15 [(14, .int (nI 0)), (13, .int (nI (m_knc (upd (d 7) ((6 : Int32) * nI u + nI i).toNatClampNeg 1) i 0))), (11, .long (gc ((2 + (2 * o9)) + i))), (10, .int (nI o9)), (9, .int (nI ((2 + (2 * u)) + i))), (8, .int (nI to)), (7, .int (nI (j + 1))), (6, .int (nI i)), (5, .int (nI u)), (0, .ref oa), (1, .ref ac), (2, .ref am), (3, .int (nI way)), (4, .int (nI Z))] := lv_sub hl [0, 1, 2, 3, 4, 5, 6, 7, 8, 9, 10, 11, 12, 13] rfl
              have hloop_55 : ∀ (n_53 k : Nat) (H : Heap) (locs : List Loc) (ls : Array Slot), k + n_53 = 4 → gS D A s.heap w_49 H locs → lv_has ls 15 [(14, .int (nI k)), (13, .int (nI (m_knc (upd (d 7) ((6 : Int32) * nI u + nI i).toNatClampNeg 1) i k))), (11, .long (gc ((2 + (2 * o9)) + i))), (10, .int (nI o9)), (9, .int (nI ((2 + (2 * u)) + i))), (8, .int (nI to)), (7, .int (nI (j + 1))), (6, .int (nI i)), (5, .int (nI u)), (0, .ref oa), (1, .ref ac), (2, .ref am), (3, .int (nI way)), (4, .int (nI Z))] → W p l e rm_L_isLearned s m args below meth c H locs 0 0 Q (F0 m 294 ls []) := by
                intro n_53
                induction n_53 with
                | zero =>
                  intro k H locs ls hk_54 hG hl
                  have ei9 : k = 4 := by omega
                  rw [ei9] at hl
                  refine lv_iload hx hb dL_isLearned_294 (lv_at hl 0 rfl) ?_
                  refine lv_iconst (v := 4) hx hb dL_isLearned_296 (by decide) ?_
                  refine lv_icmp_ge (tgt := 332) hx hb dL_isLearned_297 (by decide) (fun c9 => ?_) (fun c9 => (c9 ((nI_leI (a := 4) (b := 4) (by omega) (by omega)).mpr (by omega))).elim)
                  refine lv_aload_n hx hb dL_isLearned_332 rfl (lv_at hl 9 rfl) ?_
                  refine lv_iload hx hb dL_isLearned_333 (lv_at hl 8 rfl) ?_
                  refine lv_iload hx hb dL_isLearned_335 (lv_at hl 7 rfl) ?_
                  refine lv_iload hx hb dL_isLearned_337 (lv_at hl 3 rfl) ?_
                  have hC : cO tc w_49 oa d tk st := cO_g hC hI.1 (fun k hk => by rw [ew_49, gU_ne _ _ (by omega)])
                  obtain ⟨fsz_56, z_56⟩ := cO_z hC
                  refine g_callV (rest := []) (As := [.int (nI u), .int (nI i), .int (nI o9)]) hE hG hl.1 (k_learn l hfl D tc A w_49 oa d tk st (nI u) (nI i) (nI o9) hC hI.1 (go_learn hI.1 (by omega) (by omega) (Or.inr ⟨o9, by omega, rfl, hk2⟩) c_48)) z_56 rfl mw3_27 mw3_28 mw3_29 mw1_1 mw3_30 rfl nm_X5_learn ⟨⟨Nat.le_of_ble_eq_true rfl, Nat.le_of_ble_eq_true rfl⟩, Nat.le_of_ble_eq_true rfl, Nat.le_of_ble_eq_true rfl⟩ rfl rfl (Nat.le_of_ble_eq_true rfl) dL_isLearned_339 (g_no) ?_
                  intro v9 w_57 H locs h9 hG
                  obtain ⟨e9, hC, g_58⟩ := h9
                  rw [e9]; clear e9
                  show W p l e _ s m args below meth c H locs _ _ _ (F0 m 342 ls [.int (nI (m_knc (upd (d 7) (6 * (nI u) + (nI i)).toNatClampNeg 1) (nI i).toNatClampNeg (nU d)))])
                  have h_59 : w_57 1001 = some (am, .inl (tc 0, 19, .inl gm)) := (g_58 1001 (by decide)).trans h_50
                  have h_60 : w_57 1002 = some (ap, .inl (tc 0, 32, .inl gp)) := (g_58 1002 (by decide)).trans h_51
                  have h_61 : w_57 1000 = some (ac, .inl (tc 1, 15, .inr (.inl gc2))) := (g_58 1000 (by decide)).trans h_52
                  refine lv_iload hx hb dL_isLearned_342 (lv_at hl 1 rfl) ?_
                  refine lv_icmp_ne (tgt := 351) hx hb dL_isLearned_344 (by decide) (fun c9 => (c9 (by rw [nI_clamp (by omega), hnU])).elim) (fun c9 => ?_)
                  refine lv_iconst (v := 1) hx hb dL_isLearned_347 (by decide) ?_
                  refine lv_goto (tgt := 352) hx hb dL_isLearned_348 (by decide) ?_
                  subst hQ
                  exact g_zret hE hG hr (by decide) (Nat.le_of_ble_eq_true rfl) (Nat.le_of_ble_eq_true rfl) dL_isLearned_352 ⟨rfl, _, _, _, _, _, _, hC, h_61, h_59, h_60, iOk_up (I_learn hI) (by omega), (by rw [egc]; exact ⟨(rA_cg hRA rfl rfl rfl rfl rfl rfl rfl (fun i hi => pk_uLn (by omega)) (fun i hi => rfl)), hRB, ⟨(pk_uLn (by omega)).trans hRT.1, fun k hk => (pk_uLn (by omega)).trans (hRT.2 k hk)⟩, rU_l hI.1 hl16 hRU hu hi hnP hrt, hRP⟩)⟩
                | succ n_53 ihn_53 =>
                  intro k H locs ls hk_54 hG hl
                  refine lv_iload hx hb dL_isLearned_294 (lv_at hl 0 rfl) ?_
                  refine lv_iconst (v := 4) hx hb dL_isLearned_296 (by decide) ?_
                  refine lv_icmp_ge (tgt := 332) hx hb dL_isLearned_297 (by decide) (fun c9 => absurd c9 (fun h9 => absurd ((nI_leI (a := 4) (b := k) (by omega) (by omega)).mp h9) (by omega))) (fun c9 => ?_)
                  refine lv_iload hx hb dL_isLearned_300 (lv_at hl 1 rfl) ?_
                  refine lv_aload_n hx hb dL_isLearned_302 rfl (lv_at hl 10 rfl) ?_
                  refine lv_iconst (v := 2) hx hb dL_isLearned_303 (by decide) ?_
                  refine lv_iconst (v := 2) hx hb dL_isLearned_304 (by decide) ?_
                  refine lv_iload hx hb dL_isLearned_305 (lv_at hl 0 rfl) ?_
                  refine lv_imul hx hb dL_isLearned_307 ?_
                  refine lv_topi (fun k_62 ek_62 => ?_)
                  obtain rfl : k_62 = nI (2 * k) := ek_62.trans (pk_mul 2 k)
                  refine lv_iadd hx hb dL_isLearned_308 ?_
                  refine lv_topi (fun k_63 ek_63 => ?_)
                  obtain rfl : k_63 = nI (2 + (2 * k)) := ek_63.trans (nI_add 2 (2 * k))
                  refine lv_iload hx hb dL_isLearned_309 (lv_at hl 7 rfl) ?_
                  refine lv_iadd hx hb dL_isLearned_311 ?_
                  refine lv_topi (fun k_64 ek_64 => ?_)
                  obtain rfl : k_64 = nI ((2 + (2 * k)) + i) := ek_64.trans (nI_add (2 + (2 * k)) i)
                  refine g_laldN hE hG h_52 ((2 + (2 * k)) + i) rfl (by omega) (by decide) dL_isLearned_312 ?_
                  refine lv_lconst (v := 0) hx hb dL_isLearned_313 (by decide) ?_
                  refine W.lcmp hx hb dL_isLearned_314 ?_
                  have j_66 : ∀ (v_65 : Int32) (H : Heap) (locs : List Loc), v_65 = (if 0 ≤ (lg_cmp (gc2 ((2 + (2 * k)) + i)) 0) then 1 else 0 : Int32) → gS D A s.heap w_49 H locs → W p l e rm_L_isLearned s m args below meth c H locs 0 0 Q (F0 m 323 ls (.int v_65 :: [.int (nI (m_knc (upd (d 7) ((6 : Int32) * nI u + nI i).toNatClampNeg 1) i k))])) := by
                    intro v_65 H locs ev_65 hG
                    refine lv_iadd hx hb dL_isLearned_323 ?_
                    refine lv_istore (lv' := [(13, .int ((nI (m_knc (upd (d 7) ((6 : Int32) * nI u + nI i).toNatClampNeg 1) i k)) + v_65)), (14, .int (nI k)), (11, .long (gc ((2 + (2 * o9)) + i))), (10, .int (nI o9)), (9, .int (nI ((2 + (2 * u)) + i))), (8, .int (nI to)), (7, .int (nI (j + 1))), (6, .int (nI i)), (5, .int (nI u)), (0, .ref oa), (1, .ref ac), (2, .ref am), (3, .int (nI way)), (4, .int (nI Z))]) hx hb dL_isLearned_324 hl (by decide) rfl (fun ls hl => ?_)
                    refine lv_iinc (v := (nI (k + 1))) (lv' := [(14, .int (nI (k + 1))), (13, .int ((nI (m_knc (upd (d 7) ((6 : Int32) * nI u + nI i).toNatClampNeg 1) i k)) + v_65)), (11, .long (gc ((2 + (2 * o9)) + i))), (10, .int (nI o9)), (9, .int (nI ((2 + (2 * u)) + i))), (8, .int (nI to)), (7, .int (nI (j + 1))), (6, .int (nI i)), (5, .int (nI u)), (0, .ref oa), (1, .ref ac), (2, .ref am), (3, .int (nI way)), (4, .int (nI Z))]) hx hb dL_isLearned_326 hl (k := 1) rfl (nI_1 _) (by decide) rfl (fun ls hl => ?_)
                    refine lv_goto (tgt := 294) hx hb dL_isLearned_329 (by decide) ?_
                    have hl : lv_has ls 15 [(14, .int (nI (k + 1))), (13, .int (nI (m_knc (upd (d 7) ((6 : Int32) * nI u + nI i).toNatClampNeg 1) i (k + 1)))), (11, .long (gc ((2 + (2 * o9)) + i))), (10, .int (nI o9)), (9, .int (nI ((2 + (2 * u)) + i))), (8, .int (nI to)), (7, .int (nI (j + 1))), (6, .int (nI i)), (5, .int (nI u)), (0, .ref oa), (1, .ref ac), (2, .ref am), (3, .int (nI way)), (4, .int (nI Z))] := by rw [m_knc_s (by omega) (by omega) (ev_65.trans (by rw [egc]; exact knc_l hRU hu hi (by omega) (rRow_nn hr2).2))] at hl; exact hl
                    exact ihn_53 (k + 1) _ _ _ (by omega) hG (lv_sub hl [0, 1, 2, 3, 4, 5, 6, 7, 8, 9, 10, 11, 12, 13] rfl)
                  refine lv_if_ge (tgt := 322) hx hb dL_isLearned_315 (by decide) (fun c_67 => ?_) (fun c_67 => ?_)
                  · skip
                    refine lv_iconst (v := 1) hx hb dL_isLearned_322 (by decide) ?_
                    exact j_66 _ _ _ (by rw [if_pos c_67]) hG
                  · skip
                    refine lv_iconst (v := 0) hx hb dL_isLearned_318 (by decide) ?_
                    refine lv_goto (tgt := 323) hx hb dL_isLearned_319 (by decide) ?_
                    exact j_66 _ _ _ (by rw [if_neg c_67]) hG
              exact hloop_55 4 0 _ _ _ (by omega) hG (lv_sub hl [0, 1, 2, 3, 4, 5, 6, 7, 8, 9, 10, 11, 12, 13] rfl)
      · skip
        have nc_18 : way = 2 := (nI_eq (a := way) (b := 2) (by omega) (by omega)).mp c_18
        rcases (hRU u hu).2.2 i hi with ⟨hk1, hr1⟩ | ⟨hk1, hr1⟩
        · skip
          refine lv_aload_n hx hb dL_isLearned_170 rfl (lv_at hl 6 rfl) ?_
          refine lv_iload hx hb dL_isLearned_171 (lv_at hl 0 rfl) ?_
          refine g_laldN hE hG h1 ((2 + (2 * u)) + i) rfl (by omega) (by decide) dL_isLearned_173 ?_
          refine lv_lconst (v := 0) hx hb dL_isLearned_174 (by decide) ?_
          refine W.lcmp hx hb dL_isLearned_175 ?_
          refine lv_if_ge (tgt := 181) hx hb dL_isLearned_176 (by decide) (fun c9 => absurd c9 (by rw [hr1]; decide)) (fun c9 => ?_)
          refine lv_iconst (v := 1) hx hb dL_isLearned_179 (by decide) ?_
          subst hQ
          exact g_zret hE hG hr (by decide) (Nat.le_of_ble_eq_true rfl) (Nat.le_of_ble_eq_true rfl) dL_isLearned_180 ⟨rfl, _, _, _, _, _, _, hC, h1, h2, h3, iOk_up hI (by omega), hR⟩
        · skip
          refine lv_aload_n hx hb dL_isLearned_170 rfl (lv_at hl 6 rfl) ?_
          refine lv_iload hx hb dL_isLearned_171 (lv_at hl 0 rfl) ?_
          refine g_laldN hE hG h1 ((2 + (2 * u)) + i) rfl (by omega) (by decide) dL_isLearned_173 ?_
          refine lv_lconst (v := 0) hx hb dL_isLearned_174 (by decide) ?_
          refine W.lcmp hx hb dL_isLearned_175 ?_
          refine lv_if_ge (tgt := 181) hx hb dL_isLearned_176 (by decide) (fun c9 => ?_) (fun c9 => (c9 (rRow_nn hr1).2).elim)
          refine lv_aload_n hx hb dL_isLearned_181 rfl (lv_at hl 6 rfl) ?_
          refine lv_iload hx hb dL_isLearned_182 (lv_at hl 0 rfl) ?_
          refine g_laldN hE hG h1 ((2 + (2 * u)) + i) rfl (by omega) (by decide) dL_isLearned_184 ?_
          refine lv_iload hx hb dL_isLearned_185 (lv_at hl 2 rfl) ?_
          refine g_callS (rest := []) (As := [.long (gc ((2 + (2 * u)) + i)), .int (nI (j + 1))]) hE hG hl.1 (c_L_at l hfl D tc A w (gc ((2 + (2 * u)) + i)) (nI (j + 1)) ) mw3_5 mw3_6 mw1_0 mw3_7 nm_L_at ⟨⟨Nat.le_of_ble_eq_true rfl, Nat.le_of_ble_eq_true rfl⟩, Nat.le_of_ble_eq_true rfl, Nat.le_of_ble_eq_true rfl⟩ rfl rfl (Nat.le_of_ble_eq_true rfl) dL_isLearned_187 (g_no) ?_
          intro v9 w9 H locs h9 hG
          obtain ⟨e9, f9⟩ := h9
          rw [f9] at hG; rw [e9]; clear e9 f9
          show W p l e _ s m args below meth c H locs _ _ _ (F0 m 190 ls [.int (f_atL (gc ((2 + (2 * u)) + i)) (nI (j + 1)))])
          refine lv_istore (lv' := [(10, .int (f_atL (gc ((2 + (2 * u)) + i)) (nI (j + 1)))), (9, .int (nI ((2 + (2 * u)) + i))), (8, .int (nI to)), (7, .int (nI (j + 1))), (6, .int (nI i)), (5, .int (nI u)), (0, .ref oa), (1, .ref ac), (2, .ref am), (3, .int (nI way)), (4, .int (nI Z))]) hx hb dL_isLearned_190 hl (by decide) rfl (fun ls hl => ?_)
          refine lv_aload_n hx hb dL_isLearned_192 rfl (lv_at hl 7 rfl) ?_
          refine lv_iload hx hb dL_isLearned_193 (lv_at hl 1 rfl) ?_
          refine lv_aload_n hx hb dL_isLearned_195 rfl (lv_at hl 7 rfl) ?_
          refine lv_iload hx hb dL_isLearned_196 (lv_at hl 1 rfl) ?_
          refine g_laldN hE hG h1 ((2 + (2 * u)) + i) rfl (by omega) (by decide) dL_isLearned_198 ?_
          refine lv_iload hx hb dL_isLearned_199 (lv_at hl 3 rfl) ?_
          refine lv_iload hx hb dL_isLearned_201 (lv_at hl 2 rfl) ?_
          refine g_callS (rest := [.int (nI ((2 + (2 * u)) + i)), .ref ac]) (As := [.long (gc ((2 + (2 * u)) + i)), .int (nI (j + 1)), .int (nI to)]) hE hG hl.1 (c_L_with l hfl D tc A w (gc ((2 + (2 * u)) + i)) (nI (j + 1)) (nI to) ) mw2_48 mw2_49 mw1_0 mw2_50 nm_L_with ⟨⟨Nat.le_of_ble_eq_true rfl, Nat.le_of_ble_eq_true rfl⟩, Nat.le_of_ble_eq_true rfl, Nat.le_of_ble_eq_true rfl⟩ rfl rfl (Nat.le_of_ble_eq_true rfl) dL_isLearned_203 (g_no) ?_
          intro v9 w9 H locs h9 hG
          obtain ⟨e9, f9⟩ := h9
          rw [f9] at hG; rw [e9]; clear e9 f9
          show W p l e _ s m args below meth c H locs _ _ _ (F0 m 206 ls [.long (f_wiL (gc ((2 + (2 * u)) + i)) (nI (j + 1)) (nI to)), .int (nI ((2 + (2 * u)) + i)), .ref ac])
          refine g_lastN hE hG h1 ((2 + (2 * u)) + i) rfl (by omega) (by decide) dL_isLearned_206 (fun H locs w_68 ew_68 hG => ?_)
          have h_69 : w_68 1001 = some (am, .inl (tc 0, 19, .inl gm)) := gU_n ew_68 (by decide) h2
          have h_70 : w_68 1002 = some (ap, .inl (tc 0, 32, .inl gp)) := gU_n ew_68 (by decide) h3
          have h_71 : w_68 1000 = some (ac, .inl (tc 1, 15, .inr (.inl (vp_updL gc ((2 + (2 * u)) + i) (f_wiL (gc ((2 + (2 * u)) + i)) (nI (j + 1)) (nI to)))))) := gU_s ew_68
          refine lv_aload_n hx hb dL_isLearned_207 rfl (lv_at hl 6 rfl) ?_
          refine lv_iload hx hb dL_isLearned_208 (lv_at hl 5 rfl) ?_
          refine lv_iload hx hb dL_isLearned_210 (lv_at hl 4 rfl) ?_
          refine lv_iload hx hb dL_isLearned_212 (lv_at hl 3 rfl) ?_
          refine lv_iload hx hb dL_isLearned_214 (lv_at hl 2 rfl) ?_
          have hC : cO tc w_68 oa d tk st := cO_g hC hI.1 (fun k hk => by rw [ew_68, gU_ne _ _ (by omega)])
          obtain ⟨fsz_72, z_72⟩ := cO_z hC
          refine g_callV (rest := []) (As := [.int (nI u), .int (nI i), .int (nI (j + 1)), .int (nI to)]) hE hG hl.1 (k_slip l hfl D tc A w_68 oa d tk st (nI u) (nI i) (nI (j + 1)) (nI to) hC hI.1 (go_slip hI.1 (by omega) (by omega) (by omega) (by omega) hto hk1)) z_72 rfl mw3_13 mw3_14 mw3_15 mw1_1 mw3_16 rfl nm_X5_slip ⟨⟨Nat.le_of_ble_eq_true rfl, Nat.le_of_ble_eq_true rfl⟩, Nat.le_of_ble_eq_true rfl, Nat.le_of_ble_eq_true rfl⟩ rfl rfl (Nat.le_of_ble_eq_true rfl) dL_isLearned_216 (g_no) ?_
          intro v9 w_73 H locs h9 hG
          obtain ⟨e9, hC, g_74⟩ := h9
          rw [e9]; clear e9
          show W p l e _ s m args below meth c H locs _ _ _ (F0 m 219 ls [.int (d 8 (65 * (6 * (nI u) + (nI i)) + (nI (j + 1))).toNatClampNeg)])
          have h_75 : w_73 1001 = some (am, .inl (tc 0, 19, .inl gm)) := (g_74 1001 (by decide)).trans h_69
          have h_76 : w_73 1002 = some (ap, .inl (tc 0, 32, .inl gp)) := (g_74 1002 (by decide)).trans h_70
          have h_77 : w_73 1000 = some (ac, .inl (tc 1, 15, .inr (.inl (vp_updL gc ((2 + (2 * u)) + i) (f_wiL (gc ((2 + (2 * u)) + i)) (nI (j + 1)) (nI to)))))) := (g_74 1000 (by decide)).trans h_71
          refine lv_iload hx hb dL_isLearned_219 (lv_at hl 0 rfl) ?_
          refine lv_icmp_ne (tgt := 228) hx hb dL_isLearned_221 (by decide) (fun c9 => (c9 (by rw [ix_ver2 (by omega) (by omega) (by omega)]; exact (rRow_at hr1 (by omega) (by omega)).symm)).elim) (fun c9 => ?_)
          refine lv_iconst (v := 1) hx hb dL_isLearned_224 (by decide) ?_
          refine lv_goto (tgt := 229) hx hb dL_isLearned_225 (by decide) ?_
          subst hQ
          exact g_zret hE hG hr (by decide) (Nat.le_of_ble_eq_true rfl) (Nat.le_of_ble_eq_true rfl) dL_isLearned_229 ⟨rfl, _, _, _, _, _, _, hC, h_77, h_75, h_76, iOk_up (I_slip hI) (by omega), ⟨(rA_cg hRA rfl rfl rfl rfl rfl rfl rfl (fun i hi => pk_uLn (by omega)) (fun i hi => rfl)), hRB, ⟨(pk_uLn (by omega)).trans hRT.1, fun k hk => (pk_uLn (by omega)).trans (hRT.2 k hk)⟩, rU_s hl16 hRU hu hi (by omega) hto hk1 hr1, hRP⟩⟩
    · skip
      have nc_17 : way = 1 := (nI_eq (a := way) (b := 1) (by omega) (by omega)).mp c_17
      refine lv_aload_n hx hb dL_isLearned_106 rfl (lv_at hl 7 rfl) ?_
      refine lv_iconst (v := 2) hx hb dL_isLearned_107 (by decide) ?_
      refine lv_iload hx hb dL_isLearned_108 (lv_at hl 3 rfl) ?_
      refine lv_iadd hx hb dL_isLearned_110 ?_
      refine lv_topi (fun k_78 ek_78 => ?_)
      obtain rfl : k_78 = nI (2 + i) := ek_78.trans (nI_add 2 i)
      refine g_ialdN hE hG h2 (2 + i) rfl (by omega) (by decide) dL_isLearned_111 ?_
      refine lv_istore (lv' := [(10, .int (gm (2 + i))), (9, .int (nI ((2 + (2 * u)) + i))), (8, .int (nI to)), (7, .int (nI (j + 1))), (6, .int (nI i)), (5, .int (nI u)), (0, .ref oa), (1, .ref ac), (2, .ref am), (3, .int (nI way)), (4, .int (nI Z))]) hx hb dL_isLearned_112 hl (by decide) rfl (fun ls hl => ?_)
      refine lv_aload_n hx hb dL_isLearned_114 rfl (lv_at hl 8 rfl) ?_
      refine lv_iconst (v := 2) hx hb dL_isLearned_115 (by decide) ?_
      refine lv_iload hx hb dL_isLearned_116 (lv_at hl 4 rfl) ?_
      refine lv_iadd hx hb dL_isLearned_118 ?_
      refine lv_topi (fun k_79 ek_79 => ?_)
      obtain rfl : k_79 = nI (2 + i) := ek_79.trans (nI_add 2 i)
      refine lv_iload hx hb dL_isLearned_119 (lv_at hl 10 rfl) ?_
      refine lv_bipush (v := 8) hx hb dL_isLearned_121 (by decide) ?_
      refine lv_idiv hx hb dL_isLearned_123 (by decide) ?_
      refine lv_topi (fun k_80 ek_80 => ?_)
      obtain rfl : k_80 = nI (Z / 8) := ek_80.trans (pk_div (a := Z) (d := 8) (by omega) (by omega) (by omega))
      refine lv_iconst (v := 2) hx hb dL_isLearned_124 (by decide) ?_
      refine lv_irem hx hb dL_isLearned_125 (by decide) ?_
      refine lv_topi (fun k_81 ek_81 => ?_)
      obtain rfl : k_81 = nI ((Z / 8) % 2) := ek_81.trans (pk_rem (a := (Z / 8)) (d := 2) (by omega) (by omega) (by omega))
      have j_83 : ∀ (v_82 : Int32) (H : Heap) (locs : List Loc), v_82 = (if (nI ((Z / 8) % 2)) = 0 then 0 else (nI ((Z / 16) % 32)) : Int32) → gS D A s.heap w H locs → W p l e rm_L_isLearned s m args below meth c H locs 0 0 Q (F0 m 141 ls (.int v_82 :: [.int (nI (2 + i)), .ref am])) := by
        intro v_82 H locs ev_82 hG
        obtain ⟨fb, hfb, efb⟩ : ∃ fb, fb < 32 ∧ v_82 = nI fb := by
          rw [ev_82]
          repeat' split
          all_goals first | exact ⟨0, by omega, rfl⟩ | exact ⟨_, Nat.mod_lt _ (by omega), rfl⟩
        rw [efb]
        refine g_iastN hE hG h2 (2 + i) rfl (by omega) (by decide) dL_isLearned_141 (fun H locs w_84 ew_84 hG => ?_)
        have h_85 : w_84 1000 = some (ac, .inl (tc 1, 15, .inr (.inl gc))) := gU_n ew_84 (by decide) h1
        have h_86 : w_84 1002 = some (ap, .inl (tc 0, 32, .inl gp)) := gU_n ew_84 (by decide) h3
        have h_87 : w_84 1001 = some (am, .inl (tc 0, 19, .inl (upd gm (2 + i) (nI fb)))) := gU_s ew_84
        refine lv_aload_n hx hb dL_isLearned_142 rfl (lv_at hl 6 rfl) ?_
        refine lv_iload hx hb dL_isLearned_143 (lv_at hl 4 rfl) ?_
        refine lv_aload_n hx hb dL_isLearned_145 rfl (lv_at hl 8 rfl) ?_
        refine lv_iconst (v := 2) hx hb dL_isLearned_146 (by decide) ?_
        refine lv_iload hx hb dL_isLearned_147 (lv_at hl 4 rfl) ?_
        refine lv_iadd hx hb dL_isLearned_149 ?_
        refine lv_topi (fun k_88 ek_88 => ?_)
        obtain rfl : k_88 = nI (2 + i) := ek_88.trans (nI_add 2 i)
        refine g_ialdN hE hG h_87 (2 + i) rfl (by omega) (by decide) dL_isLearned_150 ?_
        rw [show ((upd gm (2 + i) (nI fb)) (2 + i)) = (nI fb) from pk_us]
        have hC : cO tc w_84 oa d tk st := cO_g hC hI.1 (fun k hk => by rw [ew_84, gU_ne _ _ (by omega)])
        obtain ⟨fsz_89, z_89⟩ := cO_z hC
        refine g_callV (rest := []) (As := [.int (nI i), .int (nI fb)]) hE hG hl.1 (k_forbid l hfl D tc A w_84 oa d tk st (nI i) (nI fb) hC hI.1 (go_forbid hI.1 (by omega) hfb)) z_89 rfl mw3_8 mw3_9 mw3_10 mw1_1 mw3_11 rfl nm_X5_forbid ⟨⟨Nat.le_of_ble_eq_true rfl, Nat.le_of_ble_eq_true rfl⟩, Nat.le_of_ble_eq_true rfl, Nat.le_of_ble_eq_true rfl⟩ rfl rfl (Nat.le_of_ble_eq_true rfl) dL_isLearned_151 (g_no) ?_
        intro v9 w_90 H locs h9 hG
        obtain ⟨e9, hC, g_91⟩ := h9
        rw [e9]; clear e9
        show W p l e _ s m args below meth c H locs _ _ _ (F0 m 154 ls [.int (d 2 (nI i).toNatClampNeg)])
        have h_92 : w_90 1000 = some (ac, .inl (tc 1, 15, .inr (.inl gc))) := (g_91 1000 (by decide)).trans h_85
        have h_93 : w_90 1002 = some (ap, .inl (tc 0, 32, .inl gp)) := (g_91 1002 (by decide)).trans h_86
        have h_94 : w_90 1001 = some (am, .inl (tc 0, 19, .inl (upd gm (2 + i) (nI fb)))) := (g_91 1001 (by decide)).trans h_87
        refine lv_iload hx hb dL_isLearned_154 (lv_at hl 0 rfl) ?_
        refine lv_icmp_ne (tgt := 163) hx hb dL_isLearned_156 (by decide) (fun c9 => (c9 (by rw [nI_clamp (by omega)]; exact (hRA.2 i hi).2.2.2.1.symm)).elim) (fun c9 => ?_)
        refine lv_iconst (v := 1) hx hb dL_isLearned_159 (by decide) ?_
        refine lv_goto (tgt := 164) hx hb dL_isLearned_160 (by decide) ?_
        subst hQ
        exact g_zret hE hG hr (by decide) (Nat.le_of_ble_eq_true rfl) (Nat.le_of_ble_eq_true rfl) dL_isLearned_164 ⟨rfl, _, _, _, _, _, _, hC, h_92, h_94, h_93, iOk_up (I_forbid hI (go_forbid hI.1 (by omega) hfb)) (by omega), ⟨rA_f hRA hi hfb, ⟨⟨(pk_un (by omega)).trans hm4, (pk_un (by omega)).trans hm5, (pk_un (by omega)).trans hm6, (pk_un (by omega)).trans hm7, (pk_un (by omega)).trans hm8, (pk_un (by omega)).trans hm9, (pk_un (by omega)).trans hm10, (pk_un (by omega)).trans hm11, (pk_un (by omega)).trans hm12, (pk_un (by omega)).trans hm13, (pk_un (by omega)).trans hm14⟩, h01, ⟨nV, hnV, enV⟩, ⟨nE, hnE, enE⟩, ⟨nT, hnT, enT⟩, ⟨nY, hnY, enY⟩, hb9⟩, hRT, (rU_cg hRU rfl rfl rfl rfl rfl (fun k hk => rfl) (fun u hu => pk_un (by omega))), hRP⟩⟩
      refine lv_if_ne (tgt := 133) hx hb dL_isLearned_126 (by decide) (fun c_95 => ?_) (fun c_95 => ?_)
      · skip
        refine lv_iload hx hb dL_isLearned_133 (lv_at hl 10 rfl) ?_
        refine lv_bipush (v := 16) hx hb dL_isLearned_135 (by decide) ?_
        refine lv_idiv hx hb dL_isLearned_137 (by decide) ?_
        refine lv_topi (fun k_96 ek_96 => ?_)
        obtain rfl : k_96 = nI (Z / 16) := ek_96.trans (pk_div (a := Z) (d := 16) (by omega) (by omega) (by omega))
        refine lv_bipush (v := 32) hx hb dL_isLearned_138 (by decide) ?_
        refine lv_irem hx hb dL_isLearned_140 (by decide) ?_
        refine lv_topi (fun k_97 ek_97 => ?_)
        obtain rfl : k_97 = nI ((Z / 16) % 32) := ek_97.trans (pk_rem (a := (Z / 16)) (d := 32) (by omega) (by omega) (by omega))
        exact j_83 _ _ _ (by rw [if_neg c_95]) hG
      · skip
        refine lv_iconst (v := 0) hx hb dL_isLearned_129 (by decide) ?_
        refine lv_goto (tgt := 141) hx hb dL_isLearned_130 (by decide) ?_
        exact j_83 _ _ _ (by rw [if_pos c_95]) hG
  · skip
    have nc_16 : way = 0 := (nI_eq (a := way) (b := 0) (by omega) (by omega)).mp c_16
    refine lv_aload_n hx hb dL_isLearned_54 rfl (lv_at hl 6 rfl) ?_
    refine lv_iload hx hb dL_isLearned_55 (lv_at hl 3 rfl) ?_
    refine g_laldN hE hG h1 i rfl (by omega) (by decide) dL_isLearned_57 ?_
    refine lv_iload hx hb dL_isLearned_58 (lv_at hl 2 rfl) ?_
    refine g_callS (rest := []) (As := [.long (gc i), .int (nI (j + 1))]) hE hG hl.1 (c_L_at l hfl D tc A w (gc i) (nI (j + 1)) ) mw3_5 mw3_6 mw1_0 mw3_7 nm_L_at ⟨⟨Nat.le_of_ble_eq_true rfl, Nat.le_of_ble_eq_true rfl⟩, Nat.le_of_ble_eq_true rfl, Nat.le_of_ble_eq_true rfl⟩ rfl rfl (Nat.le_of_ble_eq_true rfl) dL_isLearned_60 (g_no) ?_
    intro v9 w9 H locs h9 hG
    obtain ⟨e9, f9⟩ := h9
    rw [f9] at hG; rw [e9]; clear e9 f9
    show W p l e _ s m args below meth c H locs _ _ _ (F0 m 63 ls [.int (f_atL (gc i) (nI (j + 1)))])
    refine lv_istore (lv' := [(10, .int (f_atL (gc i) (nI (j + 1)))), (9, .int (nI ((2 + (2 * u)) + i))), (8, .int (nI to)), (7, .int (nI (j + 1))), (6, .int (nI i)), (5, .int (nI u)), (0, .ref oa), (1, .ref ac), (2, .ref am), (3, .int (nI way)), (4, .int (nI Z))]) hx hb dL_isLearned_63 hl (by decide) rfl (fun ls hl => ?_)
    refine lv_aload_n hx hb dL_isLearned_65 rfl (lv_at hl 7 rfl) ?_
    refine lv_iload hx hb dL_isLearned_66 (lv_at hl 4 rfl) ?_
    refine lv_aload_n hx hb dL_isLearned_68 rfl (lv_at hl 7 rfl) ?_
    refine lv_iload hx hb dL_isLearned_69 (lv_at hl 4 rfl) ?_
    refine g_laldN hE hG h1 i rfl (by omega) (by decide) dL_isLearned_71 ?_
    refine lv_iload hx hb dL_isLearned_72 (lv_at hl 3 rfl) ?_
    refine lv_iload hx hb dL_isLearned_74 (lv_at hl 2 rfl) ?_
    refine g_callS (rest := [.int (nI i), .ref ac]) (As := [.long (gc i), .int (nI (j + 1)), .int (nI to)]) hE hG hl.1 (c_L_with l hfl D tc A w (gc i) (nI (j + 1)) (nI to) ) mw2_48 mw2_49 mw1_0 mw2_50 nm_L_with ⟨⟨Nat.le_of_ble_eq_true rfl, Nat.le_of_ble_eq_true rfl⟩, Nat.le_of_ble_eq_true rfl, Nat.le_of_ble_eq_true rfl⟩ rfl rfl (Nat.le_of_ble_eq_true rfl) dL_isLearned_76 (g_no) ?_
    intro v9 w9 H locs h9 hG
    obtain ⟨e9, f9⟩ := h9
    rw [f9] at hG; rw [e9]; clear e9 f9
    show W p l e _ s m args below meth c H locs _ _ _ (F0 m 79 ls [.long (f_wiL (gc i) (nI (j + 1)) (nI to)), .int (nI i), .ref ac])
    refine g_lastN hE hG h1 i rfl (by omega) (by decide) dL_isLearned_79 (fun H locs w_98 ew_98 hG => ?_)
    have h_99 : w_98 1001 = some (am, .inl (tc 0, 19, .inl gm)) := gU_n ew_98 (by decide) h2
    have h_100 : w_98 1002 = some (ap, .inl (tc 0, 32, .inl gp)) := gU_n ew_98 (by decide) h3
    have h_101 : w_98 1000 = some (ac, .inl (tc 1, 15, .inr (.inl (vp_updL gc i (f_wiL (gc i) (nI (j + 1)) (nI to)))))) := gU_s ew_98
    refine lv_aload_n hx hb dL_isLearned_80 rfl (lv_at hl 6 rfl) ?_
    refine lv_iload hx hb dL_isLearned_81 (lv_at hl 4 rfl) ?_
    refine lv_iload hx hb dL_isLearned_83 (lv_at hl 3 rfl) ?_
    refine lv_iload hx hb dL_isLearned_85 (lv_at hl 2 rfl) ?_
    have hC : cO tc w_98 oa d tk st := cO_g hC hI.1 (fun k hk => by rw [ew_98, gU_ne _ _ (by omega)])
    obtain ⟨fsz_102, z_102⟩ := cO_z hC
    refine g_callV (rest := []) (As := [.int (nI i), .int (nI (j + 1)), .int (nI to)]) hE hG hl.1 (k_tone l hfl D tc A w_98 oa d tk st (nI i) (nI (j + 1)) (nI to) hC hI.1 (go_tone hI.1 (by omega) (by omega) (by omega) hto)) z_102 rfl mw2_53 mw2_54 mw2_55 mw1_1 mw2_56 rfl nm_X5_tone ⟨⟨Nat.le_of_ble_eq_true rfl, Nat.le_of_ble_eq_true rfl⟩, Nat.le_of_ble_eq_true rfl, Nat.le_of_ble_eq_true rfl⟩ rfl rfl (Nat.le_of_ble_eq_true rfl) dL_isLearned_87 (g_no) ?_
    intro v9 w_103 H locs h9 hG
    obtain ⟨e9, hC, g_104⟩ := h9
    rw [e9]; clear e9
    show W p l e _ s m args below meth c H locs _ _ _ (F0 m 90 ls [.int (d 3 (65 * (nI i) + (nI (j + 1))).toNatClampNeg)])
    have h_105 : w_103 1001 = some (am, .inl (tc 0, 19, .inl gm)) := (g_104 1001 (by decide)).trans h_99
    have h_106 : w_103 1002 = some (ap, .inl (tc 0, 32, .inl gp)) := (g_104 1002 (by decide)).trans h_100
    have h_107 : w_103 1000 = some (ac, .inl (tc 1, 15, .inr (.inl (vp_updL gc i (f_wiL (gc i) (nI (j + 1)) (nI to)))))) := (g_104 1000 (by decide)).trans h_101
    refine lv_iload hx hb dL_isLearned_90 (lv_at hl 0 rfl) ?_
    refine lv_icmp_ne (tgt := 99) hx hb dL_isLearned_92 (by decide) (fun c9 => (c9 (by rw [tone_ix hI.1 (by omega) (by omega)]; exact (rRow_at (hRA.2 i hi).2.2.2.2.2 (by omega) (by omega)).symm)).elim) (fun c9 => ?_)
    refine lv_iconst (v := 1) hx hb dL_isLearned_95 (by decide) ?_
    refine lv_goto (tgt := 100) hx hb dL_isLearned_96 (by decide) ?_
    subst hQ
    exact g_zret hE hG hr (by decide) (Nat.le_of_ble_eq_true rfl) (Nat.le_of_ble_eq_true rfl) dL_isLearned_100 ⟨rfl, _, _, _, _, _, _, hC, h_107, h_105, h_106, iOk_up (I_tone hI (go_tone hI.1 (by omega) (by omega) (by omega) hto)) (by omega), ⟨rA_t hI.1 hRA hi (by omega) hto, hRB, ⟨(pk_uLn (by omega)).trans hRT.1, fun k hk => (pk_uLn (by omega)).trans (hRT.2 k hk)⟩, (rU_cg hRU rfl rfl rfl rfl rfl (fun k hk => pk_uLn (by omega)) (fun u hu => rfl)), hRP⟩⟩
