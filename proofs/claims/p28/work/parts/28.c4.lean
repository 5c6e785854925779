/-! GongCycles: form, days, now, ticks, strokes -/
theorem m_go_i {a b c : Int32} (ha : ¬ a = 0) (hb : ¬ b = 0) (hc : ¬ c = 0) : ¬ m_go a b c = 0 := by unfold m_go; rw [if_neg ha, if_neg hb, if_neg hc]; decide
theorem one_nz : ¬ (1 : Int32) = 0 := by decide
/-- what isn't touched stands -/
theorem cP_fr {tc : Nat → ClassId} {w w' : gW} {ca : Nat → Nat} {d d' : gDt} {i : Nat} (h : cP tc w ca d i) (hw1 : w' (10 + i) = w (10 + i)) (hw2 : w' (20 + i) = w (20 + i)) (hw3 : w' (30 + i) = w (30 + i)) (hl : lenN d' i = lenN d i) (h2 : d' 2 i = d 2 i) (h3 : d' 3 = d 3) : cP tc w' ca d' i := by
  obtain ⟨a, b, f, e, g⟩ := h
  refine ⟨by rw [hw1, h2]; exact a, by rw [hw2]; exact b, f, by rw [hw3, hl]; exact e, ?_⟩
  rw [hl, h3]
  exact g
theorem cS_fr {tc : Nat → ClassId} {w w' : gW} {ca : Nat → Nat} {d d' : gDt} {s : Nat} (h : cS tc w ca d s) (hw1 : w' (60 + s) = w (60 + s)) (hw2 : w' (70 + s) = w (70 + s)) (h4 : d' 4 = d 4) (h5 : d' 5 s = d 5 s) : cS tc w' ca d' s := by
  obtain ⟨a, f, e, g⟩ := h
  refine ⟨by rw [hw1, h5]; exact a, f, by rw [hw2]; exact e, ?_⟩
  rw [h4]
  exact g
theorem cV_fr {tc : Nat → ClassId} {w w' : gW} {ca : Nat → Nat} {d d' : gDt} {u i : Nat} (h : cV tc w ca d u i) (hw1 : w' (100 + 10 * u + i) = w (100 + 10 * u + i)) (hw2 : w' (200 + 10 * u + i) = w (200 + 10 * u + i)) (hl : lenN d' i = lenN d i) (h8 : d' 8 = d 8) : cV tc w' ca d' u i := by
  obtain ⟨a, f, e, g⟩ := h
  refine ⟨by rw [hw1]; exact a, f, by rw [hw2, hl]; exact e, ?_⟩
  rw [hl, h8]
  exact g
theorem cU_fr {tc : Nat → ClassId} {w w' : gW} {ca : Nat → Nat} {d d' : gDt} {u : Nat} (h : cU tc w ca d u) (hw1 : w' (40 + u) = w (40 + u)) (hw2 : w' (50 + u) = w (50 + u)) (h6 : d' 6 u = d 6 u) (h7 : d' 7 = d 7) : cU tc w' ca d' u := by
  obtain ⟨a, g, e, b⟩ := h
  refine ⟨by rw [hw1, h6]; exact a, g, by rw [hw2]; exact e, ?_⟩
  rw [h7]
  exact b
/-- the head alone has changed -/
theorem cW_hd {tc : Nat → ClassId} {w w' : gW} {ca : Nat → Nat} {d d' : gDt} {tk tk' : Int64} {st st' : Nat → Int64} (hC : cW tc w ca d tk st) (hw : ∀ k, 10 ≤ k → k < 1000 → w' k = w k) (hP : nP d' = nP d) (hU : nU d' = nU d) (hl : ∀ i, i < nP d → lenN d' i = lenN d i) (h2 : d' 2 = d 2) (h3 : d' 3 = d 3) (h4 : d' 4 = d 4) (h5 : d' 5 = d 5) (h6 : d' 6 = d 6) (h7 : d' 7 = d 7) (h8 : d' 8 = d 8) (z0 : w' 0 = some ((ca 0), .inr (5, [.ref (ca 1), .int (d' 9 0), .ref (ca 2), .int (d' 9 1), .ref (ca 3), .int (d' 9 10), .int (d' 9 11), .ref (ca 5), .int (d' 9 12), .ref (ca 6), .int (d' 9 13)]))) (z1 : w' 1 = some ((ca 1), .inl (tc 0, 4, .inl (d' 0)))) (z2 : w' 2 = some ((ca 2), .inl (tc 3, 6, .inr (.inr (.inr (.inr (c_pf ca (nP d)))))))) (z5 : w' 5 = some ((ca 5), .inl (tc 4, 4, .inr (.inr (.inr (.inr (c_sf ca))))))) (z6 : w' 6 = some ((ca 6), .inl (tc 5, 8, .inr (.inr (.inr (.inr (c_uf ca (nU d)))))))) (hp : ∃ (cy ge : Int32) (sf : Nat → Int64), w' 3 = some ((ca 3), .inr (4, [.int (d' 9 3), .int cy, .int (d' 9 4), .int (d' 9 5), .int (d' 9 6), .int (d' 9 7), .int (d' 9 8), .int (d' 9 2), .int ge, .long tk', .ref (ca 4)])) ∧ w' 4 = some ((ca 4), .inl (tc 1, 4, .inr (.inl sf))) ∧ (∀ j, j < 4 → sf j = st' j) ∧ cE d' ge ∧ cY d' cy) (hOk : mOk d) : cW tc w' ca d' tk' st' := by
  obtain ⟨-, -, zP, zS, zU, zV, zN1, zN2, zN3⟩ := hC
  have b1 := hOk.1.2.1
  have b2 := hOk.1.2.2
  refine ⟨⟨z0, z1, by rw [hP]; exact z2, z5, by rw [hU]; exact z6⟩, hp, ?_, ?_, ?_, ?_, ?_, ?_, ?_⟩
  · intro i hi
    rw [hP] at hi
    exact cP_fr (zP i hi) (hw _ (by omega) (by omega)) (hw _ (by omega) (by omega)) (hw _ (by omega) (by omega)) (hl i hi) (by rw [h2]) h3
  · intro s hs
    exact cS_fr (zS s hs) (hw _ (by omega) (by omega)) (hw _ (by omega) (by omega)) h4 (by rw [h5])
  · intro u hu
    rw [hU] at hu
    exact cU_fr (zU u hu) (hw _ (by omega) (by omega)) (hw _ (by omega) (by omega)) (by rw [h6]) h7
  · intro u i hu hi hk
    rw [h7] at hk
    obtain ⟨a1, a2, a3⟩ := zV u i hu hi hk
    rw [hP, hU]
    exact ⟨a1, a2, cV_fr a3 (hw _ (by omega) (by omega)) (hw _ (by omega) (by omega)) (hl i a2) h8⟩
  · intro i h1 h9
    rw [hP] at h1
    rw [hw _ (by omega) (by omega), hw _ (by omega) (by omega), hw _ (by omega) (by omega)]
    exact zN1 i h1 h9
  · intro u h1 h9
    rw [hU] at h1
    rw [hw _ (by omega) (by omega), hw _ (by omega) (by omega)]
    exact zN2 u h1 h9
  · intro u i hu hi h9
    rw [h7] at h9
    rw [hw _ (by omega) (by omega), hw _ (by omega) (by omega)]
    exact zN3 u i hu hi h9
/-- nothing is touched; the reference's last word alone -/
theorem cW_l {tc : Nat → ClassId} {w : gW} {ca : Nat → Nat} {d : gDt} {tk : Int64} {st : Nat → Int64} (hC : cW tc w ca d tk st) (x : Int32) : cW tc w ca (sL d x) tk st := hC
theorem cY_fr {d d' : gDt} {cy : Int32} (h : cY d cy) (h1 : d' 9 2 = d 9 2) (h3 : d' 9 3 = d 9 3) (hP : nP d' = nP d) (hl : ∀ i, i < nP d → lenN d' i = lenN d i) : cY d' cy := fun g => by
  obtain ⟨i, hi, e1, e2⟩ := h (by rw [← h1]; exact g)
  exact ⟨i, by rw [hP]; exact hi, by rw [h3]; exact e1, by rw [hl i hi]; exact e2⟩
theorem len_form {d : gDt} {x : Int32} {i : Nat} (hOk : mOk d) (hi : i < nP d) : (upd (d 0) (d 9 0).toNatClampNeg x) (d 1 i).toNatClampNeg = d 0 (d 1 i).toNatClampNeg := by
  obtain ⟨j, hj, e⟩ := hOk.2.2.2 i hi
  have := hOk.1.1
  rw [e, nI_clamp (by omega)]
  unfold upd
  exact if_neg (by show ¬ j = nF d; omega)
abbrev rm_X5_form : Room := { frames := 6, cells := 8, slots := 48, locals := 230 }
theorem nm_X5_form : gNm yX5_form 1 := ⟨by decide +kernel, by decide +kernel, by decide +kernel⟩
set_option maxHeartbeats 4000000 in
set_option maxRecDepth 100000 in
theorem c_X5_form (l : Launch) (hfl : l.stackTraces = false) (D : va_G) (tc : Nat → ClassId) (A : Nat → Prop) (w : gW) (ca : Nat → Nat) (d : gDt) (tk : Int64) (st : Nat → Int64) (x : Int32) (hC : cW tc w ca d tk st) (hOk : mOk d) : gM l yX5_form cX5_form 2 (some .int) rm_X5_form D tc A [.ref (ca 0), .int x] w (fun v w' => ¬ m_go (ga_form d x) (gb_form d x) (gc_form d x) = 0 ∧ v = some (.int (d 9 0 + 1 - 1)) ∧ (∃ ca' : Nat → Nat, ca' 0 = ca 0 ∧ cW tc w' ca' (sL (gD (gD d 0 (upd (d 0) (d 9 0).toNatClampNeg x)) 9 (upd (d 9) 0 (d 9 0 + 1))) 0) tk st) ∧ gK w w') (c_thr gIA gIS gIS (ga_form d x) (gb_form d x) (gc_form d x)) := by
  refine gM_of (by decide +kernel) (Nat.le_of_ble_eq_true rfl) ?_
  intro p e s m args below meth c ls Q hQ hE hG hr hnt hnm hl
  have hx := hE.1
  have hb := hE.2.1
  have hl : lv_has ls 2 [(0, .ref (ca 0)), (1, .int x)] := hl
  obtain ⟨⟨z0, z1, z2, z5, z6⟩, ⟨cy, ge, sf, z3, z4, hsf, hce, hcy⟩, zP, zS, zU, zV, zN⟩ := id hC
  refine lv_iload_n hx hb dX5_form_0 rfl (lv_at hl 1 rfl) ?_
  refine lv_iconst (v := 4) hx hb dX5_form_1 (by decide) ?_
  refine lv_icmp_lt (tgt := 17) hx hb dX5_form_2 (by decide) (fun c_1 => ?_) (fun c_1 => ?_)
  · skip
    subst hQ
    exact g_thr (E := gIA) hfl hE hG hl.1 hnt gTgIA (List.mem_of_getElem? (i := 0) rfl) dX5_form_17 dX5_form_20 dX5_form_21 dX5_form_23 dX5_form_26 (by refine ⟨?_, ?_, ?_, ?_, ?_, ?_⟩ <;> exact Nat.le_of_ble_eq_true rfl) rfl (Or.inl ⟨by unfold ga_form; rw [if_pos (rng_lo c_1)], rfl⟩)
  · skip
    refine lv_iload_n hx hb dX5_form_5 rfl (lv_at hl 1 rfl) ?_
    refine lv_bipush (v := 64) hx hb dX5_form_6 (by decide) ?_
    refine lv_icmp_gt (tgt := 17) hx hb dX5_form_8 (by decide) (fun c_2 => ?_) (fun c_2 => ?_)
    · skip
      subst hQ
      exact g_thr (E := gIA) hfl hE hG hl.1 hnt gTgIA (List.mem_of_getElem? (i := 0) rfl) dX5_form_17 dX5_form_20 dX5_form_21 dX5_form_23 dX5_form_26 (by refine ⟨?_, ?_, ?_, ?_, ?_, ?_⟩ <;> exact Nat.le_of_ble_eq_true rfl) rfl (Or.inl ⟨by unfold ga_form; rw [if_pos (rng_hi c_2)], rfl⟩)
    · skip
      refine lv_iload_n hx hb dX5_form_11 rfl (lv_at hl 1 rfl) ?_
      refine lv_iconst (v := 4) hx hb dX5_form_12 (by decide) ?_
      refine lv_irem hx hb dX5_form_13 (by decide) ?_
      refine lv_if_eq (tgt := 27) hx hb dX5_form_14 (by decide) (fun c_3 => ?_) (fun c_3 => ?_)
      · skip
        refine lv_aload_n hx hb dX5_form_27 rfl (lv_at hl 0 rfl) ?_
        refine g_get hE hG z0 rfl inG5 1 (by decide) mw1_102 rfl dX5_form_28 ?_
        refine lv_aload_n hx hb dX5_form_31 rfl (lv_at hl 0 rfl) ?_
        refine g_get hE hG z0 rfl inG5 0 (by decide) mw1_101 rfl dX5_form_32 ?_
        refine g_alen (t0 := 0) (v := 4) hE hG z1 rfl rfl dX5_form_35 ?_
        refine lv_icmp_lt (tgt := 49) hx hb dX5_form_36 (by decide) (fun c_4 => ?_) (fun c_4 => ?_)
        · skip
          refine lv_aload_n hx hb dX5_form_49 rfl (lv_at hl 0 rfl) ?_
          refine g_get hE hG z0 rfl inG5 0 (by decide) mw1_101 rfl dX5_form_50 ?_
          refine lv_aload_n hx hb dX5_form_53 rfl (lv_at hl 0 rfl) ?_
          refine g_get hE hG z0 rfl inG5 1 (by decide) mw1_102 rfl dX5_form_54 ?_
          refine lv_iload_n hx hb dX5_form_57 rfl (lv_at hl 1 rfl) ?_
          refine g_iast hE hG z1 (arr_in (n := 4) (by decide) (by rw [hOk.2.1.1]; exact nI_pos (by have := hOk.1.1; omega)) (Int32.not_le.mpr c_4)) dX5_form_58 (fun H locs w_5 ew_5 hG => ?_)
          have h_6 : w_5 0 = some ((ca 0), .inr (5, [.ref (ca 1), .int (d 9 0), .ref (ca 2), .int (d 9 1), .ref (ca 3), .int (d 9 10), .int (d 9 11), .ref (ca 5), .int (d 9 12), .ref (ca 6), .int (d 9 13)])) := gU_n ew_5 (by decide) z0
          have h_7 : w_5 2 = some ((ca 2), .inl (tc 3, 6, .inr (.inr (.inr (.inr (c_pf ca (nP d))))))) := gU_n ew_5 (by decide) z2
          have h_8 : w_5 5 = some ((ca 5), .inl (tc 4, 4, .inr (.inr (.inr (.inr (c_sf ca)))))) := gU_n ew_5 (by decide) z5
          have h_9 : w_5 6 = some ((ca 6), .inl (tc 5, 8, .inr (.inr (.inr (.inr (c_uf ca (nU d))))))) := gU_n ew_5 (by decide) z6
          have h_10 : w_5 3 = some ((ca 3), .inr (4, [.int (d 9 3), .int cy, .int (d 9 4), .int (d 9 5), .int (d 9 6), .int (d 9 7), .int (d 9 8), .int (d 9 2), .int ge, .long tk, .ref (ca 4)])) := gU_n ew_5 (by decide) z3
          have h_11 : w_5 4 = some ((ca 4), .inl (tc 1, 4, .inr (.inl sf))) := gU_n ew_5 (by decide) z4
          have h_12 : w_5 1 = some ((ca 1), .inl (tc 0, 4, .inl (upd (d 0) (d 9 0).toNatClampNeg x))) := gU_s ew_5
          refine lv_aload_n hx hb dX5_form_59 rfl (lv_at hl 0 rfl) ?_
          refine lv_dup hx hb dX5_form_60 rfl ?_
          refine g_get hE hG h_6 rfl inG5 1 (by decide) mw1_102 rfl dX5_form_61 ?_
          refine lv_iconst (v := 1) hx hb dX5_form_64 (by decide) ?_
          refine lv_iadd hx hb dX5_form_65 ?_
          refine g_put hE hG h_6 rfl inG5 tyX5 tyX5_ok nmX5 1 (by decide) mw1_102 rfl rfl rfl (Nat.le_of_ble_eq_true rfl) dX5_form_66 (fun H locs w_13 ew_13 hG => ?_)
          have h_14 : w_13 2 = some ((ca 2), .inl (tc 3, 6, .inr (.inr (.inr (.inr (c_pf ca (nP d))))))) := gU_n ew_13 (by decide) h_7
          have h_15 : w_13 5 = some ((ca 5), .inl (tc 4, 4, .inr (.inr (.inr (.inr (c_sf ca)))))) := gU_n ew_13 (by decide) h_8
          have h_16 : w_13 6 = some ((ca 6), .inl (tc 5, 8, .inr (.inr (.inr (.inr (c_uf ca (nU d))))))) := gU_n ew_13 (by decide) h_9
          have h_17 : w_13 3 = some ((ca 3), .inr (4, [.int (d 9 3), .int cy, .int (d 9 4), .int (d 9 5), .int (d 9 6), .int (d 9 7), .int (d 9 8), .int (d 9 2), .int ge, .long tk, .ref (ca 4)])) := gU_n ew_13 (by decide) h_10
          have h_18 : w_13 4 = some ((ca 4), .inl (tc 1, 4, .inr (.inl sf))) := gU_n ew_13 (by decide) h_11
          have h_19 : w_13 1 = some ((ca 1), .inl (tc 0, 4, .inl (upd (d 0) (d 9 0).toNatClampNeg x))) := gU_n ew_13 (by decide) h_12
          have h_20 : w_13 0 = some ((ca 0), .inr (5, [.ref (ca 1), .int ((d 9 0) + 1), .ref (ca 2), .int (d 9 1), .ref (ca 3), .int (d 9 10), .int (d 9 11), .ref (ca 5), .int (d 9 12), .ref (ca 6), .int (d 9 13)])) := gU_s ew_13
          refine lv_aload_n hx hb dX5_form_69 rfl (lv_at hl 0 rfl) ?_
          refine g_get hE hG h_20 rfl inG5 1 (by decide) mw1_102 rfl dX5_form_70 ?_
          refine lv_iconst (v := 1) hx hb dX5_form_73 (by decide) ?_
          refine lv_isub hx hb dX5_form_74 ?_
          subst hQ
          exact g_iret hE hG hr (Nat.le_of_ble_eq_true rfl) (Nat.le_of_ble_eq_true rfl) dX5_form_75 ⟨m_go_i (by unfold ga_form; rw [if_neg (f_in_ok c_1 c_2), if_pos c_3]; decide) (by unfold gb_form; rw [if_neg (Int32.not_le.mpr c_4)]; decide) one_nz, rfl, ⟨ca, rfl, cW_hd hC (fun k h1 h2 => by rw [ew_13, gU_ne _ _ (by omega), ew_5, gU_ne _ _ (by omega)]) rfl rfl (fun i hi => congrArg Int32.toNatClampNeg (len_form hOk hi)) rfl rfl rfl rfl rfl rfl rfl h_20 h_19 h_14 h_15 h_16 ⟨cy, ge, sf, h_17, h_18, hsf, hce, cY_fr hcy rfl rfl rfl (fun i hi => congrArg Int32.toNatClampNeg (len_form hOk hi))⟩ hOk⟩, gK_u (gK_u (gK_rf w) ew_5 (by omega)) ew_13 (by omega)⟩
        · skip
          subst hQ
          exact g_thr (E := gIS) hfl hE hG hl.1 hnt gTgIS (List.mem_of_getElem? (i := 1) rfl) dX5_form_39 dX5_form_42 dX5_form_43 dX5_form_45 dX5_form_48 (by refine ⟨?_, ?_, ?_, ?_, ?_, ?_⟩ <;> exact Nat.le_of_ble_eq_true rfl) rfl (Or.inr (Or.inl ⟨by unfold ga_form; rw [if_neg (f_in_ok c_1 c_2), if_pos c_3]; decide, by unfold gb_form; rw [if_pos (Int32.not_lt.mp c_4)], rfl⟩))
      · skip
        subst hQ
        exact g_thr (E := gIA) hfl hE hG hl.1 hnt gTgIA (List.mem_of_getElem? (i := 0) rfl) dX5_form_17 dX5_form_20 dX5_form_21 dX5_form_23 dX5_form_26 (by refine ⟨?_, ?_, ?_, ?_, ?_, ?_⟩ <;> exact Nat.le_of_ble_eq_true rfl) rfl (Or.inl ⟨by unfold ga_form; rw [if_neg (f_in_ok c_1 c_2), if_neg c_3], rfl⟩)
abbrev rm_X5_days : Room := { frames := 6, cells := 8, slots := 48, locals := 230 }
theorem nm_X5_days : gNm yX5_days 1 := ⟨by decide +kernel, by decide +kernel, by decide +kernel⟩
set_option maxHeartbeats 4000000 in
set_option maxRecDepth 100000 in
theorem c_X5_days (l : Launch) (hfl : l.stackTraces = false) (D : va_G) (tc : Nat → ClassId) (A : Nat → Prop) (w : gW) (ca : Nat → Nat) (d : gDt) (tk : Int64) (st : Nat → Int64) (x : Int32) (hC : cW tc w ca d tk st) (hOk : mOk d) : gM l yX5_days cX5_days 2 (some .int) rm_X5_days D tc A [.ref (ca 0), .int x] w (fun v w' => ¬ m_go (ga_days d x) (gb_days d x) (gc_days d x) = 0 ∧ v = some (.int (d 9 11 + x - (d 9 11 + x) / 5 * 5)) ∧ (∃ ca' : Nat → Nat, ca' 0 = ca 0 ∧ cW tc w' ca' (sL (gD d 9 (upd (d 9) 11 (d 9 11 + x - (d 9 11 + x) / 5 * 5))) 0) tk st) ∧ gK w w') (c_thr gIA gIS gIS (ga_days d x) (gb_days d x) (gc_days d x)) := by
  refine gM_of (by decide +kernel) (Nat.le_of_ble_eq_true rfl) ?_
  intro p e s m args below meth c ls Q hQ hE hG hr hnt hnm hl
  have hx := hE.1
  have hb := hE.2.1
  have hl : lv_has ls 2 [(0, .ref (ca 0)), (1, .int x)] := hl
  obtain ⟨⟨z0, z1, z2, z5, z6⟩, ⟨cy, ge, sf, z3, z4, hsf, hce, hcy⟩, zP, zS, zU, zV, zN⟩ := id hC
  refine lv_iload_n hx hb dX5_days_0 rfl (lv_at hl 1 rfl) ?_
  refine lv_iconst (v := 1) hx hb dX5_days_1 (by decide) ?_
  refine lv_icmp_lt (tgt := 11) hx hb dX5_days_2 (by decide) (fun c_1 => ?_) (fun c_1 => ?_)
  · skip
    subst hQ
    exact g_thr (E := gIA) hfl hE hG hl.1 hnt gTgIA (List.mem_of_getElem? (i := 10) rfl) dX5_days_11 dX5_days_14 dX5_days_15 dX5_days_17 dX5_days_20 (by refine ⟨?_, ?_, ?_, ?_, ?_, ?_⟩ <;> exact Nat.le_of_ble_eq_true rfl) rfl (Or.inl ⟨rng_lo c_1, rfl⟩)
  · skip
    refine lv_iload_n hx hb dX5_days_5 rfl (lv_at hl 1 rfl) ?_
    refine lv_bipush (v := 100) hx hb dX5_days_6 (by decide) ?_
    refine lv_icmp_le (tgt := 21) hx hb dX5_days_8 (by decide) (fun c_2 => ?_) (fun c_2 => ?_)
    · skip
      refine lv_aload_n hx hb dX5_days_21 rfl (lv_at hl 0 rfl) ?_
      refine g_get hE hG z0 rfl inG5 4 (by decide) mw1_105 rfl dX5_days_22 ?_
      refine g_getN hE hG z3 rfl inG4 7 (by decide) (List.mem_of_getElem? (i := 5) rfl) rfl dX5_days_25 ?_
      refine lv_if_eq (tgt := 41) hx hb dX5_days_28 (by decide) (fun c_3 => ?_) (fun c_3 => ?_)
      · skip
        refine lv_aload_n hx hb dX5_days_41 rfl (lv_at hl 0 rfl) ?_
        refine lv_aload_n hx hb dX5_days_42 rfl (lv_at hl 0 rfl) ?_
        refine g_get hE hG z0 rfl inG5 6 (by decide) mw1_107 rfl dX5_days_43 ?_
        refine lv_iload_n hx hb dX5_days_46 rfl (lv_at hl 1 rfl) ?_
        refine lv_iadd hx hb dX5_days_47 ?_
        refine lv_iconst (v := 5) hx hb dX5_days_48 (by decide) ?_
        refine lv_irem hx hb dX5_days_49 (by decide) ?_
        refine g_put hE hG z0 rfl inG5 tyX5 tyX5_ok nmX5 6 (by decide) mw1_107 rfl rfl rfl (Nat.le_of_ble_eq_true rfl) dX5_days_50 (fun H locs w_4 ew_4 hG => ?_)
        have h_5 : w_4 1 = some ((ca 1), .inl (tc 0, 4, .inl (d 0))) := gU_n ew_4 (by decide) z1
        have h_6 : w_4 2 = some ((ca 2), .inl (tc 3, 6, .inr (.inr (.inr (.inr (c_pf ca (nP d))))))) := gU_n ew_4 (by decide) z2
        have h_7 : w_4 5 = some ((ca 5), .inl (tc 4, 4, .inr (.inr (.inr (.inr (c_sf ca)))))) := gU_n ew_4 (by decide) z5
        have h_8 : w_4 6 = some ((ca 6), .inl (tc 5, 8, .inr (.inr (.inr (.inr (c_uf ca (nU d))))))) := gU_n ew_4 (by decide) z6
        have h_9 : w_4 3 = some ((ca 3), .inr (4, [.int (d 9 3), .int cy, .int (d 9 4), .int (d 9 5), .int (d 9 6), .int (d 9 7), .int (d 9 8), .int (d 9 2), .int ge, .long tk, .ref (ca 4)])) := gU_n ew_4 (by decide) z3
        have h_10 : w_4 4 = some ((ca 4), .inl (tc 1, 4, .inr (.inl sf))) := gU_n ew_4 (by decide) z4
        have h_11 : w_4 0 = some ((ca 0), .inr (5, [.ref (ca 1), .int (d 9 0), .ref (ca 2), .int (d 9 1), .ref (ca 3), .int (d 9 10), .int (((d 9 11) + x) - ((d 9 11) + x) / 5 * 5), .ref (ca 5), .int (d 9 12), .ref (ca 6), .int (d 9 13)])) := gU_s ew_4
        refine lv_aload_n hx hb dX5_days_53 rfl (lv_at hl 0 rfl) ?_
        refine g_get hE hG h_11 rfl inG5 6 (by decide) mw1_107 rfl dX5_days_54 ?_
        subst hQ
        exact g_iret hE hG hr (Nat.le_of_ble_eq_true rfl) (Nat.le_of_ble_eq_true rfl) dX5_days_57 ⟨m_go_i (f_in_ok c_1 (Int32.not_lt.mpr c_2)) (by unfold gb_days; rw [if_pos c_3]; decide) one_nz, rfl, ⟨ca, rfl, cW_hd hC (fun k h1 h2 => by rw [ew_4, gU_ne _ _ (by omega)]) rfl rfl (fun _ _ => rfl) rfl rfl rfl rfl rfl rfl rfl h_11 h_5 h_6 h_7 h_8 ⟨cy, ge, sf, h_9, h_10, hsf, hce, cY_fr hcy rfl rfl rfl (fun _ _ => rfl)⟩ hOk⟩, gK_u (gK_rf w) ew_4 (by omega)⟩
      · skip
        subst hQ
        exact g_thr (E := gIS) hfl hE hG hl.1 hnt gTgIS (List.mem_of_getElem? (i := 5) rfl) dX5_days_31 dX5_days_34 dX5_days_35 dX5_days_37 dX5_days_40 (by refine ⟨?_, ?_, ?_, ?_, ?_, ?_⟩ <;> exact Nat.le_of_ble_eq_true rfl) rfl (Or.inr (Or.inl ⟨f_in_ok c_1 (Int32.not_lt.mpr c_2), by unfold gb_days; rw [if_neg c_3], rfl⟩))
    · skip
      subst hQ
      exact g_thr (E := gIA) hfl hE hG hl.1 hnt gTgIA (List.mem_of_getElem? (i := 10) rfl) dX5_days_11 dX5_days_14 dX5_days_15 dX5_days_17 dX5_days_20 (by refine ⟨?_, ?_, ?_, ?_, ?_, ?_⟩ <;> exact Nat.le_of_ble_eq_true rfl) rfl (Or.inl ⟨rng_hi (Int32.not_le.mp c_2), rfl⟩)
abbrev rm_X5_ticks : Room := { frames := 1, cells := 0, slots := 0, locals := 50 }
theorem nm_X5_ticks : gNm yX5_ticks 0 := ⟨by decide +kernel, by decide +kernel, by decide +kernel⟩
set_option maxHeartbeats 4000000 in
set_option maxRecDepth 100000 in
theorem c_X5_ticks (l : Launch) (hfl : l.stackTraces = false) (D : va_G) (tc : Nat → ClassId) (A : Nat → Prop) (w : gW) (ca : Nat → Nat) (d : gDt) (tk : Int64) (st : Nat → Int64) (hC : cW tc w ca d tk st) (hOk : mOk d) : gM l yX5_ticks cX5_ticks 1 (some .long) rm_X5_ticks D tc A [.ref (ca 0)] w (fun v w' => v = some (.long tk) ∧ w' = w) (fun _ => False) := by
  refine gM_of (by decide +kernel) (Nat.le_of_ble_eq_true rfl) ?_
  intro p e s m args below meth c ls Q hQ hE hG hr hnt hnm hl
  have hx := hE.1
  have hb := hE.2.1
  have hl : lv_has ls 1 [(0, .ref (ca 0))] := hl
  obtain ⟨⟨z0, z1, z2, z5, z6⟩, ⟨cy, ge, sf, z3, z4, hsf, hce, hcy⟩, zP, zS, zU, zV, zN⟩ := id hC
  refine lv_aload_n hx hb dX5_ticks_0 rfl (lv_at hl 0 rfl) ?_
  refine g_get hE hG z0 rfl inG5 4 (by decide) mw1_105 rfl dX5_ticks_1 ?_
  refine g_getN hE hG z3 rfl inG4 9 (by decide) (List.mem_of_getElem? (i := 6) rfl) rfl dX5_ticks_4 ?_
  subst hQ
  exact g_lret hE hG hr (Nat.le_of_ble_eq_true rfl) (Nat.le_of_ble_eq_true rfl) dX5_ticks_7 ⟨rfl, rfl⟩
theorem str_st {sf st : Nat → Int64} {x : Int32} (h : ∀ j, j < 4 → sf j = st j) (hx : ¬ m_isPart x = 0) : f_sto sf x = st x.toNatClampNeg := by
  obtain ⟨h1, h2⟩ := f_in_ne hx
  obtain ⟨i, hi, rfl⟩ := nI_cnt (n := 4) (by decide) h1 h2
  rw [nI_clamp (by omega), ← h i hi]
  unfold f_sto
  rw [if_neg (nI_pos (by omega)), if_neg (by rw [show (4 : Int32) = nI 4 from rfl]; exact nI_ge (by omega) (by omega)), nI_clamp (by omega)]
abbrev rm_X5_strokes : Room := { frames := 7, cells := 1, slots := 6, locals := 266 }
theorem nm_X5_strokes : gNm yX5_strokes 1 := ⟨by decide +kernel, by decide +kernel, by decide +kernel⟩
set_option maxHeartbeats 4000000 in
set_option maxRecDepth 100000 in
theorem c_X5_strokes (l : Launch) (hfl : l.stackTraces = false) (D : va_G) (tc : Nat → ClassId) (A : Nat → Prop) (w : gW) (ca : Nat → Nat) (d : gDt) (tk : Int64) (st : Nat → Int64) (x : Int32) (hC : cW tc w ca d tk st) (hOk : mOk d) : gM l yX5_strokes cX5_strokes 2 (some .long) rm_X5_strokes D tc A [.ref (ca 0), .int x] w (fun v w' => ¬ m_isPart x = 0 ∧ v = some (.long (st x.toNatClampNeg)) ∧ w' = w) (fun E => m_isPart x = 0 ∧ E = gIO) := by
  refine gM_of (by decide +kernel) (Nat.le_of_ble_eq_true rfl) ?_
  intro p e s m args below meth c ls Q hQ hE hG hr hnt hnm hl
  have hx := hE.1
  have hb := hE.2.1
  have hl : lv_has ls 2 [(0, .ref (ca 0)), (1, .int x)] := hl
  obtain ⟨⟨z0, z1, z2, z5, z6⟩, ⟨cy, ge, sf, z3, z4, hsf, hce, hcy⟩, zP, zS, zU, zV, zN⟩ := id hC
  refine lv_iload_n hx hb dX5_strokes_0 rfl (lv_at hl 1 rfl) ?_
  refine g_callS (rest := []) (As := [.int x]) hE hG hl.1 (c_X5_refuseNoPart l hfl D tc A w x ) mw3_88 mw3_89 mw1_1 mw3_90 nm_X5_refuseNoPart ⟨⟨Nat.le_of_ble_eq_true rfl, Nat.le_of_ble_eq_true rfl⟩, Nat.le_of_ble_eq_true rfl, Nat.le_of_ble_eq_true rfl⟩ rfl rfl (Nat.le_of_ble_eq_true rfl) dX5_strokes_1 (by subst hQ; exact g_out hE hnt rfl (fun _ h => h) (Nat.le_of_ble_eq_true rfl) (Nat.le_of_ble_eq_true rfl)) ?_
  intro v9 w9 H locs h9 hG
  obtain ⟨e9, e8, r_1⟩ := h9
  rw [e8] at hG; rw [e9]; clear e8 e9
  show W p l e _ s m args below meth c H locs _ _ _ (F0 m 4 ls [])
  refine lv_aload_n hx hb dX5_strokes_4 rfl (lv_at hl 0 rfl) ?_
  refine g_get hE hG z0 rfl inG5 4 (by decide) mw1_105 rfl dX5_strokes_5 ?_
  refine lv_iload_n hx hb dX5_strokes_8 rfl (lv_at hl 1 rfl) ?_
  refine g_callV (rest := []) (As := [.int x]) hE hG hl.1 (c_X4_strokesOf l hfl D tc A w 3 4 (ca 3) (ca 4) (d 9 3) cy (d 9 4) (d 9 5) (d 9 6) (d 9 7) (d 9 8) (d 9 2) ge tk sf x z3 z4 ) z3 rfl mw3_128 mw3_129 mw3_130 mw1_2 mw3_131 rfl nm_X4_strokesOf ⟨⟨Nat.le_of_ble_eq_true rfl, Nat.le_of_ble_eq_true rfl⟩, Nat.le_of_ble_eq_true rfl, Nat.le_of_ble_eq_true rfl⟩ rfl rfl (Nat.le_of_ble_eq_true rfl) dX5_strokes_9 (g_no) ?_
  intro v9 w9 H locs h9 hG
  obtain ⟨e9, f9⟩ := h9
  rw [f9] at hG; rw [e9]; clear e9 f9
  show W p l e _ s m args below meth c H locs _ _ _ (F0 m 12 ls [.long (f_sto sf x)])
  subst hQ
  exact g_lret hE hG hr (Nat.le_of_ble_eq_true rfl) (Nat.le_of_ble_eq_true rfl) dX5_strokes_12 ⟨r_1, congrArg (fun a => some (Value.long a)) (str_st hsf r_1), rfl⟩
