/-! GongCycles: strokes of a pair -/
/-- the tones are 0 to 7 -/
def tOk (d : gDt) : Prop := ∀ j, ∃ k : Nat, k ≤ 7 ∧ d 3 j = nI k
def kk (c : Nat) : Nat := if c / 4 = 0 then 1 else if c / 4 = 2 then 2 ^ (c % 4) else 2 ^ (c % 4 + 1)
theorem kk_den : ∀ c : Nat, c < 16 → f_den (nI (c / 4)) (nI (c % 4)) = nI (kk c) ∧ 1 ≤ kk c ∧ kk c ≤ 16 := by decide +kernel
set_option maxHeartbeats 4000000 in
theorem tab_at : ∀ c : Nat, c < 16 → ∀ T : Nat, T < 2 * kk c → ∀ x : Nat, x < 8 → ∀ y : Nat, y < 8 → f_strokeAt (nI (c / 4)) (nI (kk c)) (nI T) (nI x) (nI y) = m_str (nI (c / 4)) (nI (kk c)) (nI T) (nI x) (nI y) := by decide +kernel
set_option maxHeartbeats 4000000 in
theorem tab_0 : ∀ c : Nat, c < 16 → ∀ x : Nat, x < 8 → ∀ y : Nat, y < 8 → m_str (nI (c / 4)) (nI (kk c)) (nI 0) (nI x) (nI y) = nI x := by decide +kernel
set_option maxHeartbeats 4000000 in
theorem tab_s : ∀ c : Nat, c < 16 → ∀ T : Nat, T < 2 * kk c - 1 → ∀ x : Nat, x < 8 → ∀ y : Nat, y < 8 → f_strokeB (m_str (nI (c / 4)) (nI (kk c)) (nI T) (nI x) (nI y)) (nI (c / 4)) (nI (kk c)) (nI (T + 1)) (nI x) (nI y) = m_str (nI (c / 4)) (nI (kk c)) (nI (T + 1)) (nI x) (nI y) := by decide +kernel
theorem tab_sbs {c x y : Nat} (hc : c < 16) (hx : x < 8) (hy : y < 8) : ∀ T, T < 2 * kk c → f_sbs (nI (c / 4)) (nI (kk c)) (nI x) (nI y) T = m_str (nI (c / 4)) (nI (kk c)) (nI T) (nI x) (nI y) := by
  intro T
  induction T with
  | zero => intro _; exact (tab_0 c hc x hx y hy).symm
  | succ T ih =>
    intro h
    show f_strokeB (f_sbs (nI (c / 4)) (nI (kk c)) (nI x) (nI y) T) (nI (c / 4)) (nI (kk c)) (nI (T + 1)) (nI x) (nI y) = _
    rw [ih (by omega)]
    exact tab_s c hc T (by omega) x hx y hy
theorem in03 {a : Int32} (h : ¬ f_in a 0 3 = 0) : ∃ p, p < 4 ∧ a = nI p := by
  obtain ⟨h1, h2⟩ := f_in_ne h
  exact nI_cnt (n := 4) (by decide) h1 h2
theorem den_rng {a b : Int32} (ha : ¬ f_in a 0 3 = 0) (hb : ¬ f_in b 0 3 = 0) : ∃ c : Nat, c < 16 ∧ a = nI (c / 4) ∧ f_den a b = nI (kk c) ∧ 1 ≤ kk c ∧ kk c ≤ 16 := by
  obtain ⟨p, hp, rfl⟩ := in03 ha
  obtain ⟨q, hq, rfl⟩ := in03 hb
  have h := kk_den (4 * p + q) (by omega)
  rw [show (4 * p + q) / 4 = p by omega, show (4 * p + q) % 4 = q by omega] at h
  exact ⟨4 * p + q, by omega, by rw [show (4 * p + q) / 4 = p by omega], h⟩
theorem st_hi {k : Nat} {q : Int32} (h1 : 1 ≤ k) (h2 : k ≤ 16) : (nI k - 1 < q) ↔ ¬ q < nI k := by
  rw [Int32.lt_iff_toInt_lt, Int32.lt_iff_toInt_lt, nI_prd (by omega), nI_toInt (by omega)]
  omega
theorem fst_c {z : Nat} (h : 1 ≤ z) (hz : z ≤ 64) : (if nI z - nI z / 2 * 2 = 0 then nI z - 1 else nI z) = nI (m_fst z) := by
  rw [show (2 : Int32) = nI 2 from rfl, pk_rem (by omega) (by decide) (by decide)]
  unfold m_fst
  by_cases h2 : z % 2 = 0
  · rw [h2, if_pos (show nI 0 = 0 from rfl), show (1 : Int32) = nI 1 from rfl, nI_sub h (by omega)]
    rfl
  · rw [show z % 2 = 1 by omega, if_neg (by decide), show z - 1 + 1 = z by omega]
theorem den_a {a b : Int32} (ha : ¬ f_in a 0 3 = 0) : f_den a b = m_den a b := by
  obtain ⟨p, hp, rfl⟩ := in03 ha
  exact den_eq hp
abbrev rm_X5_refuseNoStroke : Room := { frames := 7, cells := 4, slots := 24, locals := 266 }
theorem nm_X5_refuseNoStroke : gNm yX5_refuseNoStroke 5 := ⟨by decide +kernel, by decide +kernel, by decide +kernel⟩
set_option maxHeartbeats 4000000 in
set_option maxRecDepth 100000 in
theorem c_X5_refuseNoStroke (l : Launch) (hfl : l.stackTraces = false) (D : va_G) (tc : Nat → ClassId) (A : Nat → Prop) (w : gW) (k0 : Nat) (k1 : Nat) (h0 : Nat) (t : Nat) (n : Nat) (f : Nat → Int32) (a : Int32) (y : Int32) (b : Int32) (q : Int32) (h1 : w k0 = some (h0, .inr (1, [.ref t]))) (h2 : w k1 = some (t, .inl (tc 0, n, .inl f))) : gM l yX5_refuseNoStroke cX5_refuseNoStroke 5 none rm_X5_refuseNoStroke D tc A [.ref h0, .int a, .int y, .int b, .int q] w (fun v w' => v = none ∧ w' = w ∧ ¬ f_in a 0 3 = 0 ∧ ¬ f_has n y = 0 ∧ ¬ f_in b 0 3 = 0 ∧ ¬ f_in q 0 (f_den a b - 1) = 0) (fun E => ((f_in a 0 3 = 0 ∨ f_has n y = 0) ∧ E = gIO) ∨ (¬ f_in a 0 3 = 0 ∧ ¬ f_has n y = 0 ∧ (f_in b 0 3 = 0 ∨ (¬ f_in b 0 3 = 0 ∧ f_in q 0 (f_den a b - 1) = 0)) ∧ E = gIA)) := by
  refine gM_of (by decide +kernel) (Nat.le_of_ble_eq_true rfl) ?_
  intro p e s m args below meth c ls Q hQ hE hG hr hnt hnm hl
  have hx := hE.1
  have hb := hE.2.1
  have hl : lv_has ls 5 [(0, .ref h0), (1, .int a), (2, .int y), (3, .int b), (4, .int q)] := hl
  refine lv_iload_n hx hb dX5_refuseNoStroke_0 rfl (lv_at hl 1 rfl) ?_
  refine g_callS (rest := []) (As := [.int a]) hE hG hl.1 (c_X5_refuseNoPart l hfl D tc A w a ) mw3_88 mw3_89 mw1_1 mw3_90 nm_X5_refuseNoPart ⟨⟨Nat.le_of_ble_eq_true rfl, Nat.le_of_ble_eq_true rfl⟩, Nat.le_of_ble_eq_true rfl, Nat.le_of_ble_eq_true rfl⟩ rfl rfl (Nat.le_of_ble_eq_true rfl) dX5_refuseNoStroke_1 (by subst hQ; exact g_out hE hnt rfl (fun E h => Or.inl ⟨Or.inl h.1, h.2⟩) (Nat.le_of_ble_eq_true rfl) (Nat.le_of_ble_eq_true rfl)) ?_
  intro v9 w9 H locs h9 hG
  obtain ⟨e9, e8, r_1⟩ := h9
  rw [e8] at hG; rw [e9]; clear e8 e9
  show W p l e _ s m args below meth c H locs _ _ _ (F0 m 4 ls [])
  refine lv_aload_n hx hb dX5_refuseNoStroke_4 rfl (lv_at hl 0 rfl) ?_
  refine lv_iload_n hx hb dX5_refuseNoStroke_5 rfl (lv_at hl 2 rfl) ?_
  refine g_callS (rest := []) (As := [.ref h0, .int y]) hE hG hl.1 (c_X5_refuseNoPlace l hfl D tc A w k0 k1 h0 t n f y h1 h2 ) mw2_62 mw2_63 mw1_1 mw2_64 nm_X5_refuseNoPlace ⟨⟨Nat.le_of_ble_eq_true rfl, Nat.le_of_ble_eq_true rfl⟩, Nat.le_of_ble_eq_true rfl, Nat.le_of_ble_eq_true rfl⟩ rfl rfl (Nat.le_of_ble_eq_true rfl) dX5_refuseNoStroke_6 (by subst hQ; exact g_out hE hnt rfl (fun E h => Or.inl ⟨Or.inr h.1, h.2⟩) (Nat.le_of_ble_eq_true rfl) (Nat.le_of_ble_eq_true rfl)) ?_
  intro v9 w9 H locs h9 hG
  obtain ⟨e9, e8, r_2⟩ := h9
  rw [e8] at hG; rw [e9]; clear e8 e9
  show W p l e _ s m args below meth c H locs _ _ _ (F0 m 9 ls [])
  refine lv_iload_n hx hb dX5_refuseNoStroke_9 rfl (lv_at hl 3 rfl) ?_
  refine lv_if_lt (tgt := 18) hx hb dX5_refuseNoStroke_10 (by decide) (fun c_3 => ?_) (fun c_3 => ?_)
  · skip
    subst hQ
    exact g_thrW (E := gIA) hfl hE hG hl.1 hnt gTgIA (List.mem_of_getElem? (i := 28) rfl) dX5_refuseNoStroke_18 dX5_refuseNoStroke_21 dX5_refuseNoStroke_22 dX5_refuseNoStroke_25 dX5_refuseNoStroke_28 (by refine ⟨?_, ?_, ?_, ?_, ?_, ?_⟩ <;> exact Nat.le_of_ble_eq_true rfl) rfl (Or.inr ⟨r_1, r_2, Or.inl (rng_lo c_3), rfl⟩)
  · skip
    refine lv_iload_n hx hb dX5_refuseNoStroke_13 rfl (lv_at hl 3 rfl) ?_
    refine lv_iconst (v := 3) hx hb dX5_refuseNoStroke_14 (by decide) ?_
    refine lv_icmp_le (tgt := 29) hx hb dX5_refuseNoStroke_15 (by decide) (fun c_4 => ?_) (fun c_4 => ?_)
    · skip
      refine lv_iload hx hb dX5_refuseNoStroke_29 (lv_at hl 4 rfl) ?_
      refine lv_if_lt (tgt := 44) hx hb dX5_refuseNoStroke_31 (by decide) (fun c_5 => ?_) (fun c_5 => ?_)
      · skip
        subst hQ
        exact g_thrW (E := gIA) hfl hE hG hl.1 hnt gTgIA (List.mem_of_getElem? (i := 29) rfl) dX5_refuseNoStroke_44 dX5_refuseNoStroke_47 dX5_refuseNoStroke_48 dX5_refuseNoStroke_51 dX5_refuseNoStroke_54 (by refine ⟨?_, ?_, ?_, ?_, ?_, ?_⟩ <;> exact Nat.le_of_ble_eq_true rfl) rfl (Or.inr ⟨r_1, r_2, Or.inr ⟨(f_in_ok c_3 (Int32.not_lt.mpr c_4)), rng_lo c_5⟩, rfl⟩)
      · skip
        obtain ⟨c9, hc9, ha9, hk9, hk1, hk2⟩ := den_rng r_1 (f_in_ok c_3 (Int32.not_lt.mpr c_4))
        refine lv_iload hx hb dX5_refuseNoStroke_34 (lv_at hl 4 rfl) ?_
        refine lv_iload_n hx hb dX5_refuseNoStroke_36 rfl (lv_at hl 1 rfl) ?_
        refine lv_iload_n hx hb dX5_refuseNoStroke_37 rfl (lv_at hl 3 rfl) ?_
        refine g_callS (rest := [.int q]) (As := [.int a, .int b]) hE hG hl.1 (c_X5_densityOf l hfl D tc A w a b ) mw3_93 mw2_162 mw1_1 mw2_163 nm_X5_densityOf ⟨⟨Nat.le_of_ble_eq_true rfl, Nat.le_of_ble_eq_true rfl⟩, Nat.le_of_ble_eq_true rfl, Nat.le_of_ble_eq_true rfl⟩ rfl rfl (Nat.le_of_ble_eq_true rfl) dX5_refuseNoStroke_38 (g_no) ?_
        intro v9 w9 H locs h9 hG
        obtain ⟨e9, f9⟩ := h9
        rw [f9] at hG; rw [e9]; clear e9 f9
        show W p l e _ s m args below meth c H locs _ _ _ (F0 m 41 ls [.int (f_den a b), .int q])
        refine lv_icmp_lt (tgt := 55) hx hb dX5_refuseNoStroke_41 (by decide) (fun c_6 => ?_) (fun c_6 => ?_)
        · skip
          subst hQ
          exact g_vret hE hG hr (Nat.le_of_ble_eq_true rfl) (Nat.le_of_ble_eq_true rfl) dX5_refuseNoStroke_55 ⟨rfl, rfl, r_1, r_2, f_in_ok c_3 (Int32.not_lt.mpr c_4), f_in_ok c_5 (by rw [hk9] at *; exact fun g => (st_hi hk1 hk2).mp g c_6)⟩
        · skip
          subst hQ
          exact g_thrW (E := gIA) hfl hE hG hl.1 hnt gTgIA (List.mem_of_getElem? (i := 29) rfl) dX5_refuseNoStroke_44 dX5_refuseNoStroke_47 dX5_refuseNoStroke_48 dX5_refuseNoStroke_51 dX5_refuseNoStroke_54 (by refine ⟨?_, ?_, ?_, ?_, ?_, ?_⟩ <;> exact Nat.le_of_ble_eq_true rfl) rfl (Or.inr ⟨r_1, r_2, Or.inr ⟨(f_in_ok c_3 (Int32.not_lt.mpr c_4)), rng_hi (by rw [hk9] at *; exact (st_hi hk1 hk2).mpr c_6)⟩, rfl⟩)
    · skip
      subst hQ
      exact g_thrW (E := gIA) hfl hE hG hl.1 hnt gTgIA (List.mem_of_getElem? (i := 28) rfl) dX5_refuseNoStroke_18 dX5_refuseNoStroke_21 dX5_refuseNoStroke_22 dX5_refuseNoStroke_25 dX5_refuseNoStroke_28 (by refine ⟨?_, ?_, ?_, ?_, ?_, ?_⟩ <;> exact Nat.le_of_ble_eq_true rfl) rfl (Or.inr ⟨r_1, r_2, Or.inl (rng_hi (Int32.not_le.mp c_4)), rfl⟩)
theorem sk_ga {d : gDt} {x a y b t : Int32} (h : m_isPlace d x y = 0 ∨ m_isPart a = 0) : ga_stroke d x a y b t = 0 := by
  unfold ga_stroke
  by_cases hx : m_isPlace d x y = 0
  · rw [if_pos hx]
  · rw [if_neg hx, if_pos (h.resolve_left hx)]
theorem sk_gb {d : gDt} {x a y b t : Int32} (hx : ¬ m_isPlace d x y = 0) (hy : ¬ m_isPart a = 0) : ga_stroke d x a y b t = 1 := by
  unfold ga_stroke
  rw [if_neg hx, if_neg hy]
theorem sk_gc {d : gDt} {x a y b t : Int32} (h : ga_stroke d x a y b t = 1) : gb_stroke d x a y b t = (if f_in b 0 3 = 0 then 0 else if f_in t 0 (m_den a b - 1) = 0 then 0 else 1) := by
  unfold gb_stroke
  unfold ga_stroke at h
  rw [h, if_neg one_nz]
theorem sk_z {d : gDt} {x a y b t : Int32} (h1 : ¬ m_isPlace d x y = 0) (h2 : ¬ f_in a 0 3 = 0) (h : f_in b 0 3 = 0 ∨ (¬ f_in b 0 3 = 0 ∧ f_in t 0 (f_den a b - 1) = 0)) : gb_stroke d x a y b t = 0 := by
  rw [sk_gc (sk_gb h1 h2)]
  rcases h with h | ⟨h3, h⟩
  · rw [if_pos h]
  · rw [if_neg h3, if_pos (by rw [← den_a h2]; exact h)]
theorem sk_o {d : gDt} {x a y b t : Int32} (h1 : ¬ m_isPlace d x y = 0) (h2 : ¬ f_in a 0 3 = 0) (h3 : ¬ f_in b 0 3 = 0) (h : ¬ f_in t 0 (f_den a b - 1) = 0) : gb_stroke d x a y b t = 1 := by
  rw [sk_gc (sk_gb h1 h2), if_neg h3, if_neg (by rw [← den_a h2]; exact h)]
abbrev rm_X5_toneOfStroke : Room := { frames := 9, cells := 6, slots := 36, locals := 338 }
theorem nm_X5_toneOfStroke : gNm yX5_toneOfStroke 6 := ⟨by decide +kernel, by decide +kernel, by decide +kernel⟩
set_option maxHeartbeats 4000000 in
set_option maxRecDepth 100000 in
theorem c_X5_toneOfStroke (l : Launch) (hfl : l.stackTraces = false) (D : va_G) (tc : Nat → ClassId) (A : Nat → Prop) (w : gW) (ca : Nat → Nat) (d : gDt) (tk : Int64) (st : Nat → Int64) (x : Int32) (a : Int32) (y : Int32) (b : Int32) (t : Int32) (an : Int32) (hC : cW tc w ca d tk st) (hOk : mOk d) (hT : tOk d) : gM l yX5_toneOfStroke cX5_toneOfStroke 13 (some .int) rm_X5_toneOfStroke D tc A [.ref (ca 0), .int x, .int a, .int y, .int b, .int t, .int an] w (fun v w' => ¬ m_go (ga_stroke d x a y b t) (gb_stroke d x a y b t) (gc_stroke d x a y b t) = 0 ∧ v = some (.int (m_stroke d x a y b t)) ∧ w' = w) (c_thr gIO gIA gIS (ga_stroke d x a y b t) (gb_stroke d x a y b t) (gc_stroke d x a y b t)) := by
  refine gM_of (by decide +kernel) (Nat.le_of_ble_eq_true rfl) ?_
  intro p e s m args below meth c ls Q hQ hE hG hr hnt hnm hl
  have hx := hE.1
  have hb := hE.2.1
  have hl : lv_has ls 13 [(0, .ref (ca 0)), (1, .int x), (2, .int a), (3, .int y), (4, .int b), (5, .int t), (6, .int an)] := hl
  obtain ⟨⟨z0, z1, z2, z5, z6⟩, ⟨cy, ge, sf, z3, z4, hsf, hce, hcy⟩, zP, zS, zU, zV, zN⟩ := id hC
  refine lv_aload_n hx hb dX5_toneOfStroke_0 rfl (lv_at hl 0 rfl) ?_
  refine lv_iload_n hx hb dX5_toneOfStroke_1 rfl (lv_at hl 1 rfl) ?_
  refine g_callV (rest := []) (As := [.int x]) hE hG hl.1 (c_X5_pieceAt l hfl D tc A w ca d tk st x hC hOk) z0 rfl mw2_57 mw2_59 mws_2 mw1_1 mw2_60 rfl nm_X5_pieceAt ⟨⟨Nat.le_of_ble_eq_true rfl, Nat.le_of_ble_eq_true rfl⟩, Nat.le_of_ble_eq_true rfl, Nat.le_of_ble_eq_true rfl⟩ rfl rfl (Nat.le_of_ble_eq_true rfl) dX5_toneOfStroke_2 (by subst hQ; exact g_out hE hnt rfl (fun E h => Or.inl ⟨sk_ga (Or.inl (isPlace_np h.1)), h.2⟩) (Nat.le_of_ble_eq_true rfl) (Nat.le_of_ble_eq_true rfl)) ?_
  intro v9 w9 H locs h9 hG
  obtain ⟨e8, i_1, hi_1, hxi_1, e9⟩ := h9
  rw [e9]; clear e9
  rw [e8] at hG; clear e8
  show W p l e _ s m args below meth c H locs _ _ _ (F0 m 5 ls [.ref (ca (10 + i_1))])
  subst hxi_1
  have b6a : i_1 < 6 := by have := hOk.1.2.1; omega
  have b8a := (mOk_len hOk hi_1).2.2.1
  obtain ⟨p1a, p2a, pfa, p3a, p4a⟩ := zP i_1 hi_1
  refine g_getN hE hG p1a rfl inG2 0 (by decide) (List.mem_of_getElem? (i := 8) rfl) rfl dX5_toneOfStroke_5 ?_
  refine lv_astore (lv' := [(7, .ref (ca (20 + i_1))), (0, .ref (ca 0)), (1, .int (nI i_1)), (2, .int a), (3, .int y), (4, .int b), (5, .int t), (6, .int an)]) hx hb dX5_toneOfStroke_8 hl (by decide) rfl (fun ls hl => ?_)
  refine lv_aload hx hb dX5_toneOfStroke_10 (lv_at hl 0 rfl) ?_
  refine lv_iload_n hx hb dX5_toneOfStroke_12 rfl (lv_at hl 3 rfl) ?_
  refine lv_iload_n hx hb dX5_toneOfStroke_13 rfl (lv_at hl 4 rfl) ?_
  refine lv_iload hx hb dX5_toneOfStroke_14 (lv_at hl 5 rfl) ?_
  refine lv_iload hx hb dX5_toneOfStroke_16 (lv_at hl 6 rfl) ?_
  refine g_callS (rest := []) (As := [.ref (ca (20 + i_1)), .int a, .int y, .int b, .int t]) hE hG hl.1 (c_X5_refuseNoStroke l hfl D tc A w (20 + i_1) (30 + i_1) (ca (20 + i_1)) (ca (30 + i_1)) (lenN d i_1) pfa a y b t p2a p3a ) mw3_85 mw3_86 mw1_1 mw3_87 nm_X5_refuseNoStroke ⟨⟨Nat.le_of_ble_eq_true rfl, Nat.le_of_ble_eq_true rfl⟩, Nat.le_of_ble_eq_true rfl, Nat.le_of_ble_eq_true rfl⟩ rfl rfl (Nat.le_of_ble_eq_true rfl) dX5_toneOfStroke_18 (by subst hQ; exact g_out hE hnt rfl (fun E h => h.elim (fun h => Or.inl ⟨sk_ga (h.1.elim Or.inr (fun g => Or.inl ((isPlace_v hOk hi_1).mpr g))), h.2⟩) (fun h => Or.inr (Or.inl ⟨by rw [sk_gb (fun g => h.2.1 ((isPlace_v hOk hi_1).mp g)) h.1]; decide, sk_z (fun g => h.2.1 ((isPlace_v hOk hi_1).mp g)) h.1 h.2.2.1, h.2.2.2⟩))) (Nat.le_of_ble_eq_true rfl) (Nat.le_of_ble_eq_true rfl)) ?_
  intro v9 w9 H locs h9 hG
  obtain ⟨e9, e8, rp, rh, rb, rq⟩ := h9
  rw [e8] at hG; rw [e9]; clear e8 e9
  show W p l e _ s m args below meth c H locs _ _ _ (F0 m 21 ls [])
  refine lv_iload_n hx hb dX5_toneOfStroke_21 rfl (lv_at hl 3 rfl) ?_
  refine lv_iload hx hb dX5_toneOfStroke_22 (lv_at hl 5 rfl) ?_
  refine g_callS (rest := []) (As := [.int a, .int b]) hE hG hl.1 (c_X5_densityOf l hfl D tc A w a b ) mw3_93 mw2_162 mw1_1 mw2_163 nm_X5_densityOf ⟨⟨Nat.le_of_ble_eq_true rfl, Nat.le_of_ble_eq_true rfl⟩, Nat.le_of_ble_eq_true rfl, Nat.le_of_ble_eq_true rfl⟩ rfl rfl (Nat.le_of_ble_eq_true rfl) dX5_toneOfStroke_24 (g_no) ?_
  intro v9 w9 H locs h9 hG
  obtain ⟨e9, f9⟩ := h9
  rw [f9] at hG; rw [e9]; clear e9 f9
  show W p l e _ s m args below meth c H locs _ _ _ (F0 m 27 ls [.int (f_den a b)])
  refine lv_istore (lv' := [(8, .int (f_den a b)), (7, .ref (ca (20 + i_1))), (0, .ref (ca 0)), (1, .int (nI i_1)), (2, .int a), (3, .int y), (4, .int b), (5, .int t), (6, .int an)]) hx hb dX5_toneOfStroke_27 hl (by decide) rfl (fun ls hl => ?_)
  refine lv_iload_n hx hb dX5_toneOfStroke_29 rfl (lv_at hl 5 rfl) ?_
  refine lv_iconst (v := 2) hx hb dX5_toneOfStroke_30 (by decide) ?_
  refine lv_irem hx hb dX5_toneOfStroke_31 (by decide) ?_
  have j_3 : ∀ (v_2 : Int32) (H : Heap) (locs : List Loc), v_2 = (if (y - y / 2 * 2) = 0 then (y - 1) else y : Int32) → gS D A s.heap w H locs → W p l e rm_X5_toneOfStroke s m args below meth c H locs (((0 + rm_X5_pieceAt.cells) + rm_X5_refuseNoStroke.cells) + rm_X5_densityOf.cells) (((0 + rm_X5_pieceAt.slots) + rm_X5_refuseNoStroke.slots) + rm_X5_densityOf.slots) Q (F0 m 42 ls (.int v_2 :: [])) := by
    intro v_2 H locs ev_2 hG
    obtain ⟨j9, hj9, hy9, -⟩ := has_s (by omega) rh
    have hL4 := (mOk_len hOk hi_1).2.2.2
    have hv9 : v_2 = nI (m_fst (j9 + 1)) := by rw [ev_2, hy9]; exact fst_c (by omega) (by omega)
    clear ev_2
    subst hv9
    subst hy9
    obtain ⟨hf1, hf2⟩ := m_fst_b (z := j9 + 1) (by omega) (show j9 + 1 ≤ lenN d i_1 by omega) hL4
    refine lv_istore (lv' := [(9, .int (nI (m_fst (j9 + 1)))), (8, .int (f_den a b)), (7, .ref (ca (20 + i_1))), (0, .ref (ca 0)), (1, .int (nI i_1)), (2, .int a), (3, .int (nI (j9 + 1))), (4, .int b), (5, .int t), (6, .int an)]) hx hb dX5_toneOfStroke_42 hl (by decide) rfl (fun ls hl => ?_)
    refine lv_aload hx hb dX5_toneOfStroke_44 (lv_at hl 2 rfl) ?_
    refine lv_iload hx hb dX5_toneOfStroke_46 (lv_at hl 0 rfl) ?_
    refine g_callV (rest := []) (As := [.int (nI (m_fst (j9 + 1)))]) hE hG hl.1 (c_X1_soundAt l hfl D tc A w (20 + i_1) (30 + i_1) (ca (20 + i_1)) (ca (30 + i_1)) (lenN d i_1) pfa (nI (m_fst (j9 + 1))) p2a p3a (by omega)) p2a rfl mw3_73 mw3_74 mw3_75 mw1_11 mw3_76 rfl nm_X1_soundAt ⟨⟨Nat.le_of_ble_eq_true rfl, Nat.le_of_ble_eq_true rfl⟩, Nat.le_of_ble_eq_true rfl, Nat.le_of_ble_eq_true rfl⟩ rfl rfl (Nat.le_of_ble_eq_true rfl) dX5_toneOfStroke_48 (g_no) ?_
    intro v9 w9 H locs h9 hG
    obtain ⟨e9, f9⟩ := h9
    rw [f9] at hG; rw [e9]; clear e9 f9
    show W p l e _ s m args below meth c H locs _ _ _ (F0 m 51 ls [.int (f_snd (lenN d i_1) pfa (lenN d i_1) (nI (m_fst (j9 + 1))))])
    rw [snd_eq hOk hi_1 p4a hf1 (by omega)]
    refine lv_istore (lv' := [(10, .int (m_snd d i_1 (m_fst (j9 + 1)))), (9, .int (nI (m_fst (j9 + 1)))), (8, .int (f_den a b)), (7, .ref (ca (20 + i_1))), (0, .ref (ca 0)), (1, .int (nI i_1)), (2, .int a), (3, .int (nI (j9 + 1))), (4, .int b), (5, .int t), (6, .int an)]) hx hb dX5_toneOfStroke_51 hl (by decide) rfl (fun ls hl => ?_)
    refine lv_aload hx hb dX5_toneOfStroke_53 (lv_at hl 3 rfl) ?_
    refine lv_iload hx hb dX5_toneOfStroke_55 (lv_at hl 1 rfl) ?_
    refine lv_iconst (v := 1) hx hb dX5_toneOfStroke_57 (by decide) ?_
    refine lv_iadd hx hb dX5_toneOfStroke_58 ?_
    rw [nI_1]
    refine g_callV (rest := []) (As := [.int (nI (m_fst (j9 + 1) + 1))]) hE hG hl.1 (c_X1_soundAt l hfl D tc A w (20 + i_1) (30 + i_1) (ca (20 + i_1)) (ca (30 + i_1)) (lenN d i_1) pfa (nI (m_fst (j9 + 1) + 1)) p2a p3a (by omega)) p2a rfl mw3_73 mw3_74 mw3_75 mw1_11 mw3_76 rfl nm_X1_soundAt ⟨⟨Nat.le_of_ble_eq_true rfl, Nat.le_of_ble_eq_true rfl⟩, Nat.le_of_ble_eq_true rfl, Nat.le_of_ble_eq_true rfl⟩ rfl rfl (Nat.le_of_ble_eq_true rfl) dX5_toneOfStroke_59 (g_no) ?_
    intro v9 w9 H locs h9 hG
    obtain ⟨e9, f9⟩ := h9
    rw [f9] at hG; rw [e9]; clear e9 f9
    show W p l e _ s m args below meth c H locs _ _ _ (F0 m 62 ls [.int (f_snd (lenN d i_1) pfa (lenN d i_1) (nI (m_fst (j9 + 1) + 1)))])
    rw [snd_eq hOk hi_1 p4a (by omega) hf2]
    refine lv_istore (lv' := [(11, .int (m_snd d i_1 (m_fst (j9 + 1) + 1))), (10, .int (m_snd d i_1 (m_fst (j9 + 1)))), (9, .int (nI (m_fst (j9 + 1)))), (8, .int (f_den a b)), (7, .ref (ca (20 + i_1))), (0, .ref (ca 0)), (1, .int (nI i_1)), (2, .int a), (3, .int (nI (j9 + 1))), (4, .int b), (5, .int t), (6, .int an)]) hx hb dX5_toneOfStroke_62 hl (by decide) rfl (fun ls hl => ?_)
    refine lv_iload_n hx hb dX5_toneOfStroke_64 rfl (lv_at hl 8 rfl) ?_
    refine lv_iload hx hb dX5_toneOfStroke_65 (lv_at hl 2 rfl) ?_
    have j_5 : ∀ (v_4 : Int32) (H : Heap) (locs : List Loc), v_4 = (if (nI (j9 + 1)) = (nI (m_fst (j9 + 1))) then t else ((f_den a b) + t) : Int32) → gS D A s.heap w H locs → W p l e rm_X5_toneOfStroke s m args below meth c H locs (((((0 + rm_X5_pieceAt.cells) + rm_X5_refuseNoStroke.cells) + rm_X5_densityOf.cells) + rm_X1_soundAt.cells) + rm_X1_soundAt.cells) (((((0 + rm_X5_pieceAt.slots) + rm_X5_refuseNoStroke.slots) + rm_X5_densityOf.slots) + rm_X1_soundAt.slots) + rm_X1_soundAt.slots) Q (F0 m 80 ls (.int v_4 :: [])) := by
      intro v_4 H locs ev_4 hG
      obtain ⟨c9, hc9, ha9, hk9, hk1, hk2⟩ := den_rng rp rb
      have hT9 : ∃ T, T < 2 * kk c9 ∧ v_4 = nI T := by
        rw [hk9] at rq
        obtain ⟨q1, q2⟩ := f_in_ne rq
        obtain ⟨q, hq, hqt⟩ := nI_cnt (n := kk c9) (by omega) q1 q2
        rw [ev_4, hk9, hqt]
        split
        · exact ⟨q, by omega, rfl⟩
        · exact ⟨kk c9 + q, by omega, by rw [nI_add]⟩
      obtain ⟨T, hT9, hvT⟩ := hT9
      subst hvT
      refine lv_istore (lv' := [(12, .int (nI T)), (11, .int (m_snd d i_1 (m_fst (j9 + 1) + 1))), (10, .int (m_snd d i_1 (m_fst (j9 + 1)))), (9, .int (nI (m_fst (j9 + 1)))), (8, .int (f_den a b)), (7, .ref (ca (20 + i_1))), (0, .ref (ca 0)), (1, .int (nI i_1)), (2, .int a), (3, .int (nI (j9 + 1))), (4, .int b), (5, .int t), (6, .int an)]) hx hb dX5_toneOfStroke_80 hl (by decide) rfl (fun ls hl => ?_)
      refine lv_iload hx hb dX5_toneOfStroke_82 (lv_at hl 12 rfl) ?_
      refine lv_if_eq (tgt := 102) hx hb dX5_toneOfStroke_84 (by decide) (fun c_6 => ?_) (fun c_6 => ?_)
      · skip
        refine lv_iload_n hx hb dX5_toneOfStroke_102 rfl (lv_at hl 8 rfl) ?_
        refine lv_iload hx hb dX5_toneOfStroke_103 (lv_at hl 4 rfl) ?_
        refine lv_iload hx hb dX5_toneOfStroke_105 (lv_at hl 0 rfl) ?_
        refine lv_iload hx hb dX5_toneOfStroke_107 (lv_at hl 2 rfl) ?_
        refine lv_iload hx hb dX5_toneOfStroke_109 (lv_at hl 1 rfl) ?_
        refine g_callS (rest := []) (As := [.int a, .int (f_den a b), .int (nI T), .int (m_snd d i_1 (m_fst (j9 + 1))), .int (m_snd d i_1 (m_fst (j9 + 1) + 1))]) hE hG hl.1 (c_X5_strokeAt l hfl D tc A w a (f_den a b) (nI T) (m_snd d i_1 (m_fst (j9 + 1))) (m_snd d i_1 (m_fst (j9 + 1) + 1)) ) mw3_104 mw3_105 mw1_1 mw3_106 nm_X5_strokeAt ⟨⟨Nat.le_of_ble_eq_true rfl, Nat.le_of_ble_eq_true rfl⟩, Nat.le_of_ble_eq_true rfl, Nat.le_of_ble_eq_true rfl⟩ rfl rfl (Nat.le_of_ble_eq_true rfl) dX5_toneOfStroke_111 (g_no) ?_
        intro v9 w9 H locs h9 hG
        obtain ⟨e9, f9⟩ := h9
        rw [f9] at hG; rw [e9]; clear e9 f9
        show W p l e _ s m args below meth c H locs _ _ _ (F0 m 114 ls [.int (f_strokeAt a (f_den a b) (nI T) (m_snd d i_1 (m_fst (j9 + 1))) (m_snd d i_1 (m_fst (j9 + 1) + 1)))])
        subst hQ
        exact g_iret hE hG hr (Nat.le_of_ble_eq_true rfl) (Nat.le_of_ble_eq_true rfl) dX5_toneOfStroke_114 ⟨m_go_i (by rw [sk_gb (fun g => rh ((isPlace_v hOk hi_1).mp g)) rp]; decide) (by rw [sk_o (fun g => rh ((isPlace_v hOk hi_1).mp g)) rp rb rq]; decide) one_nz, congrArg (fun a => some (Value.int a)) (by unfold m_stroke; rw [nI_clamp (by omega), nI_clamp (by omega), ← den_a rp, ← ev_4]; obtain ⟨x9, hx9, ex9⟩ := hT (65 * i_1 + m_pos (d 3) i_1 (lenN d i_1) (lenN d i_1) (m_fst (j9 + 1))); obtain ⟨y9, hy9, ey9⟩ := hT (65 * i_1 + m_pos (d 3) i_1 (lenN d i_1) (lenN d i_1) (m_fst (j9 + 1) + 1)); rw [show m_snd d i_1 (m_fst (j9 + 1)) = nI x9 from ex9, show m_snd d i_1 (m_fst (j9 + 1) + 1) = nI y9 from ey9, hk9, ha9]; exact tab_at c9 hc9 T hT9 x9 (by omega) y9 (by omega)), rfl⟩
      · skip
        refine lv_iload_n hx hb dX5_toneOfStroke_87 rfl (lv_at hl 8 rfl) ?_
        refine lv_iload hx hb dX5_toneOfStroke_88 (lv_at hl 4 rfl) ?_
        refine lv_iload hx hb dX5_toneOfStroke_90 (lv_at hl 0 rfl) ?_
        refine lv_iload hx hb dX5_toneOfStroke_92 (lv_at hl 2 rfl) ?_
        refine lv_iload hx hb dX5_toneOfStroke_94 (lv_at hl 1 rfl) ?_
        refine g_callS (rest := []) (As := [.int a, .int (f_den a b), .int (nI T), .int (m_snd d i_1 (m_fst (j9 + 1))), .int (m_snd d i_1 (m_fst (j9 + 1) + 1))]) hE hG hl.1 (c_X5_strokeByStroke l hfl D tc A w a (f_den a b) T (m_snd d i_1 (m_fst (j9 + 1))) (m_snd d i_1 (m_fst (j9 + 1) + 1)) (by omega)) mw3_95 mw3_96 mw1_1 mw3_97 nm_X5_strokeByStroke ⟨⟨Nat.le_of_ble_eq_true rfl, Nat.le_of_ble_eq_true rfl⟩, Nat.le_of_ble_eq_true rfl, Nat.le_of_ble_eq_true rfl⟩ rfl rfl (Nat.le_of_ble_eq_true rfl) dX5_toneOfStroke_96 (g_no) ?_
        intro v9 w9 H locs h9 hG
        obtain ⟨e9, f9⟩ := h9
        rw [f9] at hG; rw [e9]; clear e9 f9
        show W p l e _ s m args below meth c H locs _ _ _ (F0 m 99 ls [.int (f_sbs a (f_den a b) (m_snd d i_1 (m_fst (j9 + 1))) (m_snd d i_1 (m_fst (j9 + 1) + 1)) T)])
        refine lv_goto (tgt := 114) hx hb dX5_toneOfStroke_99 (by decide) ?_
        subst hQ
        exact g_iret hE hG hr (Nat.le_of_ble_eq_true rfl) (Nat.le_of_ble_eq_true rfl) dX5_toneOfStroke_114 ⟨m_go_i (by rw [sk_gb (fun g => rh ((isPlace_v hOk hi_1).mp g)) rp]; decide) (by rw [sk_o (fun g => rh ((isPlace_v hOk hi_1).mp g)) rp rb rq]; decide) one_nz, congrArg (fun a => some (Value.int a)) (by unfold m_stroke; rw [nI_clamp (by omega), nI_clamp (by omega), ← den_a rp, ← ev_4]; obtain ⟨x9, hx9, ex9⟩ := hT (65 * i_1 + m_pos (d 3) i_1 (lenN d i_1) (lenN d i_1) (m_fst (j9 + 1))); obtain ⟨y9, hy9, ey9⟩ := hT (65 * i_1 + m_pos (d 3) i_1 (lenN d i_1) (lenN d i_1) (m_fst (j9 + 1) + 1)); rw [show m_snd d i_1 (m_fst (j9 + 1)) = nI x9 from ex9, show m_snd d i_1 (m_fst (j9 + 1) + 1) = nI y9 from ey9, hk9, ha9]; exact tab_sbs hc9 (by omega) (by omega) T hT9), rfl⟩
    refine lv_icmp_ne (tgt := 75) hx hb dX5_toneOfStroke_67 (by decide) (fun c_7 => ?_) (fun c_7 => ?_)
    · skip
      refine lv_iload hx hb dX5_toneOfStroke_75 (lv_at hl 3 rfl) ?_
      refine lv_iload hx hb dX5_toneOfStroke_77 (lv_at hl 10 rfl) ?_
      refine lv_iadd hx hb dX5_toneOfStroke_79 ?_
      exact j_5 _ _ _ (by rw [if_neg c_7]) hG
    · skip
      refine lv_iload hx hb dX5_toneOfStroke_70 (lv_at hl 10 rfl) ?_
      refine lv_goto (tgt := 80) hx hb dX5_toneOfStroke_72 (by decide) ?_
      exact j_5 _ _ _ (by rw [if_pos c_7]) hG
  refine lv_if_ne (tgt := 41) hx hb dX5_toneOfStroke_32 (by decide) (fun c_8 => ?_) (fun c_8 => ?_)
  · skip
    refine lv_iload_n hx hb dX5_toneOfStroke_41 rfl (lv_at hl 5 rfl) ?_
    exact j_3 _ _ _ (by rw [if_neg c_8]) hG
  · skip
    refine lv_iload_n hx hb dX5_toneOfStroke_35 rfl (lv_at hl 5 rfl) ?_
    refine lv_iconst (v := 1) hx hb dX5_toneOfStroke_36 (by decide) ?_
    refine lv_isub hx hb dX5_toneOfStroke_37 ?_
    refine lv_goto (tgt := 42) hx hb dX5_toneOfStroke_38 (by decide) ?_
    exact j_3 _ _ _ (by rw [if_pos c_8]) hG
abbrev rm_X5_stroke : Room := { frames := 10, cells := 8, slots := 48, locals := 374 }
theorem nm_X5_stroke : gNm yX5_stroke 5 := ⟨by decide +kernel, by decide +kernel, by decide +kernel⟩
set_option maxHeartbeats 4000000 in
set_option maxRecDepth 100000 in
theorem c_X5_stroke (l : Launch) (hfl : l.stackTraces = false) (D : va_G) (tc : Nat → ClassId) (A : Nat → Prop) (w : gW) (ca : Nat → Nat) (d : gDt) (tk : Int64) (st : Nat → Int64) (x : Int32) (a : Int32) (y : Int32) (b : Int32) (t : Int32) (hC : cW tc w ca d tk st) (hOk : mOk d) (hT : tOk d) : gM l yX5_stroke cX5_stroke 6 (some .int) rm_X5_stroke D tc A [.ref (ca 0), .int x, .int a, .int y, .int b, .int t] w (fun v w' => ¬ m_go (ga_stroke d x a y b t) (gb_stroke d x a y b t) (gc_stroke d x a y b t) = 0 ∧ v = some (.int (m_stroke d x a y b t)) ∧ (∃ ca' : Nat → Nat, ca' 0 = ca 0 ∧ cW tc w' ca' (sL d 0) tk st) ∧ gK w w') (c_thr gIO gIA gIS (ga_stroke d x a y b t) (gb_stroke d x a y b t) (gc_stroke d x a y b t)) := by
  refine gM_of (by decide +kernel) (Nat.le_of_ble_eq_true rfl) ?_
  intro p e s m args below meth c ls Q hQ hE hG hr hnt hnm hl
  have hx := hE.1
  have hb := hE.2.1
  have hl : lv_has ls 6 [(0, .ref (ca 0)), (1, .int x), (2, .int a), (3, .int y), (4, .int b), (5, .int t)] := hl
  obtain ⟨⟨z0, z1, z2, z5, z6⟩, ⟨cy, ge, sf, z3, z4, hsf, hce, hcy⟩, zP, zS, zU, zV, zN⟩ := id hC
  refine lv_aload_n hx hb dX5_stroke_0 rfl (lv_at hl 0 rfl) ?_
  refine lv_iload_n hx hb dX5_stroke_1 rfl (lv_at hl 1 rfl) ?_
  refine lv_iload_n hx hb dX5_stroke_2 rfl (lv_at hl 2 rfl) ?_
  refine lv_iload_n hx hb dX5_stroke_3 rfl (lv_at hl 3 rfl) ?_
  refine lv_iload hx hb dX5_stroke_4 (lv_at hl 4 rfl) ?_
  refine lv_iload hx hb dX5_stroke_6 (lv_at hl 5 rfl) ?_
  refine lv_iconst (v := 0) hx hb dX5_stroke_8 (by decide) ?_
  refine g_callV (rest := []) (As := [.int x, .int a, .int y, .int b, .int t, .int 0]) hE hG hl.1 (c_X5_toneOfStroke l hfl D tc A w ca d tk st x a y b t 0 hC hOk hT) z0 rfl mw3_81 mw3_83 mws_11 mw1_1 mw3_84 rfl nm_X5_toneOfStroke ⟨⟨Nat.le_of_ble_eq_true rfl, Nat.le_of_ble_eq_true rfl⟩, Nat.le_of_ble_eq_true rfl, Nat.le_of_ble_eq_true rfl⟩ rfl rfl (Nat.le_of_ble_eq_true rfl) dX5_stroke_9 (by subst hQ; exact g_out hE hnt rfl (fun _ h => h) (Nat.le_of_ble_eq_true rfl) (Nat.le_of_ble_eq_true rfl)) ?_
  intro v9 w9 H locs h9 hG
  obtain ⟨hgo, e9, e8⟩ := h9
  rw [e9]; clear e9
  rw [e8] at hG; clear e8
  show W p l e _ s m args below meth c H locs _ _ _ (F0 m 12 ls [.int (m_stroke d x a y b t)])
  subst hQ
  exact g_iret hE hG hr (Nat.le_of_ble_eq_true rfl) (Nat.le_of_ble_eq_true rfl) dX5_stroke_12 ⟨hgo, rfl, ⟨ca, rfl, cW_l hC 0⟩, gK_rf w⟩
abbrev rm_X5_strokeAnew : Room := { frames := 10, cells := 8, slots := 48, locals := 374 }
theorem nm_X5_strokeAnew : gNm yX5_strokeAnew 5 := ⟨by decide +kernel, by decide +kernel, by decide +kernel⟩
set_option maxHeartbeats 4000000 in
set_option maxRecDepth 100000 in
theorem c_X5_strokeAnew (l : Launch) (hfl : l.stackTraces = false) (D : va_G) (tc : Nat → ClassId) (A : Nat → Prop) (w : gW) (ca : Nat → Nat) (d : gDt) (tk : Int64) (st : Nat → Int64) (x : Int32) (a : Int32) (y : Int32) (b : Int32) (t : Int32) (hC : cW tc w ca d tk st) (hOk : mOk d) (hT : tOk d) : gM l yX5_strokeAnew cX5_strokeAnew 6 (some .int) rm_X5_strokeAnew D tc A [.ref (ca 0), .int x, .int a, .int y, .int b, .int t] w (fun v w' => ¬ m_go (ga_stroke d x a y b t) (gb_stroke d x a y b t) (gc_stroke d x a y b t) = 0 ∧ v = some (.int (m_stroke d x a y b t)) ∧ (∃ ca' : Nat → Nat, ca' 0 = ca 0 ∧ cW tc w' ca' (sL d 0) tk st) ∧ gK w w') (c_thr gIO gIA gIS (ga_stroke d x a y b t) (gb_stroke d x a y b t) (gc_stroke d x a y b t)) := by
  refine gM_of (by decide +kernel) (Nat.le_of_ble_eq_true rfl) ?_
  intro p e s m args below meth c ls Q hQ hE hG hr hnt hnm hl
  have hx := hE.1
  have hb := hE.2.1
  have hl : lv_has ls 6 [(0, .ref (ca 0)), (1, .int x), (2, .int a), (3, .int y), (4, .int b), (5, .int t)] := hl
  obtain ⟨⟨z0, z1, z2, z5, z6⟩, ⟨cy, ge, sf, z3, z4, hsf, hce, hcy⟩, zP, zS, zU, zV, zN⟩ := id hC
  refine lv_aload_n hx hb dX5_strokeAnew_0 rfl (lv_at hl 0 rfl) ?_
  refine lv_iload_n hx hb dX5_strokeAnew_1 rfl (lv_at hl 1 rfl) ?_
  refine lv_iload_n hx hb dX5_strokeAnew_2 rfl (lv_at hl 2 rfl) ?_
  refine lv_iload_n hx hb dX5_strokeAnew_3 rfl (lv_at hl 3 rfl) ?_
  refine lv_iload hx hb dX5_strokeAnew_4 (lv_at hl 4 rfl) ?_
  refine lv_iload hx hb dX5_strokeAnew_6 (lv_at hl 5 rfl) ?_
  refine lv_iconst (v := 1) hx hb dX5_strokeAnew_8 (by decide) ?_
  refine g_callV (rest := []) (As := [.int x, .int a, .int y, .int b, .int t, .int 1]) hE hG hl.1 (c_X5_toneOfStroke l hfl D tc A w ca d tk st x a y b t 1 hC hOk hT) z0 rfl mw3_81 mw3_83 mws_11 mw1_1 mw3_84 rfl nm_X5_toneOfStroke ⟨⟨Nat.le_of_ble_eq_true rfl, Nat.le_of_ble_eq_true rfl⟩, Nat.le_of_ble_eq_true rfl, Nat.le_of_ble_eq_true rfl⟩ rfl rfl (Nat.le_of_ble_eq_true rfl) dX5_strokeAnew_9 (by subst hQ; exact g_out hE hnt rfl (fun _ h => h) (Nat.le_of_ble_eq_true rfl) (Nat.le_of_ble_eq_true rfl)) ?_
  intro v9 w9 H locs h9 hG
  obtain ⟨hgo, e9, e8⟩ := h9
  rw [e9]; clear e9
  rw [e8] at hG; clear e8
  show W p l e _ s m args below meth c H locs _ _ _ (F0 m 12 ls [.int (m_stroke d x a y b t)])
  subst hQ
  exact g_iret hE hG hr (Nat.le_of_ble_eq_true rfl) (Nat.le_of_ble_eq_true rfl) dX5_strokeAnew_12 ⟨hgo, rfl, ⟨ca, rfl, cW_l hC 0⟩, gK_rf w⟩
