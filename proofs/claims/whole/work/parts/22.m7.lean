/-! GongCyclesModel: tune, years -/
def f_cpO (o i : Nat) (f g : Nat → Int32) : Nat → Int32 := fun j => if o ≤ j ∧ j < o + i then g j else f j
theorem f_cpO_0 (o : Nat) (f g : Nat → Int32) : f_cpO o 0 f g = f := by
  funext j; unfold f_cpO; rw [if_neg (by omega)]
theorem f_cpO_s (o i : Nat) (f g : Nat → Int32) : upd (f_cpO o i f g) (o + i) (g (o + i)) = f_cpO o (i + 1) f g := by
  funext j
  unfold f_cpO
  by_cases h : j = o + i
  · subst h; simp [upd]
  · by_cases h2 : o ≤ j ∧ j < o + i
    · simp only [upd, if_neg h, if_pos h2, if_pos (show o ≤ j ∧ j < o + (i + 1) by omega)]
    · simp only [upd, if_neg h, if_neg h2, if_neg (show ¬ (o ≤ j ∧ j < o + (i + 1)) by omega)]
theorem ix8 {u k : Nat} (hu : u < 4) (hk : k < 8) : (8 : Int32) * nI u + nI k = nI (8 * u + k) := by
  rw [show (8 : Int32) = nI 8 from rfl, pk_mul, nI_add]
theorem ix8c {u k : Nat} (hu : u < 4) (hk : k < 8) : ((8 : Int32) * nI u + nI k).toNatClampNeg = 8 * u + k := by
  rw [ix8 hu hk, nI_clamp (by omega)]
theorem ix8c1 {u : Nat} (hu : u < 4) : ((8 : Int32) * nI u + 1).toNatClampNeg = 8 * u + 1 := ix8c (k := 1) hu (by decide)
theorem ix8in {u k : Nat} (hu : u < 4) (hk : k < 8) : vp_in ((8 : Int32) * nI u + nI k) 32 := by
  rw [ix8 hu hk]
  exact vp_in_nI (by omega) (by decide)
theorem ix8in1 {u : Nat} (hu : u < 4) : vp_in ((8 : Int32) * nI u + 1) 32 := ix8in (k := 1) hu (by decide)
def m_tun (o q : Int64) (p : Int32) : Int32 := if 0 ≤ lg_cmp (p.toInt64 * q / o) 5000 then (if lg_cmp (p.toInt64 * q / o) 200000 ≤ 0 then (p.toInt64 * q / o).toInt32 else 200000) else 5000
theorem tune_rd {u i : Nat} {f g : Nat → Int32} (hu : u < 4) (hi : i < 7) : f_cpO (8 * u + 1) i f g ((8 : Int32) * nI u + nI (i + 1)).toNatClampNeg = f (8 * u + 1 + i) := by
  rw [ix8c hu (by omega)]
  unfold f_cpO
  rw [if_neg (by omega), show 8 * u + (i + 1) = 8 * u + 1 + i by omega]
theorem tune_st {u i : Nat} {o q : Int64} {f : Nat → Int32} {v : Int32} (hu : u < 4) (hi : i < 7) (e : v = m_tun o q (f (8 * u + 1 + i))) : upd (f_cpO (8 * u + 1) i f (fun j => m_tun o q (f j))) ((8 : Int32) * nI u + nI (i + 1)).toNatClampNeg v = f_cpO (8 * u + 1) (i + 1) f (fun j => m_tun o q (f j)) := by
  rw [ix8c hu (by omega), show 8 * u + (i + 1) = 8 * u + 1 + i by omega, e]
  exact f_cpO_s (8 * u + 1) i f (fun j => m_tun o q (f j))
def m_tunD (d : gDt) (x y : Int32) : Nat → Int32 := f_cpO (8 * x.toNatClampNeg + 1) 7 (d 4) (fun j => m_tun (d 4 (8 * x.toNatClampNeg + 1)).toInt64 (d 4 (8 * y.toNatClampNeg + 1)).toInt64 (d 4 j))
/-- the pitches are in their range -/
def pOk (d : gDt) : Prop := ∀ u k : Nat, u < 4 → 1 ≤ k → k ≤ 7 → ∃ p, 5000 ≤ p ∧ p ≤ 200000 ∧ d 4 (8 * u + k) = nI p
theorem pOk_nz {d : gDt} {u : Nat} (h : pOk d) (hu : u < 4) : ¬ (d 4 (8 * u + 1)).toInt64 = 0 := by
  obtain ⟨p, h1, h2, e⟩ := h u 1 hu (by decide) (by decide)
  rw [e, nI_l (by omega), show (0 : Int64) = lN 0 from rfl, lN_eq (by omega) (by decide)]
  omega
theorem set_n {x : Int32} (h : ¬ m_isSet x = 0) : ∃ u, u < 4 ∧ x = nI u := by
  unfold m_isSet at h
  obtain ⟨h1, h2⟩ := f_in_ne h
  obtain ⟨i, _, hi, e⟩ := nI_bet (a := 0) (b := 3) (by decide) h1 h2 (by decide)
  exact ⟨i, by omega, e⟩
def ga_tune (d : gDt) (x y : Int32) : Int32 := (if (m_isSet x) = 0 then 0 else (if (m_isSet y) = 0 then 0 else 1 : Int32) : Int32)
def gb_tune (d : gDt) (x y : Int32) : Int32 := (if x = y then 0 else 1 : Int32)
def gc_tune (d : gDt) (x y : Int32) : Int32 := 1
abbrev rm_X6_tune : Room := { frames := 4, cells := 0, slots := 0, locals := 158 }
theorem nm_X6_tune : gNm yX6_tune 2 := ⟨by decide +kernel, by decide +kernel, by decide +kernel⟩
set_option maxHeartbeats 8000000 in
set_option maxRecDepth 100000 in
theorem c_X6_tune (l : Launch) (hfl : l.stackTraces = false) (D : va_G) (tc : Nat → ClassId) (A : Nat → Prop) (w : gW) (ad : Nat → Nat) (d : gDt) (tk : Int64) (st : Nat → Int64) (x : Int32) (y : Int32) (hM : mW tc w ad d tk st) (hOk : mOk d) (hpO : pOk d) : gM l yX6_tune cX6_tune 10 (some .int) rm_X6_tune D tc A [.ref (ad 0), .int x, .int y] w (fun v w' => (m_go (ga_tune d x y) (gb_tune d x y) (gc_tune d x y) = 0 ∧ (∃ r, v = some (.int r)) ∧ mW tc w' ad (sL d (m_la (ga_tune d x y) (gb_tune d x y) (gc_tune d x y))) tk st ∧ gF w w') ∨ (¬ m_go (ga_tune d x y) (gb_tune d x y) (gc_tune d x y) = 0 ∧ v = some (.int ((m_tunD d x y) (8 * x + 1).toNatClampNeg)) ∧ mW tc w' ad (sL (gD d 4 (m_tunD d x y)) 0) tk st ∧ gF w w')) (fun _ => False) := by
  refine gM_of (by decide +kernel) (Nat.le_of_ble_eq_true rfl) ?_
  intro p e s m args below meth c ls Q hQ hE hG hr hnt hnm hl
  have hx := hE.1
  have hb := hE.2.1
  have hl : lv_has ls 10 [(0, .ref (ad 0)), (1, .int x), (2, .int y)] := hl
  obtain ⟨o0, o1, o2, o3, o4, o5, o6, o7, o8, o9, o10⟩ := hM
  refine lv_aload_n hx hb dX6_tune_0 rfl (lv_at hl 0 rfl) ?_
  refine lv_iload_n hx hb dX6_tune_1 rfl (lv_at hl 1 rfl) ?_
  refine g_callS (rest := [.ref (ad 0)]) (As := [.int x]) hE hG hl.1 (c_X6_isSet l hfl D tc A w x ) mw4_139 mw4_140 mw1_4 mw4_141 nm_X6_isSet ⟨⟨Nat.le_of_ble_eq_true rfl, Nat.le_of_ble_eq_true rfl⟩, Nat.le_of_ble_eq_true rfl, Nat.le_of_ble_eq_true rfl⟩ rfl rfl (Nat.le_of_ble_eq_true rfl) dX6_tune_2 (g_no) ?_
  intro v9 w9 H locs h9 hG
  obtain ⟨e9, f9⟩ := h9
  rw [f9] at hG; rw [e9]; clear e9 f9
  show W p l e _ s m args below meth c H locs _ _ _ (F0 m 5 ls [.int (m_isSet x), .ref (ad 0)])
  have j_2 : ∀ (v_1 : Int32) (H : Heap) (locs : List Loc), v_1 = (if (m_isSet x) = 0 then 0 else (if (m_isSet y) = 0 then 0 else 1 : Int32) : Int32) → gS D A s.heap w H locs → W p l e rm_X6_tune s m args below meth c H locs (0 + rm_X6_isSet.cells) (0 + rm_X6_isSet.slots) Q (F0 m 20 ls (.int v_1 :: [.ref (ad 0)])) := by
    intro v_1 H locs ev_1 hG
    refine lv_iload_n hx hb dX6_tune_20 rfl (lv_at hl 1 rfl) ?_
    refine lv_iload_n hx hb dX6_tune_21 rfl (lv_at hl 2 rfl) ?_
    have j_4 : ∀ (v_3 : Int32) (H : Heap) (locs : List Loc), v_3 = (if x = y then 0 else 1 : Int32) → gS D A s.heap w H locs → W p l e rm_X6_tune s m args below meth c H locs (0 + rm_X6_isSet.cells) (0 + rm_X6_isSet.slots) Q (F0 m 30 ls (.int v_3 :: [.int v_1, .ref (ad 0)])) := by
      intro v_3 H locs ev_3 hG
      refine lv_iconst (v := 1) hx hb dX6_tune_30 (by decide) ?_
      refine g_callV (rest := []) (As := [.int v_1, .int v_3, .int 1]) hE hG hl.1 (c_X6_goes l hfl D tc A w ad d tk st v_1 v_3 1 ⟨o0, o1, o2, o3, o4, o5, o6, o7, o8, o9, o10⟩ ) o0 rfl mw4_38 mw4_40 mws_12 mw1_4 mw4_41 rfl nm_X6_goes ⟨⟨Nat.le_of_ble_eq_true rfl, Nat.le_of_ble_eq_true rfl⟩, Nat.le_of_ble_eq_true rfl, Nat.le_of_ble_eq_true rfl⟩ rfl rfl (Nat.le_of_ble_eq_true rfl) dX6_tune_31 (g_no) ?_
      intro v9 w_5 H locs h9 hG
      obtain ⟨e9, ew_5⟩ := h9
      rw [e9]; clear e9
      show W p l e _ s m args below meth c H locs _ _ _ (F0 m 34 ls [.int (m_go v_1 v_3 1)])
      have h_6 : w_5 1001 = some ((ad 1), .inl (tc 0, 4, .inl (d 0))) := gU_n ew_5 (by decide) o1
      have h_7 : w_5 1002 = some ((ad 2), .inl (tc 0, 6, .inl (d 1))) := gU_n ew_5 (by decide) o2
      have h_8 : w_5 1003 = some ((ad 3), .inl (tc 0, 6, .inl (d 2))) := gU_n ew_5 (by decide) o3
      have h_9 : w_5 1004 = some ((ad 4), .inl (tc 0, 390, .inl (d 3))) := gU_n ew_5 (by decide) o4
      have h_10 : w_5 1005 = some ((ad 5), .inl (tc 1, 4, .inr (.inl st))) := gU_n ew_5 (by decide) o5
      have h_11 : w_5 1006 = some ((ad 6), .inl (tc 0, 32, .inl (d 4))) := gU_n ew_5 (by decide) o6
      have h_12 : w_5 1007 = some ((ad 7), .inl (tc 0, 4, .inl (d 5))) := gU_n ew_5 (by decide) o7
      have h_13 : w_5 1008 = some ((ad 8), .inl (tc 0, 8, .inl (d 6))) := gU_n ew_5 (by decide) o8
      have h_14 : w_5 1009 = some ((ad 9), .inl (tc 2, 48, .inl (d 7))) := gU_n ew_5 (by decide) o9
      have h_15 : w_5 1010 = some ((ad 10), .inl (tc 0, 3120, .inl (d 8))) := gU_n ew_5 (by decide) o10
      have h_16 : w_5 1000 = some ((ad 0), .inr (6, [.ref (ad 1), .int (d 9 0), .ref (ad 2), .ref (ad 3), .ref (ad 4), .int (d 9 1), .int (d 9 2), .int (d 9 3), .int (d 9 4), .int (d 9 5), .int (d 9 6), .int (d 9 7), .int (d 9 8), .int (d 9 9), .long tk, .ref (ad 5), .int (d 9 10), .int (d 9 11), .ref (ad 6), .ref (ad 7), .int (d 9 12), .ref (ad 8), .ref (ad 9), .ref (ad 10), .int (d 9 13), .int (m_la v_1 v_3 1)])) := gU_s ew_5
      refine lv_if_ne (tgt := 39) hx hb dX6_tune_34 (by decide) (fun c_17 => ?_) (fun c_17 => ?_)
      · skip
        have hkn := (m_go_ne c_17).1
        rw [ev_1] at hkn
        obtain ⟨u, hu, hxu⟩ := set_n (and_ne hkn).1
        obtain ⟨q, hq, hyq⟩ := set_n (and_ne hkn).2
        clear hkn
        have hg_v_1 : v_1 = ga_tune d x y := ev_1
        subst hg_v_1
        have hg_v_3 : v_3 = gb_tune d x y := ev_3
        subst hg_v_3
        subst hxu
        subst hyq
        have hoz := pOk_nz hpO hu
        have hD : m_tunD d (nI u) (nI q) = f_cpO (8 * u + 1) 7 (d 4) (fun j => m_tun (d 4 (8 * u + 1)).toInt64 (d 4 (8 * q + 1)).toInt64 (d 4 j)) := by unfold m_tunD; rw [nI_clamp (by omega), nI_clamp (by omega)]
        refine lv_aload_n hx hb dX6_tune_39 rfl (lv_at hl 0 rfl) ?_
        refine g_get hE hG h_16 rfl inG6 18 (by decide) mw3_205 rfl dX6_tune_40 ?_
        refine lv_bipush (v := 8) hx hb dX6_tune_43 (by decide) ?_
        refine lv_iload_n hx hb dX6_tune_45 rfl (lv_at hl 1 rfl) ?_
        refine lv_imul hx hb dX6_tune_46 ?_
        refine lv_iconst (v := 1) hx hb dX6_tune_47 (by decide) ?_
        refine lv_iadd hx hb dX6_tune_48 ?_
        refine g_iald hE hG h_11 (ix8in1 hu) dX6_tune_49 ?_
        rw [ix8c1 hu]
        refine lv_i2l (v := (d 4 (8 * u + 1)).toInt64) hx hb dX6_tune_50 rfl ?_
        refine lv_lstore_n (lv' := [(3, .long ((d 4 (8 * u + 1)).toInt64)), (0, .ref (ad 0)), (1, .int (nI u)), (2, .int (nI q))]) hx hb dX6_tune_51 rfl hl (by decide) rfl (fun ls hl => ?_)
        refine lv_aload_n hx hb dX6_tune_52 rfl (lv_at hl 1 rfl) ?_
        refine g_get hE hG h_16 rfl inG6 18 (by decide) mw3_205 rfl dX6_tune_53 ?_
        refine lv_bipush (v := 8) hx hb dX6_tune_56 (by decide) ?_
        refine lv_iload_n hx hb dX6_tune_58 rfl (lv_at hl 3 rfl) ?_
        refine lv_imul hx hb dX6_tune_59 ?_
        refine lv_iconst (v := 1) hx hb dX6_tune_60 (by decide) ?_
        refine lv_iadd hx hb dX6_tune_61 ?_
        refine g_iald hE hG h_11 (ix8in1 hq) dX6_tune_62 ?_
        rw [ix8c1 hq]
        refine lv_i2l (v := (d 4 (8 * q + 1)).toInt64) hx hb dX6_tune_63 rfl ?_
        refine lv_lstore (lv' := [(5, .long ((d 4 (8 * q + 1)).toInt64)), (3, .long ((d 4 (8 * u + 1)).toInt64)), (0, .ref (ad 0)), (1, .int (nI u)), (2, .int (nI q))]) hx hb dX6_tune_64 hl (by decide) rfl (fun ls hl => ?_)
        refine lv_iconst (v := 1) hx hb dX6_tune_66 (by decide) ?_
        refine lv_istore (lv' := [(7, .int 1), (5, .long ((d 4 (8 * q + 1)).toInt64)), (3, .long ((d 4 (8 * u + 1)).toInt64)), (0, .ref (ad 0)), (1, .int (nI u)), (2, .int (nI q))]) hx hb dX6_tune_67 hl (by decide) rfl (fun ls hl => ?_)
        have hl : lv_has ls 10 [(7, .int (nI (7 - 7 + 1))), (5, .long ((d 4 (8 * q + 1)).toInt64)), (3, .long ((d 4 (8 * u + 1)).toInt64)), (0, .ref (ad 0)), (1, .int (nI u)), (2, .int (nI q))] := hl
        have hw_200 : w_5 = gU w_5 1006 ((ad 6), .inl (tc 0, 32, .inl (f_cpO (8 * u + 1) (7 - 7) (d 4) (fun j => m_tun (d 4 (8 * u + 1)).toInt64 (d 4 (8 * q + 1)).toInt64 (d 4 j))))) := by rw [Nat.sub_self, f_cpO_0]; exact (gU_self h_11).symm
        have hloop_22 : ∀ (k_18 : Nat) (w_19 : gW) (H : Heap) (locs : List Loc) (ls : Array Slot), k_18 ≤ 7 → w_19 = gU w_5 1006 ((ad 6), .inl (tc 0, 32, .inl (f_cpO (8 * u + 1) (7 - k_18) (d 4) (fun j => m_tun (d 4 (8 * u + 1)).toInt64 (d 4 (8 * q + 1)).toInt64 (d 4 j))))) → gS D A s.heap w_19 H locs → lv_has ls 10 [(7, .int (nI (7 - k_18 + 1))), (5, .long ((d 4 (8 * q + 1)).toInt64)), (3, .long ((d 4 (8 * u + 1)).toInt64)), (0, .ref (ad 0)), (1, .int (nI u)), (2, .int (nI q))] → W p l e rm_X6_tune s m args below meth c H locs ((0 + rm_X6_isSet.cells) + rm_X6_goes.cells) ((0 + rm_X6_isSet.slots) + rm_X6_goes.slots) Q (F0 m 69 ls []) := by
          intro k_18
          induction k_18 with
          | zero =>
            intro w_19 H locs ls hk_21 hw_20 hG hl
            have h_23 : w_19 1001 = some ((ad 1), .inl (tc 0, 4, .inl (d 0))) := gU_n hw_20 (by decide) h_6
            have h_24 : w_19 1002 = some ((ad 2), .inl (tc 0, 6, .inl (d 1))) := gU_n hw_20 (by decide) h_7
            have h_25 : w_19 1003 = some ((ad 3), .inl (tc 0, 6, .inl (d 2))) := gU_n hw_20 (by decide) h_8
            have h_26 : w_19 1004 = some ((ad 4), .inl (tc 0, 390, .inl (d 3))) := gU_n hw_20 (by decide) h_9
            have h_27 : w_19 1005 = some ((ad 5), .inl (tc 1, 4, .inr (.inl st))) := gU_n hw_20 (by decide) h_10
            have h_28 : w_19 1007 = some ((ad 7), .inl (tc 0, 4, .inl (d 5))) := gU_n hw_20 (by decide) h_12
            have h_29 : w_19 1008 = some ((ad 8), .inl (tc 0, 8, .inl (d 6))) := gU_n hw_20 (by decide) h_13
            have h_30 : w_19 1009 = some ((ad 9), .inl (tc 2, 48, .inl (d 7))) := gU_n hw_20 (by decide) h_14
            have h_31 : w_19 1010 = some ((ad 10), .inl (tc 0, 3120, .inl (d 8))) := gU_n hw_20 (by decide) h_15
            have h_32 : w_19 1000 = some ((ad 0), .inr (6, [.ref (ad 1), .int (d 9 0), .ref (ad 2), .ref (ad 3), .ref (ad 4), .int (d 9 1), .int (d 9 2), .int (d 9 3), .int (d 9 4), .int (d 9 5), .int (d 9 6), .int (d 9 7), .int (d 9 8), .int (d 9 9), .long tk, .ref (ad 5), .int (d 9 10), .int (d 9 11), .ref (ad 6), .ref (ad 7), .int (d 9 12), .ref (ad 8), .ref (ad 9), .ref (ad 10), .int (d 9 13), .int (m_la (ga_tune d (nI u) (nI q)) (gb_tune d (nI u) (nI q)) 1)])) := gU_n hw_20 (by decide) h_16
            have h_33 : w_19 1006 = some ((ad 6), .inl (tc 0, 32, .inl (f_cpO (8 * u + 1) (7 - 0) (d 4) (fun j => m_tun (d 4 (8 * u + 1)).toInt64 (d 4 (8 * q + 1)).toInt64 (d 4 j))))) := gU_s hw_20
            refine lv_iload hx hb dX6_tune_69 (lv_at hl 0 rfl) ?_
            refine lv_bipush (v := 7) hx hb dX6_tune_71 (by decide) ?_
            refine lv_icmp_gt (tgt := 146) hx hb dX6_tune_73 (by decide) (fun c9 => ?_) (fun c9 => (c9 (nI_lt (a := 7) (by omega) (by omega))).elim)
            refine lv_aload_n hx hb dX6_tune_146 rfl (lv_at hl 3 rfl) ?_
            refine g_get hE hG h_32 rfl inG6 18 (by decide) mw3_205 rfl dX6_tune_147 ?_
            refine lv_bipush (v := 8) hx hb dX6_tune_150 (by decide) ?_
            refine lv_iload_n hx hb dX6_tune_152 rfl (lv_at hl 4 rfl) ?_
            refine lv_imul hx hb dX6_tune_153 ?_
            refine lv_iconst (v := 1) hx hb dX6_tune_154 (by decide) ?_
            refine lv_iadd hx hb dX6_tune_155 ?_
            refine g_iald hE hG h_33 (ix8in1 hu) dX6_tune_156 ?_
            subst hQ
            rw [m_la_ok c_17] at h_32
            exact g_iret hE hG hr (Nat.le_of_ble_eq_true rfl) (Nat.le_of_ble_eq_true rfl) dX6_tune_157 (Or.inr ⟨c_17, (by rw [hD] <;> rfl), (by rw [hD]; exact ⟨h_32, h_23, h_24, h_25, h_26, h_27, h_33, h_28, h_29, h_30, h_31⟩), gF_u (gF_u (gF_rf w) ew_5 (by decide)) hw_20 (by decide)⟩)
          | succ k_18 ihk_18 =>
            intro w_19 H locs ls hk_21 hw_20 hG hl
            have h_34 : w_19 1001 = some ((ad 1), .inl (tc 0, 4, .inl (d 0))) := gU_n hw_20 (by decide) h_6
            have h_35 : w_19 1002 = some ((ad 2), .inl (tc 0, 6, .inl (d 1))) := gU_n hw_20 (by decide) h_7
            have h_36 : w_19 1003 = some ((ad 3), .inl (tc 0, 6, .inl (d 2))) := gU_n hw_20 (by decide) h_8
            have h_37 : w_19 1004 = some ((ad 4), .inl (tc 0, 390, .inl (d 3))) := gU_n hw_20 (by decide) h_9
            have h_38 : w_19 1005 = some ((ad 5), .inl (tc 1, 4, .inr (.inl st))) := gU_n hw_20 (by decide) h_10
            have h_39 : w_19 1007 = some ((ad 7), .inl (tc 0, 4, .inl (d 5))) := gU_n hw_20 (by decide) h_12
            have h_40 : w_19 1008 = some ((ad 8), .inl (tc 0, 8, .inl (d 6))) := gU_n hw_20 (by decide) h_13
            have h_41 : w_19 1009 = some ((ad 9), .inl (tc 2, 48, .inl (d 7))) := gU_n hw_20 (by decide) h_14
            have h_42 : w_19 1010 = some ((ad 10), .inl (tc 0, 3120, .inl (d 8))) := gU_n hw_20 (by decide) h_15
            have h_43 : w_19 1000 = some ((ad 0), .inr (6, [.ref (ad 1), .int (d 9 0), .ref (ad 2), .ref (ad 3), .ref (ad 4), .int (d 9 1), .int (d 9 2), .int (d 9 3), .int (d 9 4), .int (d 9 5), .int (d 9 6), .int (d 9 7), .int (d 9 8), .int (d 9 9), .long tk, .ref (ad 5), .int (d 9 10), .int (d 9 11), .ref (ad 6), .ref (ad 7), .int (d 9 12), .ref (ad 8), .ref (ad 9), .ref (ad 10), .int (d 9 13), .int (m_la (ga_tune d (nI u) (nI q)) (gb_tune d (nI u) (nI q)) 1)])) := gU_n hw_20 (by decide) h_16
            have h_44 : w_19 1006 = some ((ad 6), .inl (tc 0, 32, .inl (f_cpO (8 * u + 1) (7 - (k_18 + 1)) (d 4) (fun j => m_tun (d 4 (8 * u + 1)).toInt64 (d 4 (8 * q + 1)).toInt64 (d 4 j))))) := gU_s hw_20
            refine lv_iload hx hb dX6_tune_69 (lv_at hl 0 rfl) ?_
            refine lv_bipush (v := 7) hx hb dX6_tune_71 (by decide) ?_
            refine lv_icmp_gt (tgt := 146) hx hb dX6_tune_73 (by decide) (fun c9 => absurd c9 (nI_nlt (a := 7) (by omega) (by omega))) (fun c9 => ?_)
            refine lv_aload_n hx hb dX6_tune_76 rfl (lv_at hl 3 rfl) ?_
            refine g_get hE hG h_43 rfl inG6 18 (by decide) mw3_205 rfl dX6_tune_77 ?_
            refine lv_bipush (v := 8) hx hb dX6_tune_80 (by decide) ?_
            refine lv_iload_n hx hb dX6_tune_82 rfl (lv_at hl 4 rfl) ?_
            refine lv_imul hx hb dX6_tune_83 ?_
            refine lv_iload hx hb dX6_tune_84 (lv_at hl 0 rfl) ?_
            refine lv_iadd hx hb dX6_tune_86 ?_
            refine g_iald hE hG h_44 (ix8in hu (by omega)) dX6_tune_87 ?_
            rw [tune_rd hu (by omega)]
            refine lv_i2l (v := (d 4 (8 * u + 1 + (7 - (k_18 + 1)))).toInt64) hx hb dX6_tune_88 rfl ?_
            refine lv_lload hx hb dX6_tune_89 (lv_at hl 1 rfl) ?_
            refine lv_lmul hx hb dX6_tune_91 ?_
            refine lv_lload_n hx hb dX6_tune_92 rfl (lv_at hl 2 rfl) ?_
            refine lv_ldiv hx hb dX6_tune_93 hoz ?_
            refine lv_lstore (lv' := [(8, .long ((((d 4 (8 * u + 1 + (7 - (k_18 + 1)))).toInt64) * ((d 4 (8 * q + 1)).toInt64)) / ((d 4 (8 * u + 1)).toInt64))), (7, .int (nI (7 - (k_18 + 1) + 1))), (5, .long ((d 4 (8 * q + 1)).toInt64)), (3, .long ((d 4 (8 * u + 1)).toInt64)), (0, .ref (ad 0)), (1, .int (nI u)), (2, .int (nI q))]) hx hb dX6_tune_94 hl (by decide) rfl (fun ls hl => ?_)
            refine lv_aload_n hx hb dX6_tune_96 rfl (lv_at hl 4 rfl) ?_
            refine g_get hE hG h_43 rfl inG6 18 (by decide) mw3_205 rfl dX6_tune_97 ?_
            refine lv_bipush (v := 8) hx hb dX6_tune_100 (by decide) ?_
            refine lv_iload_n hx hb dX6_tune_102 rfl (lv_at hl 5 rfl) ?_
            refine lv_imul hx hb dX6_tune_103 ?_
            refine lv_iload hx hb dX6_tune_104 (lv_at hl 1 rfl) ?_
            refine lv_iadd hx hb dX6_tune_106 ?_
            refine lv_lload hx hb dX6_tune_107 (lv_at hl 0 rfl) ?_
            refine lv_ldc2 (v := 5000) hx hb hE.2.2.2.1 (hE.2.2.2.2.1 _ mw4_155) dX6_tune_109 ?_
            refine W.lcmp hx hb dX6_tune_112 ?_
            have j_46 : ∀ (v_45 : Int32) (H : Heap) (locs : List Loc), v_45 = (if 0 ≤ (lg_cmp ((((d 4 (8 * u + 1 + (7 - (k_18 + 1)))).toInt64) * ((d 4 (8 * q + 1)).toInt64)) / ((d 4 (8 * u + 1)).toInt64)) 5000) then (if (lg_cmp ((((d 4 (8 * u + 1 + (7 - (k_18 + 1)))).toInt64) * ((d 4 (8 * q + 1)).toInt64)) / ((d 4 (8 * u + 1)).toInt64)) 200000) ≤ 0 then (((((d 4 (8 * u + 1 + (7 - (k_18 + 1)))).toInt64) * ((d 4 (8 * q + 1)).toInt64)) / ((d 4 (8 * u + 1)).toInt64)).toInt32) else 200000 : Int32) else 5000 : Int32) → gS D A s.heap w_19 H locs → W p l e rm_X6_tune s m args below meth c H locs ((0 + rm_X6_isSet.cells) + rm_X6_goes.cells) ((0 + rm_X6_isSet.slots) + rm_X6_goes.slots) Q (F0 m 139 ls (.int v_45 :: [.int ((8 * (nI u)) + (nI (7 - (k_18 + 1) + 1))), .ref (ad 6)])) := by
              intro v_45 H locs ev_45 hG
              refine g_iast hE hG h_44 (ix8in hu (by omega)) dX6_tune_139 (fun H locs w_47 ew_47 hG => ?_)
              have h_48 : w_47 1001 = some ((ad 1), .inl (tc 0, 4, .inl (d 0))) := gU_n ew_47 (by decide) h_34
              have h_49 : w_47 1002 = some ((ad 2), .inl (tc 0, 6, .inl (d 1))) := gU_n ew_47 (by decide) h_35
              have h_50 : w_47 1003 = some ((ad 3), .inl (tc 0, 6, .inl (d 2))) := gU_n ew_47 (by decide) h_36
              have h_51 : w_47 1004 = some ((ad 4), .inl (tc 0, 390, .inl (d 3))) := gU_n ew_47 (by decide) h_37
              have h_52 : w_47 1005 = some ((ad 5), .inl (tc 1, 4, .inr (.inl st))) := gU_n ew_47 (by decide) h_38
              have h_53 : w_47 1007 = some ((ad 7), .inl (tc 0, 4, .inl (d 5))) := gU_n ew_47 (by decide) h_39
              have h_54 : w_47 1008 = some ((ad 8), .inl (tc 0, 8, .inl (d 6))) := gU_n ew_47 (by decide) h_40
              have h_55 : w_47 1009 = some ((ad 9), .inl (tc 2, 48, .inl (d 7))) := gU_n ew_47 (by decide) h_41
              have h_56 : w_47 1010 = some ((ad 10), .inl (tc 0, 3120, .inl (d 8))) := gU_n ew_47 (by decide) h_42
              have h_57 : w_47 1000 = some ((ad 0), .inr (6, [.ref (ad 1), .int (d 9 0), .ref (ad 2), .ref (ad 3), .ref (ad 4), .int (d 9 1), .int (d 9 2), .int (d 9 3), .int (d 9 4), .int (d 9 5), .int (d 9 6), .int (d 9 7), .int (d 9 8), .int (d 9 9), .long tk, .ref (ad 5), .int (d 9 10), .int (d 9 11), .ref (ad 6), .ref (ad 7), .int (d 9 12), .ref (ad 8), .ref (ad 9), .ref (ad 10), .int (d 9 13), .int (m_la (ga_tune d (nI u) (nI q)) (gb_tune d (nI u) (nI q)) 1)])) := gU_n ew_47 (by decide) h_43
              have h_58 : w_47 1006 = some ((ad 6), .inl (tc 0, 32, .inl (upd (f_cpO (8 * u + 1) (7 - (k_18 + 1)) (d 4) (fun j => m_tun (d 4 (8 * u + 1)).toInt64 (d 4 (8 * q + 1)).toInt64 (d 4 j))) ((8 * (nI u)) + (nI (7 - (k_18 + 1) + 1))).toNatClampNeg v_45))) := gU_s ew_47
              refine lv_iinc (v := (nI (7 - k_18 + 1))) (lv' := [(7, .int (nI (7 - k_18 + 1))), (8, .long ((((d 4 (8 * u + 1 + (7 - (k_18 + 1)))).toInt64) * ((d 4 (8 * q + 1)).toInt64)) / ((d 4 (8 * u + 1)).toInt64))), (5, .long ((d 4 (8 * q + 1)).toInt64)), (3, .long ((d 4 (8 * u + 1)).toInt64)), (0, .ref (ad 0)), (1, .int (nI u)), (2, .int (nI q))]) hx hb dX6_tune_140 hl (k := 1) rfl (by rw [show 7 - k_18 + 1 = (7 - (k_18 + 1) + 1) + 1 by omega]; exact nI_1 _) (by decide) rfl (fun ls hl => ?_)
              refine lv_goto (tgt := 69) hx hb dX6_tune_143 (by decide) ?_
              exact ihk_18 w_47 _ _ _ (by omega) (by rw [ew_47, hw_20, gU_gU, tune_st hu (by omega) ev_45, show 7 - k_18 = (7 - (k_18 + 1)) + 1 by omega]) hG (lv_sub hl [0, 2, 3, 4, 5, 6] rfl)
            refine lv_if_ge (tgt := 122) hx hb dX6_tune_113 (by decide) (fun c_59 => ?_) (fun c_59 => ?_)
            · skip
              refine lv_lload hx hb dX6_tune_122 (lv_at hl 0 rfl) ?_
              refine lv_ldc2 (v := 200000) hx hb hE.2.2.2.1 (hE.2.2.2.2.1 _ mw4_156) dX6_tune_124 ?_
              refine W.lcmp hx hb dX6_tune_127 ?_
              refine lv_if_le (tgt := 136) hx hb dX6_tune_128 (by decide) (fun c_60 => ?_) (fun c_60 => ?_)
              · skip
                refine lv_lload hx hb dX6_tune_136 (lv_at hl 0 rfl) ?_
                refine lv_l2i (v := ((((d 4 (8 * u + 1 + (7 - (k_18 + 1)))).toInt64) * ((d 4 (8 * q + 1)).toInt64)) / ((d 4 (8 * u + 1)).toInt64)).toInt32) hx hb dX6_tune_138 rfl ?_
                exact j_46 _ _ _ (by rw [if_pos c_59, if_pos c_60]) hG
              · skip
                refine lv_ldc (v := 200000) hx hb hE.2.2.2.1 (hE.2.2.2.2.1 _ mw4_142) dX6_tune_131 ?_
                refine lv_goto (tgt := 139) hx hb dX6_tune_133 (by decide) ?_
                exact j_46 _ _ _ (by rw [if_pos c_59, if_neg c_60]) hG
            · skip
              refine lv_sipush (v := 5000) hx hb dX6_tune_116 (by decide) ?_
              refine lv_goto (tgt := 139) hx hb dX6_tune_119 (by decide) ?_
              exact j_46 _ _ _ (by rw [if_neg c_59]) hG
        exact hloop_22 7 w_5 _ _ _ (Nat.le_refl _) hw_200 hG (lv_sub hl [0, 1, 2, 3, 4, 5] rfl)
      · skip
        refine lv_iconst (v := 0) hx hb dX6_tune_37 (by decide) ?_
        subst hQ
        have hg_v_1 : v_1 = ga_tune d x y := ev_1
        subst hg_v_1
        have hg_v_3 : v_3 = gb_tune d x y := ev_3
        subst hg_v_3
        exact g_iret hE hG hr (Nat.le_of_ble_eq_true rfl) (Nat.le_of_ble_eq_true rfl) dX6_tune_38 (Or.inl ⟨c_17, ⟨_, rfl⟩, mW_mk h_16 h_6 h_7 h_8 h_9 h_10 h_11 h_12 h_13 h_14 h_15, gF_u (gF_rf w) ew_5 (by decide)⟩)
    refine lv_icmp_eq (tgt := 29) hx hb dX6_tune_22 (by decide) (fun c_61 => ?_) (fun c_61 => ?_)
    · skip
      refine lv_iconst (v := 0) hx hb dX6_tune_29 (by decide) ?_
      exact j_4 _ _ _ (by rw [if_pos c_61]) hG
    · skip
      refine lv_iconst (v := 1) hx hb dX6_tune_25 (by decide) ?_
      refine lv_goto (tgt := 30) hx hb dX6_tune_26 (by decide) ?_
      exact j_4 _ _ _ (by rw [if_neg c_61]) hG
  refine lv_if_eq (tgt := 19) hx hb dX6_tune_5 (by decide) (fun c_62 => ?_) (fun c_62 => ?_)
  · skip
    refine lv_iconst (v := 0) hx hb dX6_tune_19 (by decide) ?_
    exact j_2 _ _ _ (by rw [if_pos c_62]) hG
  · skip
    refine lv_iload_n hx hb dX6_tune_8 rfl (lv_at hl 2 rfl) ?_
    refine g_callS (rest := [.ref (ad 0)]) (As := [.int y]) hE hG hl.1 (c_X6_isSet l hfl D tc A w y ) mw4_139 mw4_140 mw1_4 mw4_141 nm_X6_isSet ⟨⟨Nat.le_of_ble_eq_true rfl, Nat.le_of_ble_eq_true rfl⟩, Nat.le_of_ble_eq_true rfl, Nat.le_of_ble_eq_true rfl⟩ rfl rfl (Nat.le_of_ble_eq_true rfl) dX6_tune_9 (g_no) ?_
    intro v9 w9 H locs h9 hG
    obtain ⟨e9, f9⟩ := h9
    rw [f9] at hG; rw [e9]; clear e9 f9
    show W p l e _ s m args below meth c H locs _ _ _ (F0 m 12 ls [.int (m_isSet y), .ref (ad 0)])
    refine lv_if_eq (tgt := 19) hx hb dX6_tune_12 (by decide) (fun c_63 => ?_) (fun c_63 => ?_)
    · skip
      refine lv_iconst (v := 0) hx hb dX6_tune_19 (by decide) ?_
      exact j_2 _ _ _ (by rw [if_neg c_62, if_pos c_63]) hG
    · skip
      refine lv_iconst (v := 1) hx hb dX6_tune_15 (by decide) ?_
      refine lv_goto (tgt := 20) hx hb dX6_tune_16 (by decide) ?_
      exact j_2 _ _ _ (by rw [if_neg c_62, if_neg c_63]) hG
theorem ag_eq {a : Int32} : (if 5000 ≤ a then a else (5000 : Int32)) = if a < 5000 then 5000 else a := by
  by_cases h : a < 5000
  · rw [if_pos h, if_neg (Int32.not_le.mpr h)]
  · rw [if_neg h, if_pos (Int32.not_lt.mp h)]
def m_yrs (d : gDt) (n : Nat) : Nat → Int32 := f_cp 32 (d 4) (fun j => f_ags (d 5 (j / 8)) n (d 4 j))
theorem yr_in {i : Nat} (hi : i < 32) : vp_in (nI i / 8) 4 := by
  rw [show (8 : Int32) = nI 8 from rfl, pk_div (by omega) (by decide) (by decide)]
  exact vp_in_nI (by omega) (by decide)
theorem yr_st {i n : Nat} {f : Nat → Int32} {r : Nat → Int32} {v : Int32} (hi : i < 32) (e : v = if 5000 ≤ f_cp i (f_cp 32 f (fun j => f_ags (r (j / 8)) n (f j))) (fun j => f_ag1 (r (j / 8)) (f_ags (r (j / 8)) n (f j))) (nI i).toNatClampNeg - f_cp i (f_cp 32 f (fun j => f_ags (r (j / 8)) n (f j))) (fun j => f_ag1 (r (j / 8)) (f_ags (r (j / 8)) n (f j))) (nI i).toNatClampNeg * r (nI i / 8).toNatClampNeg / 10000 then f_cp i (f_cp 32 f (fun j => f_ags (r (j / 8)) n (f j))) (fun j => f_ag1 (r (j / 8)) (f_ags (r (j / 8)) n (f j))) (nI i).toNatClampNeg - f_cp i (f_cp 32 f (fun j => f_ags (r (j / 8)) n (f j))) (fun j => f_ag1 (r (j / 8)) (f_ags (r (j / 8)) n (f j))) (nI i).toNatClampNeg * r (nI i / 8).toNatClampNeg / 10000 else (5000 : Int32)) :
    upd (f_cp i (f_cp 32 f (fun j => f_ags (r (j / 8)) n (f j))) (fun j => f_ag1 (r (j / 8)) (f_ags (r (j / 8)) n (f j)))) (nI i).toNatClampNeg v = f_cp (i + 1) (f_cp 32 f (fun j => f_ags (r (j / 8)) n (f j))) (fun j => f_ag1 (r (j / 8)) (f_ags (r (j / 8)) n (f j))) := by
  rw [ag_eq, nI_clamp (by omega), show (8 : Int32) = nI 8 from rfl, pk_div (by omega) (by decide) (by decide), nI_clamp (by omega)] at e
  rw [nI_clamp (by omega), e]
  have e2 : f_cp i (f_cp 32 f (fun j => f_ags (r (j / 8)) n (f j))) (fun j => f_ag1 (r (j / 8)) (f_ags (r (j / 8)) n (f j))) i = f_ags (r (i / 8)) n (f i) := by simp [f_cp, hi]
  rw [e2]
  exact f_cp_s i _ (fun j => f_ag1 (r (j / 8)) (f_ags (r (j / 8)) n (f j)))
def ga_years (d : gDt) (x : Int32) : Int32 := (f_in x 1 30)
def gb_years (d : gDt) (x : Int32) : Int32 := (if (f_in x 1 30) = 0 then 0 else (if 300 < ((d 9 12) + x) then 0 else 1 : Int32) : Int32)
def gc_years (d : gDt) (x : Int32) : Int32 := 1
abbrev rm_X6_years : Room := { frames := 4, cells := 0, slots := 0, locals := 158 }
theorem nm_X6_years : gNm yX6_years 1 := ⟨by decide +kernel, by decide +kernel, by decide +kernel⟩
set_option maxHeartbeats 8000000 in
set_option maxRecDepth 100000 in
theorem c_X6_years (l : Launch) (hfl : l.stackTraces = false) (D : va_G) (tc : Nat → ClassId) (A : Nat → Prop) (w : gW) (ad : Nat → Nat) (d : gDt) (tk : Int64) (st : Nat → Int64) (x : Int32) (hM : mW tc w ad d tk st) (hOk : mOk d) : gM l yX6_years cX6_years 6 (some .int) rm_X6_years D tc A [.ref (ad 0), .int x] w (fun v w' => (m_go (ga_years d x) (gb_years d x) (gc_years d x) = 0 ∧ (∃ r, v = some (.int r)) ∧ mW tc w' ad (sL d (m_la (ga_years d x) (gb_years d x) (gc_years d x))) tk st ∧ gF w w') ∨ (¬ m_go (ga_years d x) (gb_years d x) (gc_years d x) = 0 ∧ v = some (.int (d 9 12 + x)) ∧ mW tc w' ad (sL (gD (gD d 4 (m_yrs d x.toNatClampNeg)) 9 (upd (d 9) 12 (d 9 12 + x))) 0) tk st ∧ gF w w')) (fun _ => False) := by
  refine gM_of (by decide +kernel) (Nat.le_of_ble_eq_true rfl) ?_
  intro p e s m args below meth c ls Q hQ hE hG hr hnt hnm hl
  have hx := hE.1
  have hb := hE.2.1
  have hl : lv_has ls 6 [(0, .ref (ad 0)), (1, .int x)] := hl
  obtain ⟨o0, o1, o2, o3, o4, o5, o6, o7, o8, o9, o10⟩ := hM
  refine lv_iload_n hx hb dX6_years_0 rfl (lv_at hl 1 rfl) ?_
  refine lv_iconst (v := 1) hx hb dX6_years_1 (by decide) ?_
  refine lv_bipush (v := 30) hx hb dX6_years_2 (by decide) ?_
  refine g_callS (rest := []) (As := [.int x, .int 1, .int 30]) hE hG hl.1 (c_X6_in l hfl D tc A w x 1 30 ) mw4_35 mw4_36 mw1_4 mw4_37 nm_X6_in ⟨⟨Nat.le_of_ble_eq_true rfl, Nat.le_of_ble_eq_true rfl⟩, Nat.le_of_ble_eq_true rfl, Nat.le_of_ble_eq_true rfl⟩ rfl rfl (Nat.le_of_ble_eq_true rfl) dX6_years_4 (g_no) ?_
  intro v9 w9 H locs h9 hG
  obtain ⟨e9, f9⟩ := h9
  rw [f9] at hG; rw [e9]; clear e9 f9
  show W p l e _ s m args below meth c H locs _ _ _ (F0 m 7 ls [.int (f_in x 1 30)])
  refine lv_istore_n (lv' := [(2, .int (f_in x 1 30)), (0, .ref (ad 0)), (1, .int x)]) hx hb dX6_years_7 rfl hl (by decide) rfl (fun ls hl => ?_)
  refine lv_aload_n hx hb dX6_years_8 rfl (lv_at hl 1 rfl) ?_
  refine lv_iload_n hx hb dX6_years_9 rfl (lv_at hl 0 rfl) ?_
  refine lv_iload_n hx hb dX6_years_10 rfl (lv_at hl 0 rfl) ?_
  have j_2 : ∀ (v_1 : Int32) (H : Heap) (locs : List Loc), v_1 = (if (f_in x 1 30) = 0 then 0 else (if 300 < ((d 9 12) + x) then 0 else 1 : Int32) : Int32) → gS D A s.heap w H locs → W p l e rm_X6_years s m args below meth c H locs (0 + rm_X6_in.cells) (0 + rm_X6_in.slots) Q (F0 m 31 ls (.int v_1 :: [.int (f_in x 1 30), .ref (ad 0)])) := by
    intro v_1 H locs ev_1 hG
    refine lv_iconst (v := 1) hx hb dX6_years_31 (by decide) ?_
    refine g_callV (rest := []) (As := [.int (f_in x 1 30), .int v_1, .int 1]) hE hG hl.1 (c_X6_goes l hfl D tc A w ad d tk st (f_in x 1 30) v_1 1 ⟨o0, o1, o2, o3, o4, o5, o6, o7, o8, o9, o10⟩ ) o0 rfl mw4_38 mw4_40 mws_12 mw1_4 mw4_41 rfl nm_X6_goes ⟨⟨Nat.le_of_ble_eq_true rfl, Nat.le_of_ble_eq_true rfl⟩, Nat.le_of_ble_eq_true rfl, Nat.le_of_ble_eq_true rfl⟩ rfl rfl (Nat.le_of_ble_eq_true rfl) dX6_years_32 (g_no) ?_
    intro v9 w_3 H locs h9 hG
    obtain ⟨e9, ew_3⟩ := h9
    rw [e9]; clear e9
    show W p l e _ s m args below meth c H locs _ _ _ (F0 m 35 ls [.int (m_go (f_in x 1 30) v_1 1)])
    have h_4 : w_3 1001 = some ((ad 1), .inl (tc 0, 4, .inl (d 0))) := gU_n ew_3 (by decide) o1
    have h_5 : w_3 1002 = some ((ad 2), .inl (tc 0, 6, .inl (d 1))) := gU_n ew_3 (by decide) o2
    have h_6 : w_3 1003 = some ((ad 3), .inl (tc 0, 6, .inl (d 2))) := gU_n ew_3 (by decide) o3
    have h_7 : w_3 1004 = some ((ad 4), .inl (tc 0, 390, .inl (d 3))) := gU_n ew_3 (by decide) o4
    have h_8 : w_3 1005 = some ((ad 5), .inl (tc 1, 4, .inr (.inl st))) := gU_n ew_3 (by decide) o5
    have h_9 : w_3 1006 = some ((ad 6), .inl (tc 0, 32, .inl (d 4))) := gU_n ew_3 (by decide) o6
    have h_10 : w_3 1007 = some ((ad 7), .inl (tc 0, 4, .inl (d 5))) := gU_n ew_3 (by decide) o7
    have h_11 : w_3 1008 = some ((ad 8), .inl (tc 0, 8, .inl (d 6))) := gU_n ew_3 (by decide) o8
    have h_12 : w_3 1009 = some ((ad 9), .inl (tc 2, 48, .inl (d 7))) := gU_n ew_3 (by decide) o9
    have h_13 : w_3 1010 = some ((ad 10), .inl (tc 0, 3120, .inl (d 8))) := gU_n ew_3 (by decide) o10
    have h_14 : w_3 1000 = some ((ad 0), .inr (6, [.ref (ad 1), .int (d 9 0), .ref (ad 2), .ref (ad 3), .ref (ad 4), .int (d 9 1), .int (d 9 2), .int (d 9 3), .int (d 9 4), .int (d 9 5), .int (d 9 6), .int (d 9 7), .int (d 9 8), .int (d 9 9), .long tk, .ref (ad 5), .int (d 9 10), .int (d 9 11), .ref (ad 6), .ref (ad 7), .int (d 9 12), .ref (ad 8), .ref (ad 9), .ref (ad 10), .int (d 9 13), .int (m_la (f_in x 1 30) v_1 1)])) := gU_s ew_3
    refine lv_if_ne (tgt := 40) hx hb dX6_years_35 (by decide) (fun c_15 => ?_) (fun c_15 => ?_)
    · skip
      obtain ⟨y, hy1, hy2, hxy⟩ := nI_bet (a := 1) (b := 30) (by decide) (f_in_ne (m_go_ne c_15).1).1 (f_in_ne (m_go_ne c_15).1).2 (by decide)
      subst hxy
      have hyc : (nI y).toNatClampNeg = y := nI_clamp (by omega)
      refine lv_iconst (v := 0) hx hb dX6_years_40 (by decide) ?_
      refine lv_istore_n (lv' := [(3, .int 0), (2, .int (f_in (nI y) 1 30)), (0, .ref (ad 0)), (1, .int (nI y))]) hx hb dX6_years_41 rfl hl (by decide) rfl (fun ls hl => ?_)
      have hw0 : w_3 = gU w_3 1006 ((ad 6), .inl (tc 0, 32, .inl (m_yrs d (y - y)))) := by rw [Nat.sub_self, show m_yrs d 0 = d 4 from f_cp_cp _ _ _ (fun _ _ => rfl)]; exact (gU_self h_9).symm
      have hl : lv_has ls 6 [(3, .int (nI (y - y))), (2, .int (f_in (nI y) 1 30)), (0, .ref (ad 0)), (1, .int (nI y))] := by rw [Nat.sub_self]; exact hl
      have hout : ∀ (k : Nat) (w8 : gW) (H : Heap) (locs : List Loc) (ls : Array Slot), k ≤ y → w8 = gU w_3 1006 ((ad 6), .inl (tc 0, 32, .inl (m_yrs d (y - k)))) → gS D A s.heap w8 H locs → lv_has ls 6 [(3, .int (nI (y - k))), (2, .int (f_in (nI y) 1 30)), (0, .ref (ad 0)), (1, .int (nI y))] → W p l e rm_X6_years s m args below meth c H locs ((0 + rm_X6_in.cells) + rm_X6_goes.cells) ((0 + rm_X6_in.slots) + rm_X6_goes.slots) Q (F0 m 42 ls []) := by
        intro k
        induction k with
        | zero =>
          intro w8 H locs ls hk8 hw8 hG hl
          have h_16 : w8 1001 = some ((ad 1), .inl (tc 0, 4, .inl (d 0))) := gU_n hw8 (by decide) h_4
          have h_17 : w8 1002 = some ((ad 2), .inl (tc 0, 6, .inl (d 1))) := gU_n hw8 (by decide) h_5
          have h_18 : w8 1003 = some ((ad 3), .inl (tc 0, 6, .inl (d 2))) := gU_n hw8 (by decide) h_6
          have h_19 : w8 1004 = some ((ad 4), .inl (tc 0, 390, .inl (d 3))) := gU_n hw8 (by decide) h_7
          have h_20 : w8 1005 = some ((ad 5), .inl (tc 1, 4, .inr (.inl st))) := gU_n hw8 (by decide) h_8
          have h_21 : w8 1007 = some ((ad 7), .inl (tc 0, 4, .inl (d 5))) := gU_n hw8 (by decide) h_10
          have h_22 : w8 1008 = some ((ad 8), .inl (tc 0, 8, .inl (d 6))) := gU_n hw8 (by decide) h_11
          have h_23 : w8 1009 = some ((ad 9), .inl (tc 2, 48, .inl (d 7))) := gU_n hw8 (by decide) h_12
          have h_24 : w8 1010 = some ((ad 10), .inl (tc 0, 3120, .inl (d 8))) := gU_n hw8 (by decide) h_13
          have h_25 : w8 1000 = some ((ad 0), .inr (6, [.ref (ad 1), .int (d 9 0), .ref (ad 2), .ref (ad 3), .ref (ad 4), .int (d 9 1), .int (d 9 2), .int (d 9 3), .int (d 9 4), .int (d 9 5), .int (d 9 6), .int (d 9 7), .int (d 9 8), .int (d 9 9), .long tk, .ref (ad 5), .int (d 9 10), .int (d 9 11), .ref (ad 6), .ref (ad 7), .int (d 9 12), .ref (ad 8), .ref (ad 9), .ref (ad 10), .int (d 9 13), .int (m_la (f_in (nI y) 1 30) v_1 1)])) := gU_n hw8 (by decide) h_14
          have g2 : w8 1006 = some ((ad 6), .inl (tc 0, 32, .inl (m_yrs d (y - 0)))) := gU_s hw8
          refine lv_iload_n hx hb dX6_years_42 rfl (lv_at hl 0 rfl) ?_
          refine lv_iload_n hx hb dX6_years_43 rfl (lv_at hl 3 rfl) ?_
          refine lv_icmp_ge (tgt := 124) hx hb dX6_years_44 (by decide) (fun c9 => ?_) (fun c9 => (c9 (nI_le (by omega) (by omega))).elim)
          refine lv_aload_n hx hb dX6_years_124 rfl (lv_at hl 2 rfl) ?_
          refine lv_dup hx hb dX6_years_125 rfl ?_
          refine g_get hE hG h_25 rfl inG6 20 (by decide) mw3_207 rfl dX6_years_126 ?_
          refine lv_iload_n hx hb dX6_years_129 rfl (lv_at hl 3 rfl) ?_
          refine lv_iadd hx hb dX6_years_130 ?_
          refine g_put hE hG h_25 rfl inG6 tyX6 tyX6_ok nmX6 20 (by decide) mw3_207 rfl rfl rfl (Nat.le_of_ble_eq_true rfl) dX6_years_131 (fun H locs w_26 ew_26 hG => ?_)
          have h_27 : w_26 1001 = some ((ad 1), .inl (tc 0, 4, .inl (d 0))) := gU_n ew_26 (by decide) h_16
          have h_28 : w_26 1002 = some ((ad 2), .inl (tc 0, 6, .inl (d 1))) := gU_n ew_26 (by decide) h_17
          have h_29 : w_26 1003 = some ((ad 3), .inl (tc 0, 6, .inl (d 2))) := gU_n ew_26 (by decide) h_18
          have h_30 : w_26 1004 = some ((ad 4), .inl (tc 0, 390, .inl (d 3))) := gU_n ew_26 (by decide) h_19
          have h_31 : w_26 1005 = some ((ad 5), .inl (tc 1, 4, .inr (.inl st))) := gU_n ew_26 (by decide) h_20
          have h_32 : w_26 1007 = some ((ad 7), .inl (tc 0, 4, .inl (d 5))) := gU_n ew_26 (by decide) h_21
          have h_33 : w_26 1008 = some ((ad 8), .inl (tc 0, 8, .inl (d 6))) := gU_n ew_26 (by decide) h_22
          have h_34 : w_26 1009 = some ((ad 9), .inl (tc 2, 48, .inl (d 7))) := gU_n ew_26 (by decide) h_23
          have h_35 : w_26 1010 = some ((ad 10), .inl (tc 0, 3120, .inl (d 8))) := gU_n ew_26 (by decide) h_24
          have h_36 : w_26 1006 = some ((ad 6), .inl (tc 0, 32, .inl (m_yrs d (y - 0)))) := gU_n ew_26 (by decide) g2
          have h_37 : w_26 1000 = some ((ad 0), .inr (6, [.ref (ad 1), .int (d 9 0), .ref (ad 2), .ref (ad 3), .ref (ad 4), .int (d 9 1), .int (d 9 2), .int (d 9 3), .int (d 9 4), .int (d 9 5), .int (d 9 6), .int (d 9 7), .int (d 9 8), .int (d 9 9), .long tk, .ref (ad 5), .int (d 9 10), .int (d 9 11), .ref (ad 6), .ref (ad 7), .int ((d 9 12) + (nI y)), .ref (ad 8), .ref (ad 9), .ref (ad 10), .int (d 9 13), .int (m_la (f_in (nI y) 1 30) v_1 1)])) := gU_s ew_26
          refine lv_aload_n hx hb dX6_years_134 rfl (lv_at hl 2 rfl) ?_
          refine g_get hE hG h_37 rfl inG6 20 (by decide) mw3_207 rfl dX6_years_135 ?_
          subst hQ
          have hg_v_1 : v_1 = gb_years d (nI y) := ev_1
          subst hg_v_1
          rw [m_la_ok c_15] at h_37
          exact g_iret hE hG hr (Nat.le_of_ble_eq_true rfl) (Nat.le_of_ble_eq_true rfl) dX6_years_138 (Or.inr ⟨c_15, rfl, (by rw [hyc]; exact ⟨h_37, h_27, h_28, h_29, h_30, h_31, h_36, h_32, h_33, h_34, h_35⟩), gF_u (gF_u (gF_u (gF_rf w) ew_3 (by decide)) hw8 (by decide)) ew_26 (by decide)⟩)
        | succ k ih =>
          intro w8 H locs ls hk8 hw8 hG hl
          have h_38 : w8 1001 = some ((ad 1), .inl (tc 0, 4, .inl (d 0))) := gU_n hw8 (by decide) h_4
          have h_39 : w8 1002 = some ((ad 2), .inl (tc 0, 6, .inl (d 1))) := gU_n hw8 (by decide) h_5
          have h_40 : w8 1003 = some ((ad 3), .inl (tc 0, 6, .inl (d 2))) := gU_n hw8 (by decide) h_6
          have h_41 : w8 1004 = some ((ad 4), .inl (tc 0, 390, .inl (d 3))) := gU_n hw8 (by decide) h_7
          have h_42 : w8 1005 = some ((ad 5), .inl (tc 1, 4, .inr (.inl st))) := gU_n hw8 (by decide) h_8
          have h_43 : w8 1007 = some ((ad 7), .inl (tc 0, 4, .inl (d 5))) := gU_n hw8 (by decide) h_10
          have h_44 : w8 1008 = some ((ad 8), .inl (tc 0, 8, .inl (d 6))) := gU_n hw8 (by decide) h_11
          have h_45 : w8 1009 = some ((ad 9), .inl (tc 2, 48, .inl (d 7))) := gU_n hw8 (by decide) h_12
          have h_46 : w8 1010 = some ((ad 10), .inl (tc 0, 3120, .inl (d 8))) := gU_n hw8 (by decide) h_13
          have h_47 : w8 1000 = some ((ad 0), .inr (6, [.ref (ad 1), .int (d 9 0), .ref (ad 2), .ref (ad 3), .ref (ad 4), .int (d 9 1), .int (d 9 2), .int (d 9 3), .int (d 9 4), .int (d 9 5), .int (d 9 6), .int (d 9 7), .int (d 9 8), .int (d 9 9), .long tk, .ref (ad 5), .int (d 9 10), .int (d 9 11), .ref (ad 6), .ref (ad 7), .int (d 9 12), .ref (ad 8), .ref (ad 9), .ref (ad 10), .int (d 9 13), .int (m_la (f_in (nI y) 1 30) v_1 1)])) := gU_n hw8 (by decide) h_14
          have g2 : w8 1006 = some ((ad 6), .inl (tc 0, 32, .inl (m_yrs d (y - (k + 1))))) := gU_s hw8
          refine lv_iload_n hx hb dX6_years_42 rfl (lv_at hl 0 rfl) ?_
          refine lv_iload_n hx hb dX6_years_43 rfl (lv_at hl 3 rfl) ?_
          refine lv_icmp_ge (tgt := 124) hx hb dX6_years_44 (by decide) (fun c9 => absurd c9 (nI_ge (by omega) (by omega))) (fun c9 => ?_)
          refine lv_iconst (v := 0) hx hb dX6_years_47 (by decide) ?_
          refine lv_istore (lv' := [(4, .int 0), (3, .int (nI (y - (k + 1)))), (2, .int (f_in (nI y) 1 30)), (0, .ref (ad 0)), (1, .int (nI y))]) hx hb dX6_years_48 hl (by decide) rfl (fun ls hl => ?_)
          have hl : lv_has ls 6 [(4, .int (nI (32 - 32))), (3, .int (nI (y - (k + 1)))), (2, .int (f_in (nI y) 1 30)), (0, .ref (ad 0)), (1, .int (nI y))] := hl
          have hw_500 : w8 = gU w8 1006 ((ad 6), .inl (tc 0, 32, .inl (f_cp (32 - 32) (m_yrs d (y - (k + 1))) (fun j => f_ag1 (d 5 (j / 8)) (f_ags (d 5 (j / 8)) (y - (k + 1)) (d 4 j)))))) := by rw [Nat.sub_self, f_cp_0]; exact (gU_self g2).symm
          have hloop_52 : ∀ (k_48 : Nat) (w_49 : gW) (H : Heap) (locs : List Loc) (ls : Array Slot), k_48 ≤ 32 → w_49 = gU w8 1006 ((ad 6), .inl (tc 0, 32, .inl (f_cp (32 - k_48) (m_yrs d (y - (k + 1))) (fun j => f_ag1 (d 5 (j / 8)) (f_ags (d 5 (j / 8)) (y - (k + 1)) (d 4 j)))))) → gS D A s.heap w_49 H locs → lv_has ls 6 [(4, .int (nI (32 - k_48))), (3, .int (nI (y - (k + 1)))), (2, .int (f_in (nI y) 1 30)), (0, .ref (ad 0)), (1, .int (nI y))] → W p l e rm_X6_years s m args below meth c H locs ((0 + rm_X6_in.cells) + rm_X6_goes.cells) ((0 + rm_X6_in.slots) + rm_X6_goes.slots) Q (F0 m 50 ls []) := by
            intro k_48
            induction k_48 with
            | zero =>
              intro w_49 H locs ls hk_51 hw_50 hG hl
              have h_53 : w_49 1001 = some ((ad 1), .inl (tc 0, 4, .inl (d 0))) := gU_n hw_50 (by decide) h_38
              have h_54 : w_49 1002 = some ((ad 2), .inl (tc 0, 6, .inl (d 1))) := gU_n hw_50 (by decide) h_39
              have h_55 : w_49 1003 = some ((ad 3), .inl (tc 0, 6, .inl (d 2))) := gU_n hw_50 (by decide) h_40
              have h_56 : w_49 1004 = some ((ad 4), .inl (tc 0, 390, .inl (d 3))) := gU_n hw_50 (by decide) h_41
              have h_57 : w_49 1005 = some ((ad 5), .inl (tc 1, 4, .inr (.inl st))) := gU_n hw_50 (by decide) h_42
              have h_58 : w_49 1007 = some ((ad 7), .inl (tc 0, 4, .inl (d 5))) := gU_n hw_50 (by decide) h_43
              have h_59 : w_49 1008 = some ((ad 8), .inl (tc 0, 8, .inl (d 6))) := gU_n hw_50 (by decide) h_44
              have h_60 : w_49 1009 = some ((ad 9), .inl (tc 2, 48, .inl (d 7))) := gU_n hw_50 (by decide) h_45
              have h_61 : w_49 1010 = some ((ad 10), .inl (tc 0, 3120, .inl (d 8))) := gU_n hw_50 (by decide) h_46
              have h_62 : w_49 1000 = some ((ad 0), .inr (6, [.ref (ad 1), .int (d 9 0), .ref (ad 2), .ref (ad 3), .ref (ad 4), .int (d 9 1), .int (d 9 2), .int (d 9 3), .int (d 9 4), .int (d 9 5), .int (d 9 6), .int (d 9 7), .int (d 9 8), .int (d 9 9), .long tk, .ref (ad 5), .int (d 9 10), .int (d 9 11), .ref (ad 6), .ref (ad 7), .int (d 9 12), .ref (ad 8), .ref (ad 9), .ref (ad 10), .int (d 9 13), .int (m_la (f_in (nI y) 1 30) v_1 1)])) := gU_n hw_50 (by decide) h_47
              have h_63 : w_49 1006 = some ((ad 6), .inl (tc 0, 32, .inl (f_cp (32 - 0) (m_yrs d (y - (k + 1))) (fun j => f_ag1 (d 5 (j / 8)) (f_ags (d 5 (j / 8)) (y - (k + 1)) (d 4 j)))))) := gU_s hw_50
              refine lv_iload hx hb dX6_years_50 (lv_at hl 0 rfl) ?_
              have hw_50z : w_49 = gU w8 1006 ((ad 6), .inl (tc 0, 32, .inl (f_cp 32 (m_yrs d (y - (k + 1))) (fun j => f_ag1 (d 5 (j / 8)) (f_ags (d 5 (j / 8)) (y - (k + 1)) (d 4 j)))))) := hw_50
              have h_63z : w_49 1006 = some ((ad 6), .inl (tc 0, 32, .inl (f_cp 32 (m_yrs d (y - (k + 1))) (fun j => f_ag1 (d 5 (j / 8)) (f_ags (d 5 (j / 8)) (y - (k + 1)) (d 4 j)))))) := h_63
              refine lv_bipush (v := 32) hx hb dX6_years_52 (by decide) ?_
              refine lv_icmp_ge (tgt := 118) hx hb dX6_years_54 (by decide) (fun c9 => ?_) (fun c9 => (c9 (nI_le (a := 32) (by omega) (by omega))).elim)
              refine lv_iinc (v := (nI (y - k))) (lv' := [(3, .int (nI (y - k))), (4, .int (nI (32 - 0))), (2, .int (f_in (nI y) 1 30)), (0, .ref (ad 0)), (1, .int (nI y))]) hx hb dX6_years_118 hl (k := 1) rfl (by rw [show y - k = (y - (k + 1)) + 1 by omega]; exact nI_1 _) (by decide) rfl (fun ls hl => ?_)
              refine lv_goto (tgt := 42) hx hb dX6_years_121 (by decide) ?_
              exact ih w_49 _ _ _ (by omega) (by rw [hw_50z, hw8, gU_gU, show y - k = (y - (k + 1)) + 1 by omega]; unfold m_yrs; rw [f_cp_idem]; simp only [f_ags_s]) hG (lv_sub hl [0, 2, 3, 4] rfl)
            | succ k_48 ihk_48 =>
              intro w_49 H locs ls hk_51 hw_50 hG hl
              have h_64 : w_49 1001 = some ((ad 1), .inl (tc 0, 4, .inl (d 0))) := gU_n hw_50 (by decide) h_38
              have h_65 : w_49 1002 = some ((ad 2), .inl (tc 0, 6, .inl (d 1))) := gU_n hw_50 (by decide) h_39
              have h_66 : w_49 1003 = some ((ad 3), .inl (tc 0, 6, .inl (d 2))) := gU_n hw_50 (by decide) h_40
              have h_67 : w_49 1004 = some ((ad 4), .inl (tc 0, 390, .inl (d 3))) := gU_n hw_50 (by decide) h_41
              have h_68 : w_49 1005 = some ((ad 5), .inl (tc 1, 4, .inr (.inl st))) := gU_n hw_50 (by decide) h_42
              have h_69 : w_49 1007 = some ((ad 7), .inl (tc 0, 4, .inl (d 5))) := gU_n hw_50 (by decide) h_43
              have h_70 : w_49 1008 = some ((ad 8), .inl (tc 0, 8, .inl (d 6))) := gU_n hw_50 (by decide) h_44
              have h_71 : w_49 1009 = some ((ad 9), .inl (tc 2, 48, .inl (d 7))) := gU_n hw_50 (by decide) h_45
              have h_72 : w_49 1010 = some ((ad 10), .inl (tc 0, 3120, .inl (d 8))) := gU_n hw_50 (by decide) h_46
              have h_73 : w_49 1000 = some ((ad 0), .inr (6, [.ref (ad 1), .int (d 9 0), .ref (ad 2), .ref (ad 3), .ref (ad 4), .int (d 9 1), .int (d 9 2), .int (d 9 3), .int (d 9 4), .int (d 9 5), .int (d 9 6), .int (d 9 7), .int (d 9 8), .int (d 9 9), .long tk, .ref (ad 5), .int (d 9 10), .int (d 9 11), .ref (ad 6), .ref (ad 7), .int (d 9 12), .ref (ad 8), .ref (ad 9), .ref (ad 10), .int (d 9 13), .int (m_la (f_in (nI y) 1 30) v_1 1)])) := gU_n hw_50 (by decide) h_47
              have h_74 : w_49 1006 = some ((ad 6), .inl (tc 0, 32, .inl (f_cp (32 - (k_48 + 1)) (m_yrs d (y - (k + 1))) (fun j => f_ag1 (d 5 (j / 8)) (f_ags (d 5 (j / 8)) (y - (k + 1)) (d 4 j)))))) := gU_s hw_50
              refine lv_iload hx hb dX6_years_50 (lv_at hl 0 rfl) ?_
              refine lv_bipush (v := 32) hx hb dX6_years_52 (by decide) ?_
              refine lv_icmp_ge (tgt := 118) hx hb dX6_years_54 (by decide) (fun c9 => absurd c9 (nI_ge (b := 32) (by omega) (by omega))) (fun c9 => ?_)
              refine lv_aload_n hx hb dX6_years_57 rfl (lv_at hl 3 rfl) ?_
              refine g_get hE hG h_73 rfl inG6 18 (by decide) mw3_205 rfl dX6_years_58 ?_
              refine lv_iload hx hb dX6_years_61 (lv_at hl 0 rfl) ?_
              refine g_iald hE hG h_74 (vp_in_nI (by omega) (by decide)) dX6_years_63 ?_
              refine lv_aload_n hx hb dX6_years_64 rfl (lv_at hl 3 rfl) ?_
              refine g_get hE hG h_73 rfl inG6 18 (by decide) mw3_205 rfl dX6_years_65 ?_
              refine lv_iload hx hb dX6_years_68 (lv_at hl 0 rfl) ?_
              refine g_iald hE hG h_74 (vp_in_nI (by omega) (by decide)) dX6_years_70 ?_
              refine lv_aload_n hx hb dX6_years_71 rfl (lv_at hl 3 rfl) ?_
              refine g_get hE hG h_73 rfl inG6 19 (by decide) mw3_206 rfl dX6_years_72 ?_
              refine lv_iload hx hb dX6_years_75 (lv_at hl 0 rfl) ?_
              refine lv_bipush (v := 8) hx hb dX6_years_77 (by decide) ?_
              refine lv_idiv hx hb dX6_years_79 (by decide) ?_
              refine g_iald hE hG h_69 (yr_in (by omega)) dX6_years_80 ?_
              refine lv_imul hx hb dX6_years_81 ?_
              refine lv_sipush (v := 10000) hx hb dX6_years_82 (by decide) ?_
              refine lv_idiv hx hb dX6_years_85 (by decide) ?_
              refine lv_isub hx hb dX6_years_86 ?_
              refine lv_istore (lv' := [(5, .int (((f_cp (32 - (k_48 + 1)) (m_yrs d (y - (k + 1))) (fun j => f_ag1 (d 5 (j / 8)) (f_ags (d 5 (j / 8)) (y - (k + 1)) (d 4 j)))) (nI (32 - (k_48 + 1))).toNatClampNeg) - ((((f_cp (32 - (k_48 + 1)) (m_yrs d (y - (k + 1))) (fun j => f_ag1 (d 5 (j / 8)) (f_ags (d 5 (j / 8)) (y - (k + 1)) (d 4 j)))) (nI (32 - (k_48 + 1))).toNatClampNeg) * ((d 5) ((nI (32 - (k_48 + 1))) / 8).toNatClampNeg)) / 10000))), (4, .int (nI (32 - (k_48 + 1)))), (3, .int (nI (y - (k + 1)))), (2, .int (f_in (nI y) 1 30)), (0, .ref (ad 0)), (1, .int (nI y))]) hx hb dX6_years_87 hl (by decide) rfl (fun ls hl => ?_)
              refine lv_aload_n hx hb dX6_years_89 rfl (lv_at hl 4 rfl) ?_
              refine g_get hE hG h_73 rfl inG6 18 (by decide) mw3_205 rfl dX6_years_90 ?_
              refine lv_iload hx hb dX6_years_93 (lv_at hl 1 rfl) ?_
              refine lv_iload hx hb dX6_years_95 (lv_at hl 0 rfl) ?_
              refine lv_sipush (v := 5000) hx hb dX6_years_97 (by decide) ?_
              have j_76 : ∀ (v_75 : Int32) (H : Heap) (locs : List Loc), v_75 = (if 5000 ≤ (((f_cp (32 - (k_48 + 1)) (m_yrs d (y - (k + 1))) (fun j => f_ag1 (d 5 (j / 8)) (f_ags (d 5 (j / 8)) (y - (k + 1)) (d 4 j)))) (nI (32 - (k_48 + 1))).toNatClampNeg) - ((((f_cp (32 - (k_48 + 1)) (m_yrs d (y - (k + 1))) (fun j => f_ag1 (d 5 (j / 8)) (f_ags (d 5 (j / 8)) (y - (k + 1)) (d 4 j)))) (nI (32 - (k_48 + 1))).toNatClampNeg) * ((d 5) ((nI (32 - (k_48 + 1))) / 8).toNatClampNeg)) / 10000)) then (((f_cp (32 - (k_48 + 1)) (m_yrs d (y - (k + 1))) (fun j => f_ag1 (d 5 (j / 8)) (f_ags (d 5 (j / 8)) (y - (k + 1)) (d 4 j)))) (nI (32 - (k_48 + 1))).toNatClampNeg) - ((((f_cp (32 - (k_48 + 1)) (m_yrs d (y - (k + 1))) (fun j => f_ag1 (d 5 (j / 8)) (f_ags (d 5 (j / 8)) (y - (k + 1)) (d 4 j)))) (nI (32 - (k_48 + 1))).toNatClampNeg) * ((d 5) ((nI (32 - (k_48 + 1))) / 8).toNatClampNeg)) / 10000)) else 5000 : Int32) → gS D A s.heap w_49 H locs → W p l e rm_X6_years s m args below meth c H locs ((0 + rm_X6_in.cells) + rm_X6_goes.cells) ((0 + rm_X6_in.slots) + rm_X6_goes.slots) Q (F0 m 111 ls (.int v_75 :: [.int (nI (32 - (k_48 + 1))), .ref (ad 6)])) := by
                intro v_75 H locs ev_75 hG
                refine g_iast hE hG h_74 (vp_in_nI (by omega) (by decide)) dX6_years_111 (fun H locs w_77 ew_77 hG => ?_)
                have h_78 : w_77 1001 = some ((ad 1), .inl (tc 0, 4, .inl (d 0))) := gU_n ew_77 (by decide) h_64
                have h_79 : w_77 1002 = some ((ad 2), .inl (tc 0, 6, .inl (d 1))) := gU_n ew_77 (by decide) h_65
                have h_80 : w_77 1003 = some ((ad 3), .inl (tc 0, 6, .inl (d 2))) := gU_n ew_77 (by decide) h_66
                have h_81 : w_77 1004 = some ((ad 4), .inl (tc 0, 390, .inl (d 3))) := gU_n ew_77 (by decide) h_67
                have h_82 : w_77 1005 = some ((ad 5), .inl (tc 1, 4, .inr (.inl st))) := gU_n ew_77 (by decide) h_68
                have h_83 : w_77 1007 = some ((ad 7), .inl (tc 0, 4, .inl (d 5))) := gU_n ew_77 (by decide) h_69
                have h_84 : w_77 1008 = some ((ad 8), .inl (tc 0, 8, .inl (d 6))) := gU_n ew_77 (by decide) h_70
                have h_85 : w_77 1009 = some ((ad 9), .inl (tc 2, 48, .inl (d 7))) := gU_n ew_77 (by decide) h_71
                have h_86 : w_77 1010 = some ((ad 10), .inl (tc 0, 3120, .inl (d 8))) := gU_n ew_77 (by decide) h_72
                have h_87 : w_77 1000 = some ((ad 0), .inr (6, [.ref (ad 1), .int (d 9 0), .ref (ad 2), .ref (ad 3), .ref (ad 4), .int (d 9 1), .int (d 9 2), .int (d 9 3), .int (d 9 4), .int (d 9 5), .int (d 9 6), .int (d 9 7), .int (d 9 8), .int (d 9 9), .long tk, .ref (ad 5), .int (d 9 10), .int (d 9 11), .ref (ad 6), .ref (ad 7), .int (d 9 12), .ref (ad 8), .ref (ad 9), .ref (ad 10), .int (d 9 13), .int (m_la (f_in (nI y) 1 30) v_1 1)])) := gU_n ew_77 (by decide) h_73
                have h_88 : w_77 1006 = some ((ad 6), .inl (tc 0, 32, .inl (upd (f_cp (32 - (k_48 + 1)) (m_yrs d (y - (k + 1))) (fun j => f_ag1 (d 5 (j / 8)) (f_ags (d 5 (j / 8)) (y - (k + 1)) (d 4 j)))) (nI (32 - (k_48 + 1))).toNatClampNeg v_75))) := gU_s ew_77
                refine lv_iinc (v := (nI (32 - k_48))) (lv' := [(4, .int (nI (32 - k_48))), (5, .int (((f_cp (32 - (k_48 + 1)) (m_yrs d (y - (k + 1))) (fun j => f_ag1 (d 5 (j / 8)) (f_ags (d 5 (j / 8)) (y - (k + 1)) (d 4 j)))) (nI (32 - (k_48 + 1))).toNatClampNeg) - ((((f_cp (32 - (k_48 + 1)) (m_yrs d (y - (k + 1))) (fun j => f_ag1 (d 5 (j / 8)) (f_ags (d 5 (j / 8)) (y - (k + 1)) (d 4 j)))) (nI (32 - (k_48 + 1))).toNatClampNeg) * ((d 5) ((nI (32 - (k_48 + 1))) / 8).toNatClampNeg)) / 10000))), (3, .int (nI (y - (k + 1)))), (2, .int (f_in (nI y) 1 30)), (0, .ref (ad 0)), (1, .int (nI y))]) hx hb dX6_years_112 hl (k := 1) rfl (by rw [show 32 - k_48 = (32 - (k_48 + 1)) + 1 by omega]; exact nI_1 _) (by decide) rfl (fun ls hl => ?_)
                refine lv_goto (tgt := 50) hx hb dX6_years_115 (by decide) ?_
                exact ihk_48 w_77 _ _ _ (by omega) (by rw [ew_77, hw_50, gU_gU, show m_yrs d (y - (k + 1)) = f_cp 32 (d 4) (fun j => f_ags (d 5 (j / 8)) (y - (k + 1)) (d 4 j)) from rfl, yr_st (r := d 5) (by omega) ev_75, show 32 - k_48 = (32 - (k_48 + 1)) + 1 by omega]) hG (lv_sub hl [0, 2, 3, 4, 5] rfl)
              refine lv_icmp_ge (tgt := 109) hx hb dX6_years_100 (by decide) (fun c_89 => ?_) (fun c_89 => ?_)
              · skip
                refine lv_iload hx hb dX6_years_109 (lv_at hl 0 rfl) ?_
                exact j_76 _ _ _ (by rw [if_pos c_89]) hG
              · skip
                refine lv_sipush (v := 5000) hx hb dX6_years_103 (by decide) ?_
                refine lv_goto (tgt := 111) hx hb dX6_years_106 (by decide) ?_
                exact j_76 _ _ _ (by rw [if_neg c_89]) hG
          exact hloop_52 32 w8 _ _ _ (Nat.le_refl _) hw_500 hG (lv_sub hl [0, 1, 2, 3, 4] rfl)
      exact hout y w_3 _ _ _ (Nat.le_refl _) hw0 hG (lv_sub hl [0, 1, 2, 3] rfl)
    · skip
      refine lv_iconst (v := 0) hx hb dX6_years_38 (by decide) ?_
      subst hQ
      have hg_v_1 : v_1 = gb_years d x := ev_1
      subst hg_v_1
      exact g_iret hE hG hr (Nat.le_of_ble_eq_true rfl) (Nat.le_of_ble_eq_true rfl) dX6_years_39 (Or.inl ⟨c_15, ⟨_, rfl⟩, mW_mk h_14 h_4 h_5 h_6 h_7 h_8 h_9 h_10 h_11 h_12 h_13, gF_u (gF_rf w) ew_3 (by decide)⟩)
  refine lv_if_eq (tgt := 30) hx hb dX6_years_11 (by decide) (fun c_90 => ?_) (fun c_90 => ?_)
  · skip
    refine lv_iconst (v := 0) hx hb dX6_years_30 (by decide) ?_
    exact j_2 _ _ _ (by rw [if_pos c_90]) hG
  · skip
    refine lv_aload_n hx hb dX6_years_14 rfl (lv_at hl 1 rfl) ?_
    refine g_get hE hG o0 rfl inG6 20 (by decide) mw3_207 rfl dX6_years_15 ?_
    refine lv_iload_n hx hb dX6_years_18 rfl (lv_at hl 2 rfl) ?_
    refine lv_iadd hx hb dX6_years_19 ?_
    refine lv_sipush (v := 300) hx hb dX6_years_20 (by decide) ?_
    refine lv_icmp_gt (tgt := 30) hx hb dX6_years_23 (by decide) (fun c_91 => ?_) (fun c_91 => ?_)
    · skip
      refine lv_iconst (v := 0) hx hb dX6_years_30 (by decide) ?_
      exact j_2 _ _ _ (by rw [if_neg c_90, if_pos c_91]) hG
    · skip
      refine lv_iconst (v := 1) hx hb dX6_years_26 (by decide) ?_
      refine lv_goto (tgt := 31) hx hb dX6_years_27 (by decide) ?_
      exact j_2 _ _ _ (by rw [if_neg c_90, if_neg c_91]) hG
