/-! GongCyclesModel: its state, and its helpers -/
/-- d: 0 lengths, 1 formOf, 2 forbidden, 3 tones, 4 pitches, 5 drifts, 6 able, 7 knows, 8 versions, 9 the numbers: 0 forms, 1 pieces, 2 isPlayed, 3 current, 4 place, 5 beat, 6 level, 7 gongs, 8 drums, 9 ends, 10 begun, 11 day, 12 years, 13 players, 14 last -/
abbrev gDt : Type := Nat → Nat → Int32
def gD (d : gDt) (k : Nat) (f : Nat → Int32) : gDt := fun j => if j = k then f else d j
def mW (tc : Nat → ClassId) (w : gW) (ad : Nat → Nat) (d : gDt) (tk : Int64) (st : Nat → Int64) : Prop := w 1000 = some ((ad 0), .inr (6, [.ref (ad 1), .int (d 9 0), .ref (ad 2), .ref (ad 3), .ref (ad 4), .int (d 9 1), .int (d 9 2), .int (d 9 3), .int (d 9 4), .int (d 9 5), .int (d 9 6), .int (d 9 7), .int (d 9 8), .int (d 9 9), .long tk, .ref (ad 5), .int (d 9 10), .int (d 9 11), .ref (ad 6), .ref (ad 7), .int (d 9 12), .ref (ad 8), .ref (ad 9), .ref (ad 10), .int (d 9 13), .int (d 9 14)])) ∧ w 1001 = some ((ad 1), .inl (tc 0, 4, .inl (d 0))) ∧ w 1002 = some ((ad 2), .inl (tc 0, 6, .inl (d 1))) ∧ w 1003 = some ((ad 3), .inl (tc 0, 6, .inl (d 2))) ∧ w 1004 = some ((ad 4), .inl (tc 0, 390, .inl (d 3))) ∧ w 1005 = some ((ad 5), .inl (tc 1, 4, .inr (.inl st))) ∧ w 1006 = some ((ad 6), .inl (tc 0, 32, .inl (d 4))) ∧ w 1007 = some ((ad 7), .inl (tc 0, 4, .inl (d 5))) ∧ w 1008 = some ((ad 8), .inl (tc 0, 8, .inl (d 6))) ∧ w 1009 = some ((ad 9), .inl (tc 2, 48, .inl (d 7))) ∧ w 1010 = some ((ad 10), .inl (tc 0, 3120, .inl (d 8)))
def gF (w w' : gW) : Prop := ∀ k : Nat, k < 1000 → w' k = w k
theorem gF_rf (w : gW) : gF w w := fun _ _ => rfl
theorem gF_u {w w1 w2 : gW} {k : Nat} {x : Nat × va_E} (h : gF w w1) (e : w2 = gU w1 k x) (hk : 1000 ≤ k) : gF w w2 := fun j hj => by rw [e, gU_ne _ _ (by omega)]; exact h j hj
theorem gF_tr {w w1 w2 : gW} (h : gF w w1) (h2 : gF w1 w2) : gF w w2 := fun j hj => (h2 j hj).trans (h j hj)
def nF (d : gDt) : Nat := (d 9 0).toNatClampNeg
def nP (d : gDt) : Nat := (d 9 1).toNatClampNeg
def nU (d : gDt) : Nat := (d 9 13).toNatClampNeg
/-- the length of a piece -/
def lenN (d : gDt) (i : Nat) : Nat := (d 0 (d 1 i).toNatClampNeg).toNatClampNeg
/-- a length is 4 to 64, a multiple of 4 -/
def gLen (x : Int32) : Prop := ∃ q : Nat, 1 ≤ q ∧ q ≤ 16 ∧ x = nI (4 * q)
/-- what the forms, pieces, players of a state are -/
def mOk (d : gDt) : Prop := (nF d ≤ 4 ∧ nP d ≤ 6 ∧ nU d ≤ 8) ∧ (d 9 0 = nI (nF d) ∧ d 9 1 = nI (nP d) ∧ d 9 13 = nI (nU d)) ∧ (∀ j, j < nF d → gLen (d 0 j)) ∧ (∀ i, i < nP d → ∃ j, j < nF d ∧ d 1 i = nI j)
theorem mW_mk {tc : Nat → ClassId} {w : gW} {ad : Nat → Nat} {d : gDt} {tk : Int64} {st : Nat → Int64} {x : Int32} (o0 : w 1000 = some ((ad 0), .inr (6, [.ref (ad 1), .int (d 9 0), .ref (ad 2), .ref (ad 3), .ref (ad 4), .int (d 9 1), .int (d 9 2), .int (d 9 3), .int (d 9 4), .int (d 9 5), .int (d 9 6), .int (d 9 7), .int (d 9 8), .int (d 9 9), .long tk, .ref (ad 5), .int (d 9 10), .int (d 9 11), .ref (ad 6), .ref (ad 7), .int (d 9 12), .ref (ad 8), .ref (ad 9), .ref (ad 10), .int (d 9 13), .int x]))) (o1 : w 1001 = some ((ad 1), .inl (tc 0, 4, .inl (d 0)))) (o2 : w 1002 = some ((ad 2), .inl (tc 0, 6, .inl (d 1)))) (o3 : w 1003 = some ((ad 3), .inl (tc 0, 6, .inl (d 2)))) (o4 : w 1004 = some ((ad 4), .inl (tc 0, 390, .inl (d 3)))) (o5 : w 1005 = some ((ad 5), .inl (tc 1, 4, .inr (.inl st)))) (o6 : w 1006 = some ((ad 6), .inl (tc 0, 32, .inl (d 4)))) (o7 : w 1007 = some ((ad 7), .inl (tc 0, 4, .inl (d 5)))) (o8 : w 1008 = some ((ad 8), .inl (tc 0, 8, .inl (d 6)))) (o9 : w 1009 = some ((ad 9), .inl (tc 2, 48, .inl (d 7)))) (o10 : w 1010 = some ((ad 10), .inl (tc 0, 3120, .inl (d 8)))) : mW tc w ad (gD d 9 (upd (d 9) 14 x)) tk st := ⟨o0, o1, o2, o3, o4, o5, o6, o7, o8, o9, o10⟩
theorem gLen_n {x : Int32} (h : gLen x) : x = nI x.toNatClampNeg ∧ 4 ≤ x.toNatClampNeg ∧ x.toNatClampNeg ≤ 64 ∧ x.toNatClampNeg % 4 = 0 := by
  obtain ⟨q, h1, h2, rfl⟩ := h
  rw [nI_clamp (by omega)]
  exact ⟨rfl, by omega, by omega, by omega⟩
theorem mOk_len {d : gDt} {i : Nat} (h : mOk d) (hi : i < nP d) : d 0 (d 1 i).toNatClampNeg = nI (lenN d i) ∧ 4 ≤ lenN d i ∧ lenN d i ≤ 64 ∧ lenN d i % 4 = 0 := by
  obtain ⟨j, hj, e⟩ := h.2.2.2 i hi
  have hf := h.1.1
  have h2 := gLen_n (h.2.2.1 j hj)
  unfold lenN
  rw [e, nI_clamp (by omega)]
  exact h2
theorem f_in_ne {a b d : Int32} (h : ¬ f_in a b d = 0) : b ≤ a ∧ a ≤ d := by
  unfold f_in at h
  by_cases h1 : a < b
  · rw [if_pos h1] at h; exact absurd rfl h
  · rw [if_neg h1] at h
    by_cases h2 : d < a
    · rw [if_pos h2] at h; exact absurd rfl h
    · exact ⟨Int32.not_lt.mp h1, Int32.not_lt.mp h2⟩
theorem f_in_z {a b d : Int32} (h : f_in a b d = 0) : ¬ (b ≤ a ∧ a ≤ d) := by
  intro ⟨h1, h2⟩
  unfold f_in at h
  rw [if_neg (Int32.not_lt.mpr h1), if_neg (Int32.not_lt.mpr h2)] at h
  exact absurd h (by decide)
theorem nI_cnt {x : Int32} {n : Nat} (hn : n < 2 ^ 30) (h1 : (0 : Int32) ≤ x) (h2 : x ≤ nI n - 1) : ∃ i, i < n ∧ x = nI i := by
  rw [Int32.le_iff_toInt_le] at h1 h2
  have e0 : (0 : Int32).toInt = 0 := by decide
  have e1 : (1 : Int32).toInt = 1 := by decide
  rw [e0] at h1
  rw [Int32.toInt_sub, nI_toInt (by omega), e1, Int.bmod_eq_of_le (by omega) (by omega)] at h2
  refine ⟨x.toInt.toNat, by omega, ?_⟩
  apply Int32.toInt_inj.mp
  rw [nI_toInt (by omega)]
  omega
theorem nI_bet {x : Int32} {a b : Nat} (hb : b < 2 ^ 30) (h1 : nI a ≤ x) (h2 : x ≤ nI b) (ha : a < 2 ^ 30) : ∃ i, a ≤ i ∧ i ≤ b ∧ x = nI i := by
  rw [Int32.le_iff_toInt_le, nI_toInt (by omega)] at h1 h2
  refine ⟨x.toInt.toNat, by omega, by omega, ?_⟩
  apply Int32.toInt_inj.mp
  rw [nI_toInt (by omega)]
  omega
theorem f_in_nI {a b c : Nat} (ha : a < 2 ^ 31) (hb : b < 2 ^ 31) (hc : c < 2 ^ 31) (h1 : b ≤ a) (h2 : a ≤ c) : f_in (nI a) (nI b) (nI c) = 1 := by
  unfold f_in
  rw [if_neg, if_neg]
  · rw [nI_ltI hc ha]; omega
  · rw [nI_ltI ha hb]; omega
abbrev rm_X6_thrown : Room := { frames := 1, cells := 0, slots := 0, locals := 50 }
theorem nm_X6_thrown : gNm yX6_thrown 0 := ⟨by decide +kernel, by decide +kernel, by decide +kernel⟩
set_option maxHeartbeats 4000000 in
set_option maxRecDepth 100000 in
theorem c_X6_thrown (l : Launch) (hfl : l.stackTraces = false) (D : va_G) (tc : Nat → ClassId) (A : Nat → Prop) (w : gW) (ad : Nat → Nat) (d : gDt) (tk : Int64) (st : Nat → Int64) (hM : mW tc w ad d tk st) : gM l yX6_thrown cX6_thrown 1 (some .int) rm_X6_thrown D tc A [.ref (ad 0)] w (fun v w' => v = some (.int (d 9 14)) ∧ w' = w) (fun _ => False) := by
  refine gM_of (by decide +kernel) (Nat.le_of_ble_eq_true rfl) ?_
  intro p e s m args below meth c ls Q hQ hE hG hr hnt hnm hl
  have hx := hE.1
  have hb := hE.2.1
  have hl : lv_has ls 1 [(0, .ref (ad 0))] := hl
  obtain ⟨o0, o1, o2, o3, o4, o5, o6, o7, o8, o9, o10⟩ := hM
  refine lv_aload_n hx hb dX6_thrown_0 rfl (lv_at hl 0 rfl) ?_
  refine g_get hE hG o0 rfl inG6 25 (by decide) mw3_212 rfl dX6_thrown_1 ?_
  subst hQ
  exact g_iret hE hG hr (Nat.le_of_ble_eq_true rfl) (Nat.le_of_ble_eq_true rfl) dX6_thrown_4 ⟨rfl, rfl⟩
def m_go (a b c : Int32) : Int32 := if a = 0 then 0 else if b = 0 then 0 else if c = 0 then 0 else 1
def m_la (a b c : Int32) : Int32 := if a = 0 then 1 else if b = 0 then 2 else if c = 0 then 3 else 0
theorem m_go_ne {a b c : Int32} (h : ¬ m_go a b c = 0) : ¬ a = 0 ∧ ¬ b = 0 ∧ ¬ c = 0 := by
  unfold m_go at h
  by_cases ha : a = 0
  · rw [if_pos ha] at h; exact absurd rfl h
  · rw [if_neg ha] at h
    by_cases hb : b = 0
    · rw [if_pos hb] at h; exact absurd rfl h
    · rw [if_neg hb] at h
      by_cases hc : c = 0
      · rw [if_pos hc] at h; exact absurd rfl h
      · exact ⟨ha, hb, hc⟩
theorem m_la_ok {a b c : Int32} (h : ¬ m_go a b c = 0) : m_la a b c = 0 := by
  obtain ⟨ha, hb, hc⟩ := m_go_ne h
  unfold m_la
  rw [if_neg ha, if_neg hb, if_neg hc]
theorem m_la_no {a b c : Int32} (h : m_go a b c = 0) : ¬ m_la a b c = 0 := by
  unfold m_go at h
  unfold m_la
  by_cases ha : a = 0
  · rw [if_pos ha]; decide
  · rw [if_neg ha] at h ⊢
    by_cases hb : b = 0
    · rw [if_pos hb]; decide
    · rw [if_neg hb] at h ⊢
      by_cases hc : c = 0
      · rw [if_pos hc]; decide
      · rw [if_neg hc] at h; exact absurd h (by decide)
abbrev rm_X6_goes : Room := { frames := 1, cells := 0, slots := 0, locals := 50 }
theorem nm_X6_goes : gNm yX6_goes 3 := ⟨by decide +kernel, by decide +kernel, by decide +kernel⟩
set_option maxHeartbeats 4000000 in
set_option maxRecDepth 100000 in
theorem c_X6_goes (l : Launch) (hfl : l.stackTraces = false) (D : va_G) (tc : Nat → ClassId) (A : Nat → Prop) (w : gW) (ad : Nat → Nat) (d : gDt) (tk : Int64) (st : Nat → Int64) (x : Int32) (y : Int32) (z : Int32) (hM : mW tc w ad d tk st) : gM l yX6_goes cX6_goes 4 (some .boolean) rm_X6_goes D tc A [.ref (ad 0), .int x, .int y, .int z] w (fun v w' => v = some (.int (m_go x y z)) ∧ w' = gU w 1000 ((ad 0), .inr (6, [.ref (ad 1), .int (d 9 0), .ref (ad 2), .ref (ad 3), .ref (ad 4), .int (d 9 1), .int (d 9 2), .int (d 9 3), .int (d 9 4), .int (d 9 5), .int (d 9 6), .int (d 9 7), .int (d 9 8), .int (d 9 9), .long tk, .ref (ad 5), .int (d 9 10), .int (d 9 11), .ref (ad 6), .ref (ad 7), .int (d 9 12), .ref (ad 8), .ref (ad 9), .ref (ad 10), .int (d 9 13), .int (m_la x y z)]))) (fun _ => False) := by
  refine gM_of (by decide +kernel) (Nat.le_of_ble_eq_true rfl) ?_
  intro p e s m args below meth c ls Q hQ hE hG hr hnt hnm hl
  have hx := hE.1
  have hb := hE.2.1
  have hl : lv_has ls 4 [(0, .ref (ad 0)), (1, .int x), (2, .int y), (3, .int z)] := hl
  obtain ⟨o0, o1, o2, o3, o4, o5, o6, o7, o8, o9, o10⟩ := hM
  refine lv_aload_n hx hb dX6_goes_0 rfl (lv_at hl 0 rfl) ?_
  refine lv_iload_n hx hb dX6_goes_1 rfl (lv_at hl 1 rfl) ?_
  refine lv_if_ne (tgt := 9) hx hb dX6_goes_2 (by decide) (fun c_1 => ?_) (fun c_1 => ?_)
  · skip
    refine lv_iload_n hx hb dX6_goes_9 rfl (lv_at hl 2 rfl) ?_
    refine lv_if_ne (tgt := 17) hx hb dX6_goes_10 (by decide) (fun c_2 => ?_) (fun c_2 => ?_)
    · skip
      refine lv_iload_n hx hb dX6_goes_17 rfl (lv_at hl 3 rfl) ?_
      refine lv_if_eq (tgt := 25) hx hb dX6_goes_18 (by decide) (fun c_3 => ?_) (fun c_3 => ?_)
      · skip
        refine lv_iconst (v := 3) hx hb dX6_goes_25 (by decide) ?_
        refine g_put hE hG o0 rfl inG6 tyX6 tyX6_ok nmX6 25 (by decide) mw3_212 rfl rfl rfl (Nat.le_of_ble_eq_true rfl) dX6_goes_26 (fun H locs w_4 ew_4 hG => ?_)
        have h_5 : w_4 1001 = some ((ad 1), .inl (tc 0, 4, .inl (d 0))) := gU_n ew_4 (by decide) o1
        have h_6 : w_4 1002 = some ((ad 2), .inl (tc 0, 6, .inl (d 1))) := gU_n ew_4 (by decide) o2
        have h_7 : w_4 1003 = some ((ad 3), .inl (tc 0, 6, .inl (d 2))) := gU_n ew_4 (by decide) o3
        have h_8 : w_4 1004 = some ((ad 4), .inl (tc 0, 390, .inl (d 3))) := gU_n ew_4 (by decide) o4
        have h_9 : w_4 1005 = some ((ad 5), .inl (tc 1, 4, .inr (.inl st))) := gU_n ew_4 (by decide) o5
        have h_10 : w_4 1006 = some ((ad 6), .inl (tc 0, 32, .inl (d 4))) := gU_n ew_4 (by decide) o6
        have h_11 : w_4 1007 = some ((ad 7), .inl (tc 0, 4, .inl (d 5))) := gU_n ew_4 (by decide) o7
        have h_12 : w_4 1008 = some ((ad 8), .inl (tc 0, 8, .inl (d 6))) := gU_n ew_4 (by decide) o8
        have h_13 : w_4 1009 = some ((ad 9), .inl (tc 2, 48, .inl (d 7))) := gU_n ew_4 (by decide) o9
        have h_14 : w_4 1010 = some ((ad 10), .inl (tc 0, 3120, .inl (d 8))) := gU_n ew_4 (by decide) o10
        have h_15 : w_4 1000 = some ((ad 0), .inr (6, [.ref (ad 1), .int (d 9 0), .ref (ad 2), .ref (ad 3), .ref (ad 4), .int (d 9 1), .int (d 9 2), .int (d 9 3), .int (d 9 4), .int (d 9 5), .int (d 9 6), .int (d 9 7), .int (d 9 8), .int (d 9 9), .long tk, .ref (ad 5), .int (d 9 10), .int (d 9 11), .ref (ad 6), .ref (ad 7), .int (d 9 12), .ref (ad 8), .ref (ad 9), .ref (ad 10), .int (d 9 13), .int 3])) := gU_s ew_4
        refine lv_aload_n hx hb dX6_goes_29 rfl (lv_at hl 0 rfl) ?_
        refine g_get hE hG h_15 rfl inG6 25 (by decide) mw3_212 rfl dX6_goes_30 ?_
        refine lv_if_ne (tgt := 40) hx hb dX6_goes_33 (by decide) (fun _ => ?_) (fun c9 => absurd c9 (by decide))
        refine lv_iconst (v := 0) hx hb dX6_goes_40 (by decide) ?_
        subst hQ
        exact g_zret hE hG hr (by decide) (Nat.le_of_ble_eq_true rfl) (Nat.le_of_ble_eq_true rfl) dX6_goes_41 ⟨by unfold m_go; rw [if_neg c_1, if_neg c_2, if_pos c_3], by rw [ew_4]; unfold m_la; rw [if_neg c_1, if_neg c_2, if_pos c_3] <;> rfl⟩
      · skip
        refine lv_iconst (v := 0) hx hb dX6_goes_21 (by decide) ?_
        refine lv_goto (tgt := 26) hx hb dX6_goes_22 (by decide) ?_
        refine g_put hE hG o0 rfl inG6 tyX6 tyX6_ok nmX6 25 (by decide) mw3_212 rfl rfl rfl (Nat.le_of_ble_eq_true rfl) dX6_goes_26 (fun H locs w_16 ew_16 hG => ?_)
        have h_17 : w_16 1001 = some ((ad 1), .inl (tc 0, 4, .inl (d 0))) := gU_n ew_16 (by decide) o1
        have h_18 : w_16 1002 = some ((ad 2), .inl (tc 0, 6, .inl (d 1))) := gU_n ew_16 (by decide) o2
        have h_19 : w_16 1003 = some ((ad 3), .inl (tc 0, 6, .inl (d 2))) := gU_n ew_16 (by decide) o3
        have h_20 : w_16 1004 = some ((ad 4), .inl (tc 0, 390, .inl (d 3))) := gU_n ew_16 (by decide) o4
        have h_21 : w_16 1005 = some ((ad 5), .inl (tc 1, 4, .inr (.inl st))) := gU_n ew_16 (by decide) o5
        have h_22 : w_16 1006 = some ((ad 6), .inl (tc 0, 32, .inl (d 4))) := gU_n ew_16 (by decide) o6
        have h_23 : w_16 1007 = some ((ad 7), .inl (tc 0, 4, .inl (d 5))) := gU_n ew_16 (by decide) o7
        have h_24 : w_16 1008 = some ((ad 8), .inl (tc 0, 8, .inl (d 6))) := gU_n ew_16 (by decide) o8
        have h_25 : w_16 1009 = some ((ad 9), .inl (tc 2, 48, .inl (d 7))) := gU_n ew_16 (by decide) o9
        have h_26 : w_16 1010 = some ((ad 10), .inl (tc 0, 3120, .inl (d 8))) := gU_n ew_16 (by decide) o10
        have h_27 : w_16 1000 = some ((ad 0), .inr (6, [.ref (ad 1), .int (d 9 0), .ref (ad 2), .ref (ad 3), .ref (ad 4), .int (d 9 1), .int (d 9 2), .int (d 9 3), .int (d 9 4), .int (d 9 5), .int (d 9 6), .int (d 9 7), .int (d 9 8), .int (d 9 9), .long tk, .ref (ad 5), .int (d 9 10), .int (d 9 11), .ref (ad 6), .ref (ad 7), .int (d 9 12), .ref (ad 8), .ref (ad 9), .ref (ad 10), .int (d 9 13), .int 0])) := gU_s ew_16
        refine lv_aload_n hx hb dX6_goes_29 rfl (lv_at hl 0 rfl) ?_
        refine g_get hE hG h_27 rfl inG6 25 (by decide) mw3_212 rfl dX6_goes_30 ?_
        refine lv_if_ne (tgt := 40) hx hb dX6_goes_33 (by decide) (fun c9 => (c9 (by decide)).elim) (fun _ => ?_)
        refine lv_iconst (v := 1) hx hb dX6_goes_36 (by decide) ?_
        refine lv_goto (tgt := 41) hx hb dX6_goes_37 (by decide) ?_
        subst hQ
        exact g_zret hE hG hr (by decide) (Nat.le_of_ble_eq_true rfl) (Nat.le_of_ble_eq_true rfl) dX6_goes_41 ⟨by unfold m_go; rw [if_neg c_1, if_neg c_2, if_neg c_3], by rw [ew_16]; unfold m_la; rw [if_neg c_1, if_neg c_2, if_neg c_3] <;> rfl⟩
    · skip
      refine lv_iconst (v := 2) hx hb dX6_goes_13 (by decide) ?_
      refine lv_goto (tgt := 26) hx hb dX6_goes_14 (by decide) ?_
      refine g_put hE hG o0 rfl inG6 tyX6 tyX6_ok nmX6 25 (by decide) mw3_212 rfl rfl rfl (Nat.le_of_ble_eq_true rfl) dX6_goes_26 (fun H locs w_28 ew_28 hG => ?_)
      have h_29 : w_28 1001 = some ((ad 1), .inl (tc 0, 4, .inl (d 0))) := gU_n ew_28 (by decide) o1
      have h_30 : w_28 1002 = some ((ad 2), .inl (tc 0, 6, .inl (d 1))) := gU_n ew_28 (by decide) o2
      have h_31 : w_28 1003 = some ((ad 3), .inl (tc 0, 6, .inl (d 2))) := gU_n ew_28 (by decide) o3
      have h_32 : w_28 1004 = some ((ad 4), .inl (tc 0, 390, .inl (d 3))) := gU_n ew_28 (by decide) o4
      have h_33 : w_28 1005 = some ((ad 5), .inl (tc 1, 4, .inr (.inl st))) := gU_n ew_28 (by decide) o5
      have h_34 : w_28 1006 = some ((ad 6), .inl (tc 0, 32, .inl (d 4))) := gU_n ew_28 (by decide) o6
      have h_35 : w_28 1007 = some ((ad 7), .inl (tc 0, 4, .inl (d 5))) := gU_n ew_28 (by decide) o7
      have h_36 : w_28 1008 = some ((ad 8), .inl (tc 0, 8, .inl (d 6))) := gU_n ew_28 (by decide) o8
      have h_37 : w_28 1009 = some ((ad 9), .inl (tc 2, 48, .inl (d 7))) := gU_n ew_28 (by decide) o9
      have h_38 : w_28 1010 = some ((ad 10), .inl (tc 0, 3120, .inl (d 8))) := gU_n ew_28 (by decide) o10
      have h_39 : w_28 1000 = some ((ad 0), .inr (6, [.ref (ad 1), .int (d 9 0), .ref (ad 2), .ref (ad 3), .ref (ad 4), .int (d 9 1), .int (d 9 2), .int (d 9 3), .int (d 9 4), .int (d 9 5), .int (d 9 6), .int (d 9 7), .int (d 9 8), .int (d 9 9), .long tk, .ref (ad 5), .int (d 9 10), .int (d 9 11), .ref (ad 6), .ref (ad 7), .int (d 9 12), .ref (ad 8), .ref (ad 9), .ref (ad 10), .int (d 9 13), .int 2])) := gU_s ew_28
      refine lv_aload_n hx hb dX6_goes_29 rfl (lv_at hl 0 rfl) ?_
      refine g_get hE hG h_39 rfl inG6 25 (by decide) mw3_212 rfl dX6_goes_30 ?_
      refine lv_if_ne (tgt := 40) hx hb dX6_goes_33 (by decide) (fun _ => ?_) (fun c9 => absurd c9 (by decide))
      refine lv_iconst (v := 0) hx hb dX6_goes_40 (by decide) ?_
      subst hQ
      exact g_zret hE hG hr (by decide) (Nat.le_of_ble_eq_true rfl) (Nat.le_of_ble_eq_true rfl) dX6_goes_41 ⟨by unfold m_go; rw [if_neg c_1, if_pos c_2], by rw [ew_28]; unfold m_la; rw [if_neg c_1, if_pos c_2] <;> rfl⟩
  · skip
    refine lv_iconst (v := 1) hx hb dX6_goes_5 (by decide) ?_
    refine lv_goto (tgt := 26) hx hb dX6_goes_6 (by decide) ?_
    refine g_put hE hG o0 rfl inG6 tyX6 tyX6_ok nmX6 25 (by decide) mw3_212 rfl rfl rfl (Nat.le_of_ble_eq_true rfl) dX6_goes_26 (fun H locs w_40 ew_40 hG => ?_)
    have h_41 : w_40 1001 = some ((ad 1), .inl (tc 0, 4, .inl (d 0))) := gU_n ew_40 (by decide) o1
    have h_42 : w_40 1002 = some ((ad 2), .inl (tc 0, 6, .inl (d 1))) := gU_n ew_40 (by decide) o2
    have h_43 : w_40 1003 = some ((ad 3), .inl (tc 0, 6, .inl (d 2))) := gU_n ew_40 (by decide) o3
    have h_44 : w_40 1004 = some ((ad 4), .inl (tc 0, 390, .inl (d 3))) := gU_n ew_40 (by decide) o4
    have h_45 : w_40 1005 = some ((ad 5), .inl (tc 1, 4, .inr (.inl st))) := gU_n ew_40 (by decide) o5
    have h_46 : w_40 1006 = some ((ad 6), .inl (tc 0, 32, .inl (d 4))) := gU_n ew_40 (by decide) o6
    have h_47 : w_40 1007 = some ((ad 7), .inl (tc 0, 4, .inl (d 5))) := gU_n ew_40 (by decide) o7
    have h_48 : w_40 1008 = some ((ad 8), .inl (tc 0, 8, .inl (d 6))) := gU_n ew_40 (by decide) o8
    have h_49 : w_40 1009 = some ((ad 9), .inl (tc 2, 48, .inl (d 7))) := gU_n ew_40 (by decide) o9
    have h_50 : w_40 1010 = some ((ad 10), .inl (tc 0, 3120, .inl (d 8))) := gU_n ew_40 (by decide) o10
    have h_51 : w_40 1000 = some ((ad 0), .inr (6, [.ref (ad 1), .int (d 9 0), .ref (ad 2), .ref (ad 3), .ref (ad 4), .int (d 9 1), .int (d 9 2), .int (d 9 3), .int (d 9 4), .int (d 9 5), .int (d 9 6), .int (d 9 7), .int (d 9 8), .int (d 9 9), .long tk, .ref (ad 5), .int (d 9 10), .int (d 9 11), .ref (ad 6), .ref (ad 7), .int (d 9 12), .ref (ad 8), .ref (ad 9), .ref (ad 10), .int (d 9 13), .int 1])) := gU_s ew_40
    refine lv_aload_n hx hb dX6_goes_29 rfl (lv_at hl 0 rfl) ?_
    refine g_get hE hG h_51 rfl inG6 25 (by decide) mw3_212 rfl dX6_goes_30 ?_
    refine lv_if_ne (tgt := 40) hx hb dX6_goes_33 (by decide) (fun _ => ?_) (fun c9 => absurd c9 (by decide))
    refine lv_iconst (v := 0) hx hb dX6_goes_40 (by decide) ?_
    subst hQ
    exact g_zret hE hG hr (by decide) (Nat.le_of_ble_eq_true rfl) (Nat.le_of_ble_eq_true rfl) dX6_goes_41 ⟨by unfold m_go; rw [if_pos c_1], by rw [ew_40]; unfold m_la; rw [if_pos c_1] <;> rfl⟩
theorem m_go_b (a b c : Int32) : m_go a b c = 0 ∨ m_go a b c = 1 := by
  unfold m_go
  repeat' split
  all_goals first | exact Or.inl rfl | exact Or.inr rfl
def m_isForm (d : gDt) (x : Int32) : Int32 := (f_in x 0 ((d 9 0) - 1))
theorem m_isForm_b (d : gDt) (x : Int32) : m_isForm d x = 0 ∨ m_isForm d x = 1 := by
  unfold m_isForm
  repeat' split
  all_goals first | exact Or.inl rfl | exact Or.inr rfl | apply f_in_b
abbrev rm_X6_isForm : Room := { frames := 2, cells := 0, slots := 0, locals := 86 }
theorem nm_X6_isForm : gNm yX6_isForm 1 := ⟨by decide +kernel, by decide +kernel, by decide +kernel⟩
set_option maxHeartbeats 4000000 in
set_option maxRecDepth 100000 in
theorem c_X6_isForm (l : Launch) (hfl : l.stackTraces = false) (D : va_G) (tc : Nat → ClassId) (A : Nat → Prop) (w : gW) (ad : Nat → Nat) (d : gDt) (tk : Int64) (st : Nat → Int64) (x : Int32) (hM : mW tc w ad d tk st) : gM l yX6_isForm cX6_isForm 2 (some .boolean) rm_X6_isForm D tc A [.ref (ad 0), .int x] w (fun v w' => v = some (.int (m_isForm d x)) ∧ w' = w) (fun _ => False) := by
  refine gM_of (by decide +kernel) (Nat.le_of_ble_eq_true rfl) ?_
  intro p e s m args below meth c ls Q hQ hE hG hr hnt hnm hl
  have hx := hE.1
  have hb := hE.2.1
  have hl : lv_has ls 2 [(0, .ref (ad 0)), (1, .int x)] := hl
  obtain ⟨o0, o1, o2, o3, o4, o5, o6, o7, o8, o9, o10⟩ := hM
  refine lv_iload_n hx hb dX6_isForm_0 rfl (lv_at hl 1 rfl) ?_
  refine lv_iconst (v := 0) hx hb dX6_isForm_1 (by decide) ?_
  refine lv_aload_n hx hb dX6_isForm_2 rfl (lv_at hl 0 rfl) ?_
  refine g_get hE hG o0 rfl inG6 1 (by decide) mw3_188 rfl dX6_isForm_3 ?_
  refine lv_iconst (v := 1) hx hb dX6_isForm_6 (by decide) ?_
  refine lv_isub hx hb dX6_isForm_7 ?_
  refine g_callS (rest := []) (As := [.int x, .int 0, .int ((d 9 0) - 1)]) hE hG hl.1 (c_X6_in l hfl D tc A w x 0 ((d 9 0) - 1) ) mw4_35 mw4_36 mw1_4 mw4_37 nm_X6_in ⟨⟨Nat.le_of_ble_eq_true rfl, Nat.le_of_ble_eq_true rfl⟩, Nat.le_of_ble_eq_true rfl, Nat.le_of_ble_eq_true rfl⟩ rfl rfl (Nat.le_of_ble_eq_true rfl) dX6_isForm_8 (g_no) ?_
  intro v9 w9 H locs h9 hG
  obtain ⟨e9, f9⟩ := h9
  rw [f9] at hG; rw [e9]; clear e9 f9
  show W p l e _ s m args below meth c H locs _ _ _ (F0 m 11 ls [.int (f_in x 0 ((d 9 0) - 1))])
  subst hQ
  exact g_zret hE hG hr (nz_b (by apply f_in_b)) (Nat.le_of_ble_eq_true rfl) (Nat.le_of_ble_eq_true rfl) dX6_isForm_11 ⟨by unfold m_isForm; rw [], rfl⟩
def m_isPiece (d : gDt) (x : Int32) : Int32 := (f_in x 0 ((d 9 1) - 1))
theorem m_isPiece_b (d : gDt) (x : Int32) : m_isPiece d x = 0 ∨ m_isPiece d x = 1 := by
  unfold m_isPiece
  repeat' split
  all_goals first | exact Or.inl rfl | exact Or.inr rfl | apply f_in_b
abbrev rm_X6_isPiece : Room := { frames := 2, cells := 0, slots := 0, locals := 86 }
theorem nm_X6_isPiece : gNm yX6_isPiece 1 := ⟨by decide +kernel, by decide +kernel, by decide +kernel⟩
set_option maxHeartbeats 4000000 in
set_option maxRecDepth 100000 in
theorem c_X6_isPiece (l : Launch) (hfl : l.stackTraces = false) (D : va_G) (tc : Nat → ClassId) (A : Nat → Prop) (w : gW) (ad : Nat → Nat) (d : gDt) (tk : Int64) (st : Nat → Int64) (x : Int32) (hM : mW tc w ad d tk st) : gM l yX6_isPiece cX6_isPiece 2 (some .boolean) rm_X6_isPiece D tc A [.ref (ad 0), .int x] w (fun v w' => v = some (.int (m_isPiece d x)) ∧ w' = w) (fun _ => False) := by
  refine gM_of (by decide +kernel) (Nat.le_of_ble_eq_true rfl) ?_
  intro p e s m args below meth c ls Q hQ hE hG hr hnt hnm hl
  have hx := hE.1
  have hb := hE.2.1
  have hl : lv_has ls 2 [(0, .ref (ad 0)), (1, .int x)] := hl
  obtain ⟨o0, o1, o2, o3, o4, o5, o6, o7, o8, o9, o10⟩ := hM
  refine lv_iload_n hx hb dX6_isPiece_0 rfl (lv_at hl 1 rfl) ?_
  refine lv_iconst (v := 0) hx hb dX6_isPiece_1 (by decide) ?_
  refine lv_aload_n hx hb dX6_isPiece_2 rfl (lv_at hl 0 rfl) ?_
  refine g_get hE hG o0 rfl inG6 5 (by decide) mw3_192 rfl dX6_isPiece_3 ?_
  refine lv_iconst (v := 1) hx hb dX6_isPiece_6 (by decide) ?_
  refine lv_isub hx hb dX6_isPiece_7 ?_
  refine g_callS (rest := []) (As := [.int x, .int 0, .int ((d 9 1) - 1)]) hE hG hl.1 (c_X6_in l hfl D tc A w x 0 ((d 9 1) - 1) ) mw4_35 mw4_36 mw1_4 mw4_37 nm_X6_in ⟨⟨Nat.le_of_ble_eq_true rfl, Nat.le_of_ble_eq_true rfl⟩, Nat.le_of_ble_eq_true rfl, Nat.le_of_ble_eq_true rfl⟩ rfl rfl (Nat.le_of_ble_eq_true rfl) dX6_isPiece_8 (g_no) ?_
  intro v9 w9 H locs h9 hG
  obtain ⟨e9, f9⟩ := h9
  rw [f9] at hG; rw [e9]; clear e9 f9
  show W p l e _ s m args below meth c H locs _ _ _ (F0 m 11 ls [.int (f_in x 0 ((d 9 1) - 1))])
  subst hQ
  exact g_zret hE hG hr (nz_b (by apply f_in_b)) (Nat.le_of_ble_eq_true rfl) (Nat.le_of_ble_eq_true rfl) dX6_isPiece_11 ⟨by unfold m_isPiece; rw [], rfl⟩
def m_isPlayer (d : gDt) (x : Int32) : Int32 := (f_in x 0 ((d 9 13) - 1))
theorem m_isPlayer_b (d : gDt) (x : Int32) : m_isPlayer d x = 0 ∨ m_isPlayer d x = 1 := by
  unfold m_isPlayer
  repeat' split
  all_goals first | exact Or.inl rfl | exact Or.inr rfl | apply f_in_b
abbrev rm_X6_isPlayer : Room := { frames := 2, cells := 0, slots := 0, locals := 86 }
theorem nm_X6_isPlayer : gNm yX6_isPlayer 1 := ⟨by decide +kernel, by decide +kernel, by decide +kernel⟩
set_option maxHeartbeats 4000000 in
set_option maxRecDepth 100000 in
theorem c_X6_isPlayer (l : Launch) (hfl : l.stackTraces = false) (D : va_G) (tc : Nat → ClassId) (A : Nat → Prop) (w : gW) (ad : Nat → Nat) (d : gDt) (tk : Int64) (st : Nat → Int64) (x : Int32) (hM : mW tc w ad d tk st) : gM l yX6_isPlayer cX6_isPlayer 2 (some .boolean) rm_X6_isPlayer D tc A [.ref (ad 0), .int x] w (fun v w' => v = some (.int (m_isPlayer d x)) ∧ w' = w) (fun _ => False) := by
  refine gM_of (by decide +kernel) (Nat.le_of_ble_eq_true rfl) ?_
  intro p e s m args below meth c ls Q hQ hE hG hr hnt hnm hl
  have hx := hE.1
  have hb := hE.2.1
  have hl : lv_has ls 2 [(0, .ref (ad 0)), (1, .int x)] := hl
  obtain ⟨o0, o1, o2, o3, o4, o5, o6, o7, o8, o9, o10⟩ := hM
  refine lv_iload_n hx hb dX6_isPlayer_0 rfl (lv_at hl 1 rfl) ?_
  refine lv_iconst (v := 0) hx hb dX6_isPlayer_1 (by decide) ?_
  refine lv_aload_n hx hb dX6_isPlayer_2 rfl (lv_at hl 0 rfl) ?_
  refine g_get hE hG o0 rfl inG6 24 (by decide) mw3_211 rfl dX6_isPlayer_3 ?_
  refine lv_iconst (v := 1) hx hb dX6_isPlayer_6 (by decide) ?_
  refine lv_isub hx hb dX6_isPlayer_7 ?_
  refine g_callS (rest := []) (As := [.int x, .int 0, .int ((d 9 13) - 1)]) hE hG hl.1 (c_X6_in l hfl D tc A w x 0 ((d 9 13) - 1) ) mw4_35 mw4_36 mw1_4 mw4_37 nm_X6_in ⟨⟨Nat.le_of_ble_eq_true rfl, Nat.le_of_ble_eq_true rfl⟩, Nat.le_of_ble_eq_true rfl, Nat.le_of_ble_eq_true rfl⟩ rfl rfl (Nat.le_of_ble_eq_true rfl) dX6_isPlayer_8 (g_no) ?_
  intro v9 w9 H locs h9 hG
  obtain ⟨e9, f9⟩ := h9
  rw [f9] at hG; rw [e9]; clear e9 f9
  show W p l e _ s m args below meth c H locs _ _ _ (F0 m 11 ls [.int (f_in x 0 ((d 9 13) - 1))])
  subst hQ
  exact g_zret hE hG hr (nz_b (by apply f_in_b)) (Nat.le_of_ble_eq_true rfl) (Nat.le_of_ble_eq_true rfl) dX6_isPlayer_11 ⟨by unfold m_isPlayer; rw [], rfl⟩
theorem m_isForm_ne {d : gDt} {x : Int32} (hd : mOk d) (h : ¬ m_isForm d x = 0) : ∃ i, i < nF d ∧ x = nI i := by
  unfold m_isForm at h
  obtain ⟨h1, h2⟩ := f_in_ne h
  rw [hd.2.1.1] at h2
  exact nI_cnt (by have := hd.1.1; omega) h1 h2
theorem m_isPiece_ne {d : gDt} {x : Int32} (hd : mOk d) (h : ¬ m_isPiece d x = 0) : ∃ i, i < nP d ∧ x = nI i := by
  unfold m_isPiece at h
  obtain ⟨h1, h2⟩ := f_in_ne h
  rw [hd.2.1.2.1] at h2
  exact nI_cnt (by have := hd.1.2.1; omega) h1 h2
theorem m_isPlayer_ne {d : gDt} {x : Int32} (hd : mOk d) (h : ¬ m_isPlayer d x = 0) : ∃ i, i < nU d ∧ x = nI i := by
  unfold m_isPlayer at h
  obtain ⟨h1, h2⟩ := f_in_ne h
  rw [hd.2.1.2.2] at h2
  exact nI_cnt (by have := hd.1.2.2; omega) h1 h2
theorem mOk_f {d : gDt} {i : Nat} (h : mOk d) (hi : i < nP d) : vp_in (d 1 (nI i).toNatClampNeg) 4 := by
  obtain ⟨j, hj, e⟩ := h.2.2.2 i hi
  have := h.1.1
  have := h.1.2.1
  rw [nI_clamp (by omega), e]
  exact vp_in_nI (by omega) (by decide)
abbrev rm_X6_lengthOf : Room := { frames := 1, cells := 0, slots := 0, locals := 50 }
theorem nm_X6_lengthOf : gNm yX6_lengthOf 1 := ⟨by decide +kernel, by decide +kernel, by decide +kernel⟩
set_option maxHeartbeats 4000000 in
set_option maxRecDepth 100000 in
theorem c_X6_lengthOf (l : Launch) (hfl : l.stackTraces = false) (D : va_G) (tc : Nat → ClassId) (A : Nat → Prop) (w : gW) (ad : Nat → Nat) (d : gDt) (tk : Int64) (st : Nat → Int64) (i : Nat) (hM : mW tc w ad d tk st) (hOk : mOk d) (hi : i < nP d) : gM l yX6_lengthOf cX6_lengthOf 2 (some .int) rm_X6_lengthOf D tc A [.ref (ad 0), .int (nI i)] w (fun v w' => v = some (.int (nI (lenN d i))) ∧ w' = w) (fun _ => False) := by
  refine gM_of (by decide +kernel) (Nat.le_of_ble_eq_true rfl) ?_
  intro p e s m args below meth c ls Q hQ hE hG hr hnt hnm hl
  have hx := hE.1
  have hb := hE.2.1
  have hl : lv_has ls 2 [(0, .ref (ad 0)), (1, .int (nI i))] := hl
  obtain ⟨o0, o1, o2, o3, o4, o5, o6, o7, o8, o9, o10⟩ := hM
  refine lv_aload_n hx hb dX6_lengthOf_0 rfl (lv_at hl 0 rfl) ?_
  refine g_get hE hG o0 rfl inG6 0 (by decide) mw3_187 rfl dX6_lengthOf_1 ?_
  refine lv_aload_n hx hb dX6_lengthOf_4 rfl (lv_at hl 0 rfl) ?_
  refine g_get hE hG o0 rfl inG6 2 (by decide) mw3_189 rfl dX6_lengthOf_5 ?_
  refine lv_iload_n hx hb dX6_lengthOf_8 rfl (lv_at hl 1 rfl) ?_
  refine g_iald hE hG o2 (vp_in_nI (by have := hOk.1.2.1; omega) (by decide)) dX6_lengthOf_9 ?_
  refine g_iald hE hG o1 (mOk_f hOk hi) dX6_lengthOf_10 ?_
  subst hQ
  exact g_iret hE hG hr (Nat.le_of_ble_eq_true rfl) (Nat.le_of_ble_eq_true rfl) dX6_lengthOf_11 ⟨by rw [nI_clamp (by have := hOk.1.2.1; omega), (mOk_len hOk hi).1], rfl⟩
def m_isPlace (d : gDt) (x y : Int32) : Int32 := if m_isPiece d x = 0 then 0 else if f_in y 1 (nI (lenN d x.toNatClampNeg)) = 0 then 0 else 1
theorem m_isPlace_b (d : gDt) (x y : Int32) : m_isPlace d x y = 0 ∨ m_isPlace d x y = 1 := by
  unfold m_isPlace
  repeat' split
  all_goals first | exact Or.inl rfl | exact Or.inr rfl
abbrev rm_X6_isPlace : Room := { frames := 3, cells := 0, slots := 0, locals := 122 }
theorem nm_X6_isPlace : gNm yX6_isPlace 2 := ⟨by decide +kernel, by decide +kernel, by decide +kernel⟩
set_option maxHeartbeats 4000000 in
set_option maxRecDepth 100000 in
theorem c_X6_isPlace (l : Launch) (hfl : l.stackTraces = false) (D : va_G) (tc : Nat → ClassId) (A : Nat → Prop) (w : gW) (ad : Nat → Nat) (d : gDt) (tk : Int64) (st : Nat → Int64) (x : Int32) (y : Int32) (hM : mW tc w ad d tk st) (hOk : mOk d) : gM l yX6_isPlace cX6_isPlace 3 (some .boolean) rm_X6_isPlace D tc A [.ref (ad 0), .int x, .int y] w (fun v w' => v = some (.int (m_isPlace d x y)) ∧ w' = w) (fun _ => False) := by
  refine gM_of (by decide +kernel) (Nat.le_of_ble_eq_true rfl) ?_
  intro p e s m args below meth c ls Q hQ hE hG hr hnt hnm hl
  have hx := hE.1
  have hb := hE.2.1
  have hl : lv_has ls 3 [(0, .ref (ad 0)), (1, .int x), (2, .int y)] := hl
  obtain ⟨o0, o1, o2, o3, o4, o5, o6, o7, o8, o9, o10⟩ := hM
  refine lv_aload_n hx hb dX6_isPlace_0 rfl (lv_at hl 0 rfl) ?_
  refine lv_iload_n hx hb dX6_isPlace_1 rfl (lv_at hl 1 rfl) ?_
  refine g_callV (rest := []) (As := [.int x]) hE hG hl.1 (c_X6_isPiece l hfl D tc A w ad d tk st x ⟨o0, o1, o2, o3, o4, o5, o6, o7, o8, o9, o10⟩ ) o0 rfl mw4_62 mw4_64 mws_15 mw1_4 mw4_65 rfl nm_X6_isPiece ⟨⟨Nat.le_of_ble_eq_true rfl, Nat.le_of_ble_eq_true rfl⟩, Nat.le_of_ble_eq_true rfl, Nat.le_of_ble_eq_true rfl⟩ rfl rfl (Nat.le_of_ble_eq_true rfl) dX6_isPlace_2 (g_no) ?_
  intro v9 w9 H locs h9 hG
  obtain ⟨e9, f9⟩ := h9
  rw [f9] at hG; rw [e9]; clear e9 f9
  show W p l e _ s m args below meth c H locs _ _ _ (F0 m 5 ls [.int (m_isPiece d x)])
  refine lv_if_eq (tgt := 25) hx hb dX6_isPlace_5 (by decide) (fun c_1 => ?_) (fun c_1 => ?_)
  · skip
    refine lv_iconst (v := 0) hx hb dX6_isPlace_25 (by decide) ?_
    subst hQ
    exact g_zret hE hG hr (by decide) (Nat.le_of_ble_eq_true rfl) (Nat.le_of_ble_eq_true rfl) dX6_isPlace_26 ⟨by unfold m_isPlace; rw [if_pos c_1], rfl⟩
  · skip
    obtain ⟨i, hi, hxi⟩ := m_isPiece_ne hOk c_1
    subst hxi
    refine lv_iload_n hx hb dX6_isPlace_8 rfl (lv_at hl 2 rfl) ?_
    refine lv_iconst (v := 1) hx hb dX6_isPlace_9 (by decide) ?_
    refine lv_aload_n hx hb dX6_isPlace_10 rfl (lv_at hl 0 rfl) ?_
    refine lv_iload_n hx hb dX6_isPlace_11 rfl (lv_at hl 1 rfl) ?_
    refine g_callV (rest := [.int 1, .int y]) (As := [.int (nI i)]) hE hG hl.1 (c_X6_lengthOf l hfl D tc A w ad d tk st i ⟨o0, o1, o2, o3, o4, o5, o6, o7, o8, o9, o10⟩ hOk hi) o0 rfl mw4_66 mw4_68 mws_16 mw1_4 mw4_69 rfl nm_X6_lengthOf ⟨⟨Nat.le_of_ble_eq_true rfl, Nat.le_of_ble_eq_true rfl⟩, Nat.le_of_ble_eq_true rfl, Nat.le_of_ble_eq_true rfl⟩ rfl rfl (Nat.le_of_ble_eq_true rfl) dX6_isPlace_12 (g_no) ?_
    intro v9 w9 H locs h9 hG
    obtain ⟨e9, f9⟩ := h9
    rw [f9] at hG; rw [e9]; clear e9 f9
    show W p l e _ s m args below meth c H locs _ _ _ (F0 m 15 ls [.int (nI (lenN d i)), .int 1, .int y])
    refine g_callS (rest := []) (As := [.int y, .int 1, .int (nI (lenN d i))]) hE hG hl.1 (c_X6_in l hfl D tc A w y 1 (nI (lenN d i)) ) mw4_35 mw4_36 mw1_4 mw4_37 nm_X6_in ⟨⟨Nat.le_of_ble_eq_true rfl, Nat.le_of_ble_eq_true rfl⟩, Nat.le_of_ble_eq_true rfl, Nat.le_of_ble_eq_true rfl⟩ rfl rfl (Nat.le_of_ble_eq_true rfl) dX6_isPlace_15 (g_no) ?_
    intro v9 w9 H locs h9 hG
    obtain ⟨e9, f9⟩ := h9
    rw [f9] at hG; rw [e9]; clear e9 f9
    show W p l e _ s m args below meth c H locs _ _ _ (F0 m 18 ls [.int (f_in y 1 (nI (lenN d i)))])
    refine lv_if_eq (tgt := 25) hx hb dX6_isPlace_18 (by decide) (fun c_2 => ?_) (fun c_2 => ?_)
    · skip
      refine lv_iconst (v := 0) hx hb dX6_isPlace_25 (by decide) ?_
      subst hQ
      exact g_zret hE hG hr (by decide) (Nat.le_of_ble_eq_true rfl) (Nat.le_of_ble_eq_true rfl) dX6_isPlace_26 ⟨by unfold m_isPlace; rw [if_neg c_1, nI_clamp (by have := hOk.1.2.1; omega), if_pos c_2], rfl⟩
    · skip
      refine lv_iconst (v := 1) hx hb dX6_isPlace_21 (by decide) ?_
      refine lv_goto (tgt := 26) hx hb dX6_isPlace_22 (by decide) ?_
      subst hQ
      exact g_zret hE hG hr (by decide) (Nat.le_of_ble_eq_true rfl) (Nat.le_of_ble_eq_true rfl) dX6_isPlace_26 ⟨by unfold m_isPlace; rw [if_neg c_1, nI_clamp (by have := hOk.1.2.1; omega), if_neg c_2], rfl⟩
theorem m_isPlace_ne {d : gDt} {x y : Int32} (hd : mOk d) (h : ¬ m_isPlace d x y = 0) : ∃ i j, i < nP d ∧ 1 ≤ j ∧ j ≤ lenN d i ∧ x = nI i ∧ y = nI j := by
  unfold m_isPlace at h
  by_cases h1 : m_isPiece d x = 0
  · rw [if_pos h1] at h; exact absurd rfl h
  · rw [if_neg h1] at h
    obtain ⟨i, hi, rfl⟩ := m_isPiece_ne hd h1
    have hp := hd.1.2.1
    rw [nI_clamp (by omega)] at h
    by_cases h2 : f_in y 1 (nI (lenN d i)) = 0
    · rw [if_pos h2] at h; exact absurd rfl h
    · obtain ⟨h3, h4⟩ := f_in_ne h2
      obtain ⟨j, hj1, hj2, rfl⟩ := nI_bet (a := 1) (b := lenN d i) (by have := (mOk_len hd hi).2.2.1; omega) h3 h4 (by decide)
      exact ⟨i, j, hi, hj1, hj2, rfl, rfl⟩
theorem m_isPlace_of {d : gDt} {i j : Nat} (hd : mOk d) (hi : i < nP d) (h1 : 1 ≤ j) (h2 : j ≤ lenN d i) : m_isPlace d (nI i) (nI j) = 1 := by
  have hp := hd.1.2.1
  have hl := (mOk_len hd hi).2.2.1
  unfold m_isPlace m_isPiece
  have e : f_in (nI i) 0 (d 9 1 - 1) = 1 := by
    rw [hd.2.1.2.1, show nI (nP d) - 1 = nI (nP d - 1) by rw [show nP d = (nP d - 1) + 1 by omega, nI_pred, Nat.add_sub_cancel]]
    exact f_in_nI (b := 0) (by omega) (by omega) (by omega) (by omega) (by omega)
  rw [e, if_neg (by decide), nI_clamp (by omega), show (1 : Int32) = nI 1 from rfl, f_in_nI (by omega) (by omega) (by omega) h1 h2, if_neg (by decide)]
def m_pos (T : Nat → Int32) (i n : Nat) : Nat → Nat → Nat
  | 0, y => y
  | k + 1, y => if T (65 * i + y) = 0 then m_pos T i n k (if y = 1 then n else y - 1) else y
def m_snd (d : gDt) (i y : Nat) : Int32 := d 3 (65 * i + m_pos (d 3) i (lenN d i) (lenN d i) y)
theorem m_ix {i y : Nat} (hi : i < 6) (hy : y ≤ 64) : (65 : Int32) * nI i + nI y = nI (65 * i + y) := by
  rw [show (65 : Int32) = nI 65 from rfl, pk_mul, nI_add]
theorem m_ixin {i y : Nat} (hi : i < 6) (hy : y ≤ 64) : vp_in ((65 : Int32) * nI i + nI y) 390 := by
  rw [m_ix hi hy]
  exact vp_in_nI (by omega) (by decide)
theorem m_ixc {i y : Nat} (hi : i < 6) (hy : y ≤ 64) : ((65 : Int32) * nI i + nI y).toNatClampNeg = 65 * i + y := by
  rw [m_ix hi hy, nI_clamp (by omega)]
theorem m_y1 {y : Nat} (hy : y < 2 ^ 31) (h : nI y = 1) : y = 1 := (nI_eq (b := 1) hy (by decide)).mp h
abbrev rm_X6_soundOf : Room := { frames := 2, cells := 0, slots := 0, locals := 86 }
theorem nm_X6_soundOf : gNm yX6_soundOf 2 := ⟨by decide +kernel, by decide +kernel, by decide +kernel⟩
set_option maxHeartbeats 4000000 in
set_option maxRecDepth 100000 in
theorem c_X6_soundOf (l : Launch) (hfl : l.stackTraces = false) (D : va_G) (tc : Nat → ClassId) (A : Nat → Prop) (w : gW) (ad : Nat → Nat) (d : gDt) (tk : Int64) (st : Nat → Int64) (i : Nat) (z : Nat) (hM : mW tc w ad d tk st) (hOk : mOk d) (hi : i < nP d) (hz : 1 ≤ z ∧ z ≤ lenN d i) : gM l yX6_soundOf cX6_soundOf 5 (some .int) rm_X6_soundOf D tc A [.ref (ad 0), .int (nI i), .int (nI z)] w (fun v w' => v = some (.int (m_snd d i z)) ∧ w' = w) (fun _ => False) := by
  refine gM_of (by decide +kernel) (Nat.le_of_ble_eq_true rfl) ?_
  intro p e s m args below meth c ls Q hQ hE hG hr hnt hnm hl
  have hx := hE.1
  have hb := hE.2.1
  have hl : lv_has ls 5 [(0, .ref (ad 0)), (1, .int (nI i)), (2, .int (nI z))] := hl
  obtain ⟨o0, o1, o2, o3, o4, o5, o6, o7, o8, o9, o10⟩ := hM
  refine lv_iload_n hx hb dX6_soundOf_0 rfl (lv_at hl 2 rfl) ?_
  refine lv_istore_n (lv' := [(3, .int (nI z)), (0, .ref (ad 0)), (1, .int (nI i)), (2, .int (nI z))]) hx hb dX6_soundOf_1 rfl hl (by decide) rfl (fun ls hl => ?_)
  refine lv_iconst (v := 0) hx hb dX6_soundOf_2 (by decide) ?_
  refine lv_istore (lv' := [(4, .int 0), (3, .int (nI z)), (0, .ref (ad 0)), (1, .int (nI i)), (2, .int (nI z))]) hx hb dX6_soundOf_3 hl (by decide) rfl (fun ls hl => ?_)
  have hn := (mOk_len hOk hi).2.2.1
  have hl : lv_has ls 5 [(4, .int (nI (lenN d i - lenN d i))), (3, .int (nI z)), (0, .ref (ad 0)), (1, .int (nI i)), (2, .int (nI z))] := by rw [Nat.sub_self]; exact hl
  have hloop_1 : ∀ (k : Nat) (y : Nat) (H : Heap) (locs : List Loc) (ls : Array Slot), k ≤ lenN d i → 1 ≤ y ∧ y ≤ lenN d i → m_pos (d 3) i (lenN d i) k y = m_pos (d 3) i (lenN d i) (lenN d i) z → gS D A s.heap w H locs → lv_has ls 5 [(4, .int (nI (lenN d i - k))), (3, .int (nI y)), (0, .ref (ad 0)), (1, .int (nI i)), (2, .int (nI z))] → W p l e rm_X6_soundOf s m args below meth c H locs 0 0 Q (F0 m 5 ls []) := by
    intro k
    induction k with
    | zero =>
      intro y H locs ls hk hy hres hG hl
      refine lv_iload hx hb dX6_soundOf_5 (lv_at hl 0 rfl) ?_
      refine lv_aload_n hx hb dX6_soundOf_7 rfl (lv_at hl 2 rfl) ?_
      refine lv_iload_n hx hb dX6_soundOf_8 rfl (lv_at hl 3 rfl) ?_
      refine g_callV (rest := [.int (nI (lenN d i - 0))]) (As := [.int (nI i)]) hE hG hl.1 (c_X6_lengthOf l hfl D tc A w ad d tk st i ⟨o0, o1, o2, o3, o4, o5, o6, o7, o8, o9, o10⟩ hOk hi) o0 rfl mw4_66 mw4_68 mws_16 mw1_4 mw4_69 rfl nm_X6_lengthOf ⟨⟨Nat.le_of_ble_eq_true rfl, Nat.le_of_ble_eq_true rfl⟩, Nat.le_of_ble_eq_true rfl, Nat.le_of_ble_eq_true rfl⟩ rfl rfl (Nat.le_of_ble_eq_true rfl) dX6_soundOf_9 (g_no) ?_
      intro v9 w9 H locs h9 hG
      obtain ⟨e9, f9⟩ := h9
      rw [f9] at hG; rw [e9]; clear e9 f9
      show W p l e _ s m args below meth c H locs _ _ _ (F0 m 12 ls [.int (nI (lenN d i)), .int (nI (lenN d i - 0))])
      refine lv_icmp_ge (tgt := 52) hx hb dX6_soundOf_12 (by decide) (fun c9 => ?_) (fun c9 => (c9 (nI_le (by omega) (by omega))).elim)
      refine lv_aload_n hx hb dX6_soundOf_52 rfl (lv_at hl 2 rfl) ?_
      refine g_get hE hG o0 rfl inG6 4 (by decide) mw3_191 rfl dX6_soundOf_53 ?_
      refine lv_bipush (v := 65) hx hb dX6_soundOf_56 (by decide) ?_
      refine lv_iload_n hx hb dX6_soundOf_58 rfl (lv_at hl 3 rfl) ?_
      refine lv_imul hx hb dX6_soundOf_59 ?_
      refine lv_iload_n hx hb dX6_soundOf_60 rfl (lv_at hl 1 rfl) ?_
      refine lv_iadd hx hb dX6_soundOf_61 ?_
      refine g_iald hE hG o4 (m_ixin (by have := hOk.1.2.1; omega) (by have := (mOk_len hOk hi).2.2.1; omega)) dX6_soundOf_62 ?_
      subst hQ
      exact g_iret hE hG hr (Nat.le_of_ble_eq_true rfl) (Nat.le_of_ble_eq_true rfl) dX6_soundOf_63 ⟨by unfold m_snd; rw [← hres, m_ixc (by have := hOk.1.2.1; omega) (by omega)]; rfl, rfl⟩
    | succ k ih =>
      intro y H locs ls hk hy hres hG hl
      refine lv_iload hx hb dX6_soundOf_5 (lv_at hl 0 rfl) ?_
      refine lv_aload_n hx hb dX6_soundOf_7 rfl (lv_at hl 2 rfl) ?_
      refine lv_iload_n hx hb dX6_soundOf_8 rfl (lv_at hl 3 rfl) ?_
      refine g_callV (rest := [.int (nI (lenN d i - (k + 1)))]) (As := [.int (nI i)]) hE hG hl.1 (c_X6_lengthOf l hfl D tc A w ad d tk st i ⟨o0, o1, o2, o3, o4, o5, o6, o7, o8, o9, o10⟩ hOk hi) o0 rfl mw4_66 mw4_68 mws_16 mw1_4 mw4_69 rfl nm_X6_lengthOf ⟨⟨Nat.le_of_ble_eq_true rfl, Nat.le_of_ble_eq_true rfl⟩, Nat.le_of_ble_eq_true rfl, Nat.le_of_ble_eq_true rfl⟩ rfl rfl (Nat.le_of_ble_eq_true rfl) dX6_soundOf_9 (g_no) ?_
      intro v9 w9 H locs h9 hG
      obtain ⟨e9, f9⟩ := h9
      rw [f9] at hG; rw [e9]; clear e9 f9
      show W p l e _ s m args below meth c H locs _ _ _ (F0 m 12 ls [.int (nI (lenN d i)), .int (nI (lenN d i - (k + 1)))])
      refine lv_icmp_ge (tgt := 52) hx hb dX6_soundOf_12 (by decide) (fun c9 => absurd c9 (nI_ge (by omega) (by omega))) (fun c9 => ?_)
      refine lv_aload_n hx hb dX6_soundOf_15 rfl (lv_at hl 2 rfl) ?_
      refine g_get hE hG o0 rfl inG6 4 (by decide) mw3_191 rfl dX6_soundOf_16 ?_
      refine lv_bipush (v := 65) hx hb dX6_soundOf_19 (by decide) ?_
      refine lv_iload_n hx hb dX6_soundOf_21 rfl (lv_at hl 3 rfl) ?_
      refine lv_imul hx hb dX6_soundOf_22 ?_
      refine lv_iload_n hx hb dX6_soundOf_23 rfl (lv_at hl 1 rfl) ?_
      refine lv_iadd hx hb dX6_soundOf_24 ?_
      refine g_iald hE hG o4 (m_ixin (by have := hOk.1.2.1; omega) (by have := (mOk_len hOk hi).2.2.1; omega)) dX6_soundOf_25 ?_
      refine lv_if_ne (tgt := 52) hx hb dX6_soundOf_26 (by decide) (fun c_2 => ?_) (fun c_2 => ?_)
      · skip
        refine lv_aload_n hx hb dX6_soundOf_52 rfl (lv_at hl 2 rfl) ?_
        refine g_get hE hG o0 rfl inG6 4 (by decide) mw3_191 rfl dX6_soundOf_53 ?_
        refine lv_bipush (v := 65) hx hb dX6_soundOf_56 (by decide) ?_
        refine lv_iload_n hx hb dX6_soundOf_58 rfl (lv_at hl 3 rfl) ?_
        refine lv_imul hx hb dX6_soundOf_59 ?_
        refine lv_iload_n hx hb dX6_soundOf_60 rfl (lv_at hl 1 rfl) ?_
        refine lv_iadd hx hb dX6_soundOf_61 ?_
        refine g_iald hE hG o4 (m_ixin (by have := hOk.1.2.1; omega) (by have := (mOk_len hOk hi).2.2.1; omega)) dX6_soundOf_62 ?_
        subst hQ
        exact g_iret hE hG hr (Nat.le_of_ble_eq_true rfl) (Nat.le_of_ble_eq_true rfl) dX6_soundOf_63 ⟨by unfold m_snd; rw [← hres, m_ixc (by have := hOk.1.2.1; omega) (by omega)]; show _ = some (Value.int (d 3 (65 * i + (if _ then _ else _)))); rw [if_neg (fun h => c_2 (by rw [m_ixc (by have := hOk.1.2.1; omega) (by omega)]; exact h))], rfl⟩
      · skip
        refine lv_iload_n hx hb dX6_soundOf_29 rfl (lv_at hl 1 rfl) ?_
        refine lv_iconst (v := 1) hx hb dX6_soundOf_30 (by decide) ?_
        refine lv_icmp_ne (tgt := 42) hx hb dX6_soundOf_31 (by decide) (fun c_3 => ?_) (fun c_3 => ?_)
        · skip
          refine lv_iload_n hx hb dX6_soundOf_42 rfl (lv_at hl 1 rfl) ?_
          refine lv_iconst (v := 1) hx hb dX6_soundOf_43 (by decide) ?_
          refine lv_isub hx hb dX6_soundOf_44 ?_
          rw [show (nI y - 1) = nI (y - 1) by rw [show y = (y - 1) + 1 by omega, nI_pred, Nat.add_sub_cancel]]
          refine lv_istore_n (lv' := [(3, .int (nI (y - 1))), (4, .int (nI (lenN d i - (k + 1)))), (0, .ref (ad 0)), (1, .int (nI i)), (2, .int (nI z))]) hx hb dX6_soundOf_45 rfl hl (by decide) rfl (fun ls hl => ?_)
          refine lv_iinc (v := (nI (lenN d i - k))) (lv' := [(4, .int (nI (lenN d i - k))), (3, .int (nI (y - 1))), (0, .ref (ad 0)), (1, .int (nI i)), (2, .int (nI z))]) hx hb dX6_soundOf_46 hl (k := 1) rfl (by rw [show lenN d i - k = (lenN d i - (k + 1)) + 1 by omega]; exact nI_1 _) (by decide) rfl (fun ls hl => ?_)
          refine lv_goto (tgt := 5) hx hb dX6_soundOf_49 (by decide) ?_
          exact ih (y - 1) _ _ _ (by omega) (by have h9 : ¬ y = 1 := fun h => c_3 (by rw [h]; rfl); omega) (by rw [← hres]; show _ = (if _ then _ else _); rw [if_pos (by rw [← m_ixc (by have := hOk.1.2.1; omega) (by omega)]; exact c_2), if_neg (fun h => c_3 (by rw [h]; rfl))]) hG (lv_sub hl [0, 1, 2, 3, 4] rfl)
        · skip
          refine lv_aload_n hx hb dX6_soundOf_34 rfl (lv_at hl 2 rfl) ?_
          refine lv_iload_n hx hb dX6_soundOf_35 rfl (lv_at hl 3 rfl) ?_
          refine g_callV (rest := []) (As := [.int (nI i)]) hE hG hl.1 (c_X6_lengthOf l hfl D tc A w ad d tk st i ⟨o0, o1, o2, o3, o4, o5, o6, o7, o8, o9, o10⟩ hOk hi) o0 rfl mw4_66 mw4_68 mws_16 mw1_4 mw4_69 rfl nm_X6_lengthOf ⟨⟨Nat.le_of_ble_eq_true rfl, Nat.le_of_ble_eq_true rfl⟩, Nat.le_of_ble_eq_true rfl, Nat.le_of_ble_eq_true rfl⟩ rfl rfl (Nat.le_of_ble_eq_true rfl) dX6_soundOf_36 (g_no) ?_
          intro v9 w9 H locs h9 hG
          obtain ⟨e9, f9⟩ := h9
          rw [f9] at hG; rw [e9]; clear e9 f9
          show W p l e _ s m args below meth c H locs _ _ _ (F0 m 39 ls [.int (nI (lenN d i))])
          refine lv_goto (tgt := 45) hx hb dX6_soundOf_39 (by decide) ?_
          refine lv_istore_n (lv' := [(3, .int (nI (lenN d i))), (4, .int (nI (lenN d i - (k + 1)))), (0, .ref (ad 0)), (1, .int (nI i)), (2, .int (nI z))]) hx hb dX6_soundOf_45 rfl hl (by decide) rfl (fun ls hl => ?_)
          refine lv_iinc (v := (nI (lenN d i - k))) (lv' := [(4, .int (nI (lenN d i - k))), (3, .int (nI (lenN d i))), (0, .ref (ad 0)), (1, .int (nI i)), (2, .int (nI z))]) hx hb dX6_soundOf_46 hl (k := 1) rfl (by rw [show lenN d i - k = (lenN d i - (k + 1)) + 1 by omega]; exact nI_1 _) (by decide) rfl (fun ls hl => ?_)
          refine lv_goto (tgt := 5) hx hb dX6_soundOf_49 (by decide) ?_
          exact ih (lenN d i) _ _ _ (by omega) (by omega) (by rw [← hres]; show _ = (if _ then _ else _); rw [if_pos (by rw [← m_ixc (by have := hOk.1.2.1; omega) (by omega)]; exact c_2), if_pos (m_y1 (by omega) c_3)]) hG (lv_sub hl [0, 1, 2, 3, 4] rfl)
  exact hloop_1 (lenN d i) z _ _ _ (Nat.le_refl _) hz rfl hG (lv_sub hl [0, 1, 2, 3, 4] rfl)
