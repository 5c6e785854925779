/-! Melody: an object with a row of tones -/
theorem mel_in {n : Nat} {x : Int32} (hn : n < 2 ^ 30) (h1 : ¬ x < 1) (h2 : ¬ nI n < x) : vp_in (x - 1) n := by
  have hN := nI_toInt (n := n) (by omega)
  rw [Int32.lt_iff_toInt_lt] at h1 h2
  rw [hN] at h2
  have e1 : (1 : Int32).toInt = 1 := by decide
  rw [e1] at h1
  rw [vp_in_iff, Int32.toInt_sub, e1, Int.bmod_eq_of_le (by omega) (by omega)]
  omega
abbrev rm_X1_length : Room := { frames := 1, cells := 0, slots := 0, locals := 50 }
theorem nm_X1_length : gNm yX1_length 0 := ⟨by decide +kernel, by decide +kernel, by decide +kernel⟩
set_option maxHeartbeats 4000000 in
set_option maxRecDepth 100000 in
theorem c_X1_length (l : Launch) (hfl : l.stackTraces = false) (D : va_G) (tc : Nat → ClassId) (A : Nat → Prop) (w : gW) (k0 : Nat) (k1 : Nat) (h0 : Nat) (t : Nat) (n : Nat) (f : Nat → Int32) (h1 : w k0 = some (h0, .inr (1, [.ref t]))) (h2 : w k1 = some (t, .inl (tc 0, n, .inl f))) : gM l yX1_length cX1_length 1 (some .int) rm_X1_length D tc A [.ref h0] w (fun v w' => v = some (.int (nI n)) ∧ w' = w) (fun _ => False) := by
  refine gM_of (by decide +kernel) (Nat.le_of_ble_eq_true rfl) ?_
  intro p e s m args below meth c ls Q hQ hE hG hr hnt hnm hl
  have hx := hE.1
  have hb := hE.2.1
  have hl : lv_has ls 1 [(0, .ref h0)] := hl
  refine lv_aload_n hx hb dX1_length_0 rfl (lv_at hl 0 rfl) ?_
  refine g_get hE hG h1 rfl inG1 0 (by decide) mw2_35 rfl dX1_length_1 ?_
  refine g_alen (t0 := 0) (v := (nI n)) hE hG h2 rfl rfl dX1_length_4 ?_
  subst hQ
  exact g_iret hE hG hr (Nat.le_of_ble_eq_true rfl) (Nat.le_of_ble_eq_true rfl) dX1_length_5 ⟨rfl, rfl⟩
def f_has (n : Nat) (x : Int32) : Int32 := (if x < 1 then 0 else (if (nI n) < x then 0 else 1))
abbrev rm_X1_hasPlace : Room := { frames := 1, cells := 0, slots := 0, locals := 50 }
theorem nm_X1_hasPlace : gNm yX1_hasPlace 1 := ⟨by decide +kernel, by decide +kernel, by decide +kernel⟩
set_option maxHeartbeats 4000000 in
set_option maxRecDepth 100000 in
theorem c_X1_hasPlace (l : Launch) (hfl : l.stackTraces = false) (D : va_G) (tc : Nat → ClassId) (A : Nat → Prop) (w : gW) (k0 : Nat) (k1 : Nat) (h0 : Nat) (t : Nat) (n : Nat) (f : Nat → Int32) (x : Int32) (h1 : w k0 = some (h0, .inr (1, [.ref t]))) (h2 : w k1 = some (t, .inl (tc 0, n, .inl f))) : gM l yX1_hasPlace cX1_hasPlace 2 (some .boolean) rm_X1_hasPlace D tc A [.ref h0, .int x] w (fun v w' => v = some (.int (f_has n x)) ∧ w' = w) (fun _ => False) := by
  refine gM_of (by decide +kernel) (Nat.le_of_ble_eq_true rfl) ?_
  intro p e s m args below meth c ls Q hQ hE hG hr hnt hnm hl
  have hx := hE.1
  have hb := hE.2.1
  have hl : lv_has ls 2 [(0, .ref h0), (1, .int x)] := hl
  refine lv_iload_n hx hb dX1_hasPlace_0 rfl (lv_at hl 1 rfl) ?_
  refine lv_iconst (v := 1) hx hb dX1_hasPlace_1 (by decide) ?_
  refine lv_icmp_lt (tgt := 18) hx hb dX1_hasPlace_2 (by decide) (fun c_1 => ?_) (fun c_1 => ?_)
  · skip
    refine lv_iconst (v := 0) hx hb dX1_hasPlace_18 (by decide) ?_
    subst hQ
    exact g_zret hE hG hr (by decide) (Nat.le_of_ble_eq_true rfl) (Nat.le_of_ble_eq_true rfl) dX1_hasPlace_19 ⟨by unfold f_has; rw [if_pos c_1], rfl⟩
  · skip
    refine lv_iload_n hx hb dX1_hasPlace_5 rfl (lv_at hl 1 rfl) ?_
    refine lv_aload_n hx hb dX1_hasPlace_6 rfl (lv_at hl 0 rfl) ?_
    refine g_get hE hG h1 rfl inG1 0 (by decide) mw2_35 rfl dX1_hasPlace_7 ?_
    refine g_alen (t0 := 0) (v := (nI n)) hE hG h2 rfl rfl dX1_hasPlace_10 ?_
    refine lv_icmp_gt (tgt := 18) hx hb dX1_hasPlace_11 (by decide) (fun c_2 => ?_) (fun c_2 => ?_)
    · skip
      refine lv_iconst (v := 0) hx hb dX1_hasPlace_18 (by decide) ?_
      subst hQ
      exact g_zret hE hG hr (by decide) (Nat.le_of_ble_eq_true rfl) (Nat.le_of_ble_eq_true rfl) dX1_hasPlace_19 ⟨by unfold f_has; rw [if_neg c_1, if_pos c_2], rfl⟩
    · skip
      refine lv_iconst (v := 1) hx hb dX1_hasPlace_14 (by decide) ?_
      refine lv_goto (tgt := 19) hx hb dX1_hasPlace_15 (by decide) ?_
      subst hQ
      exact g_zret hE hG hr (by decide) (Nat.le_of_ble_eq_true rfl) (Nat.le_of_ble_eq_true rfl) dX1_hasPlace_19 ⟨by unfold f_has; rw [if_neg c_1, if_neg c_2], rfl⟩
theorem f_has_ne {n : Nat} {x : Int32} (h : ¬ f_has n x = 0) : ¬ x < 1 ∧ ¬ nI n < x := by
  unfold f_has at h
  by_cases h1 : x < 1
  · rw [if_pos h1] at h; exact absurd rfl h
  · rw [if_neg h1] at h
    by_cases h2 : nI n < x
    · rw [if_pos h2] at h; exact absurd rfl h
    · exact ⟨h1, h2⟩
def f_at (n : Nat) (f : Nat → Int32) (x : Int32) : Int32 := (if (f_has n x) = 0 then 0 else (f (x - 1).toNatClampNeg))
abbrev rm_X1_at : Room := { frames := 2, cells := 0, slots := 0, locals := 86 }
theorem nm_X1_at : gNm yX1_at 1 := ⟨by decide +kernel, by decide +kernel, by decide +kernel⟩
set_option maxHeartbeats 4000000 in
set_option maxRecDepth 100000 in
theorem c_X1_at (l : Launch) (hfl : l.stackTraces = false) (D : va_G) (tc : Nat → ClassId) (A : Nat → Prop) (w : gW) (k0 : Nat) (k1 : Nat) (h0 : Nat) (t : Nat) (n : Nat) (f : Nat → Int32) (x : Int32) (h1 : w k0 = some (h0, .inr (1, [.ref t]))) (h2 : w k1 = some (t, .inl (tc 0, n, .inl f))) (hn : n < 2 ^ 30) : gM l yX1_at cX1_at 2 (some .int) rm_X1_at D tc A [.ref h0, .int x] w (fun v w' => v = some (.int (f_at n f x)) ∧ w' = w) (fun _ => False) := by
  refine gM_of (by decide +kernel) (Nat.le_of_ble_eq_true rfl) ?_
  intro p e s m args below meth c ls Q hQ hE hG hr hnt hnm hl
  have hx := hE.1
  have hb := hE.2.1
  have hl : lv_has ls 2 [(0, .ref h0), (1, .int x)] := hl
  refine lv_aload_n hx hb dX1_at_0 rfl (lv_at hl 0 rfl) ?_
  refine lv_iload_n hx hb dX1_at_1 rfl (lv_at hl 1 rfl) ?_
  refine g_callV (rest := []) (As := [.int x]) hE hG hl.1 (c_X1_hasPlace l hfl D tc A w k0 k1 h0 t n f x h1 h2 ) h1 rfl mw2_82 mw2_66 mw2_67 mw1_11 mw2_68 rfl nm_X1_hasPlace ⟨⟨Nat.le_of_ble_eq_true rfl, Nat.le_of_ble_eq_true rfl⟩, Nat.le_of_ble_eq_true rfl, Nat.le_of_ble_eq_true rfl⟩ rfl rfl (Nat.le_of_ble_eq_true rfl) dX1_at_2 (g_no) ?_
  intro v9 w9 H locs h9 hG
  obtain ⟨e9, f9⟩ := h9
  rw [f9] at hG; rw [e9]; clear e9 f9
  show W p l e _ s m args below meth c H locs _ _ _ (F0 m 5 ls [.int (f_has n x)])
  refine lv_if_eq (tgt := 19) hx hb dX1_at_5 (by decide) (fun c_1 => ?_) (fun c_1 => ?_)
  · skip
    refine lv_iconst (v := 0) hx hb dX1_at_19 (by decide) ?_
    subst hQ
    exact g_iret hE hG hr (Nat.le_of_ble_eq_true rfl) (Nat.le_of_ble_eq_true rfl) dX1_at_20 ⟨by unfold f_at; rw [if_pos c_1], rfl⟩
  · skip
    refine lv_aload_n hx hb dX1_at_8 rfl (lv_at hl 0 rfl) ?_
    refine g_get hE hG h1 rfl inG1 0 (by decide) mw2_35 rfl dX1_at_9 ?_
    refine lv_iload_n hx hb dX1_at_12 rfl (lv_at hl 1 rfl) ?_
    refine lv_iconst (v := 1) hx hb dX1_at_13 (by decide) ?_
    refine lv_isub hx hb dX1_at_14 ?_
    refine g_iald hE hG h2 (mel_in hn (f_has_ne c_1).1 (f_has_ne c_1).2) dX1_at_15 ?_
    refine lv_goto (tgt := 20) hx hb dX1_at_16 (by decide) ?_
    subst hQ
    exact g_iret hE hG hr (Nat.le_of_ble_eq_true rfl) (Nat.le_of_ble_eq_true rfl) dX1_at_20 ⟨by unfold f_at; rw [if_neg c_1], rfl⟩
def f_snd (n : Nat) (f : Nat → Int32) : Nat → Int32 → Int32
  | 0, _ => 0
  | k + 1, y => if f_at n f y = 0 then f_snd n f k (if y ≤ 1 then nI n else y - 1) else f_at n f y
theorem gU_self {w : gW} {k : Nat} {x : Nat × va_E} (h : w k = some x) : gU w k x = w := by
  funext j
  by_cases hj : j = k
  · subst hj; rw [gU_same, h]
  · rw [gU_ne _ _ hj]
theorem gU_gU (w : gW) (k : Nat) (x y : Nat × va_E) : gU (gU w k x) k y = gU w k y := by
  funext j
  by_cases hj : j = k
  · subst hj; rw [gU_same, gU_same]
  · rw [gU_ne _ _ hj, gU_ne _ _ hj, gU_ne _ _ hj]
theorem gU_sw {w : gW} {a b : Nat} {x y z : Nat × va_E} (h : a ≠ b) : gU (gU (gU w a x) b y) a z = gU (gU w a z) b y := by
  funext j
  by_cases ha : j = a
  · subst ha; rw [gU_same, gU_ne _ _ h, gU_same]
  · by_cases hb : j = b
    · subst hb; rw [gU_ne _ _ ha, gU_same, gU_same]
    · rw [gU_ne _ _ ha, gU_ne _ _ hb, gU_ne _ _ ha, gU_ne _ _ hb, gU_ne _ _ ha]
theorem gU_cm {w : gW} {a b : Nat} {x y : Nat × va_E} (h : a ≠ b) : gU (gU w a x) b y = gU (gU w b y) a x := by
  funext j
  by_cases ha : j = a
  · subst ha; rw [gU_ne _ _ h, gU_same, gU_same]
  · by_cases hb : j = b
    · subst hb; rw [gU_same, gU_ne _ _ ha, gU_same]
    · rw [gU_ne _ _ hb, gU_ne _ _ ha, gU_ne _ _ ha, gU_ne _ _ hb]
abbrev rm_X1_soundAt : Room := { frames := 3, cells := 0, slots := 0, locals := 122 }
theorem nm_X1_soundAt : gNm yX1_soundAt 1 := ⟨by decide +kernel, by decide +kernel, by decide +kernel⟩
set_option maxHeartbeats 4000000 in
set_option maxRecDepth 100000 in
theorem c_X1_soundAt (l : Launch) (hfl : l.stackTraces = false) (D : va_G) (tc : Nat → ClassId) (A : Nat → Prop) (w : gW) (k0 : Nat) (k1 : Nat) (h0 : Nat) (t : Nat) (n : Nat) (f : Nat → Int32) (x : Int32) (h1 : w k0 = some (h0, .inr (1, [.ref t]))) (h2 : w k1 = some (t, .inl (tc 0, n, .inl f))) (hn : n < 2 ^ 30) : gM l yX1_soundAt cX1_soundAt 4 (some .int) rm_X1_soundAt D tc A [.ref h0, .int x] w (fun v w' => v = some (.int (f_snd n f n x)) ∧ w' = w) (fun _ => False) := by
  refine gM_of (by decide +kernel) (Nat.le_of_ble_eq_true rfl) ?_
  intro p e s m args below meth c ls Q hQ hE hG hr hnt hnm hl
  have hx := hE.1
  have hb := hE.2.1
  have hl : lv_has ls 4 [(0, .ref h0), (1, .int x)] := hl
  refine lv_iload_n hx hb dX1_soundAt_0 rfl (lv_at hl 1 rfl) ?_
  refine lv_istore_n (lv' := [(2, .int x), (0, .ref h0), (1, .int x)]) hx hb dX1_soundAt_1 rfl hl (by decide) rfl (fun ls hl => ?_)
  refine lv_aload_n hx hb dX1_soundAt_2 rfl (lv_at hl 1 rfl) ?_
  refine g_get hE hG h1 rfl inG1 0 (by decide) mw2_35 rfl dX1_soundAt_3 ?_
  refine g_alen (t0 := 0) (v := (nI n)) hE hG h2 rfl rfl dX1_soundAt_6 ?_
  refine lv_istore_n (lv' := [(3, .int (nI n)), (2, .int x), (0, .ref h0), (1, .int x)]) hx hb dX1_soundAt_7 rfl hl (by decide) rfl (fun ls hl => ?_)
  have hloop_1 : ∀ (k : Nat) (y : Int32) (H : Heap) (locs : List Loc) (ls : Array Slot), k ≤ n → f_snd n f k y = f_snd n f n x → gS D A s.heap w H locs → lv_has ls 4 [(3, .int (nI k)), (2, .int y), (0, .ref h0), (1, .int x)] → W p l e rm_X1_soundAt s m args below meth c H locs 0 0 Q (F0 m 8 ls []) := by
    intro k
    induction k with
    | zero =>
      intro y H locs ls hk hy hG hl
      refine lv_iload_n hx hb dX1_soundAt_8 rfl (lv_at hl 0 rfl) ?_
      refine lv_if_le (tgt := 49) hx hb dX1_soundAt_9 (by decide) (fun c9 => ?_) (fun c9 => (c9 (by decide)).elim)
      refine lv_iconst (v := 0) hx hb dX1_soundAt_49 (by decide) ?_
      subst hQ
      exact g_iret hE hG hr (Nat.le_of_ble_eq_true rfl) (Nat.le_of_ble_eq_true rfl) dX1_soundAt_50 ⟨by rw [← hy]; rfl, rfl⟩
    | succ k ih =>
      intro y H locs ls hk hy hG hl
      refine lv_iload_n hx hb dX1_soundAt_8 rfl (lv_at hl 0 rfl) ?_
      refine lv_if_le (tgt := 49) hx hb dX1_soundAt_9 (by decide) (fun c9 => absurd c9 (nI_nle (Nat.succ_pos k) (by omega))) (fun c9 => ?_)
      refine lv_aload_n hx hb dX1_soundAt_12 rfl (lv_at hl 2 rfl) ?_
      refine lv_iload_n hx hb dX1_soundAt_13 rfl (lv_at hl 1 rfl) ?_
      refine g_callV (rest := []) (As := [.int y]) hE hG hl.1 (c_X1_at l hfl D tc A w k0 k1 h0 t n f y h1 h2 hn) h1 rfl mw2_78 mw2_79 mw2_80 mw1_11 mw2_81 rfl nm_X1_at ⟨⟨Nat.le_of_ble_eq_true rfl, Nat.le_of_ble_eq_true rfl⟩, Nat.le_of_ble_eq_true rfl, Nat.le_of_ble_eq_true rfl⟩ rfl rfl (Nat.le_of_ble_eq_true rfl) dX1_soundAt_14 (g_no) ?_
      intro v9 w9 H locs h9 hG
      obtain ⟨e9, f9⟩ := h9
      rw [f9] at hG; rw [e9]; clear e9 f9
      show W p l e _ s m args below meth c H locs _ _ _ (F0 m 17 ls [.int (f_at n f y)])
      refine lv_if_eq (tgt := 26) hx hb dX1_soundAt_17 (by decide) (fun c_2 => ?_) (fun c_2 => ?_)
      · skip
        refine lv_iload_n hx hb dX1_soundAt_26 rfl (lv_at hl 1 rfl) ?_
        refine lv_iconst (v := 1) hx hb dX1_soundAt_27 (by decide) ?_
        refine lv_icmp_le (tgt := 37) hx hb dX1_soundAt_28 (by decide) (fun c_3 => ?_) (fun c_3 => ?_)
        · skip
          refine lv_aload_n hx hb dX1_soundAt_37 rfl (lv_at hl 2 rfl) ?_
          refine g_get hE hG h1 rfl inG1 0 (by decide) mw2_35 rfl dX1_soundAt_38 ?_
          refine g_alen (t0 := 0) (v := (nI n)) hE hG h2 rfl rfl dX1_soundAt_41 ?_
          refine lv_istore_n (lv' := [(2, .int (nI n)), (3, .int (nI (k + 1))), (0, .ref h0), (1, .int x)]) hx hb dX1_soundAt_42 rfl hl (by decide) rfl (fun ls hl => ?_)
          refine lv_iinc (v := (nI k)) (lv' := [(3, .int (nI k)), (2, .int (nI n)), (0, .ref h0), (1, .int x)]) hx hb dX1_soundAt_43 hl (k := 1) rfl (pk_m1 k) (by decide) rfl (fun ls hl => ?_)
          refine lv_goto (tgt := 8) hx hb dX1_soundAt_46 (by decide) ?_
          exact ih (nI n) _ _ _ (by omega) (by rw [← hy]; show _ = (if _ then _ else _); rw [if_pos c_2, if_pos c_3]) hG (lv_sub hl [0, 1, 2, 3] rfl)
        · skip
          refine lv_iload_n hx hb dX1_soundAt_31 rfl (lv_at hl 1 rfl) ?_
          refine lv_iconst (v := 1) hx hb dX1_soundAt_32 (by decide) ?_
          refine lv_isub hx hb dX1_soundAt_33 ?_
          refine lv_goto (tgt := 42) hx hb dX1_soundAt_34 (by decide) ?_
          refine lv_istore_n (lv' := [(2, .int (y - 1)), (3, .int (nI (k + 1))), (0, .ref h0), (1, .int x)]) hx hb dX1_soundAt_42 rfl hl (by decide) rfl (fun ls hl => ?_)
          refine lv_iinc (v := (nI k)) (lv' := [(3, .int (nI k)), (2, .int (y - 1)), (0, .ref h0), (1, .int x)]) hx hb dX1_soundAt_43 hl (k := 1) rfl (pk_m1 k) (by decide) rfl (fun ls hl => ?_)
          refine lv_goto (tgt := 8) hx hb dX1_soundAt_46 (by decide) ?_
          exact ih (y - 1) _ _ _ (by omega) (by rw [← hy]; show _ = (if _ then _ else _); rw [if_pos c_2, if_neg c_3]) hG (lv_sub hl [0, 1, 2, 3] rfl)
      · skip
        refine lv_aload_n hx hb dX1_soundAt_20 rfl (lv_at hl 2 rfl) ?_
        refine lv_iload_n hx hb dX1_soundAt_21 rfl (lv_at hl 1 rfl) ?_
        refine g_callV (rest := []) (As := [.int y]) hE hG hl.1 (c_X1_at l hfl D tc A w k0 k1 h0 t n f y h1 h2 hn) h1 rfl mw2_78 mw2_79 mw2_80 mw1_11 mw2_81 rfl nm_X1_at ⟨⟨Nat.le_of_ble_eq_true rfl, Nat.le_of_ble_eq_true rfl⟩, Nat.le_of_ble_eq_true rfl, Nat.le_of_ble_eq_true rfl⟩ rfl rfl (Nat.le_of_ble_eq_true rfl) dX1_soundAt_22 (g_no) ?_
        intro v9 w9 H locs h9 hG
        obtain ⟨e9, f9⟩ := h9
        rw [f9] at hG; rw [e9]; clear e9 f9
        show W p l e _ s m args below meth c H locs _ _ _ (F0 m 25 ls [.int (f_at n f y)])
        subst hQ
        exact g_iret hE hG hr (Nat.le_of_ble_eq_true rfl) (Nat.le_of_ble_eq_true rfl) dX1_soundAt_25 ⟨by rw [← hy]; show _ = some (Value.int (if _ then _ else _)); rw [if_neg c_2], rfl⟩
  exact hloop_1 n x _ _ _ (Nat.le_refl n) rfl hG (lv_sub hl [0, 1, 2, 3] rfl)
def f_put (n : Nat) (f : Nat → Int32) (x v : Int32) : Nat → Int32 := if f_has n x = 0 then f else upd f (x - 1).toNatClampNeg v
abbrev rm_X1_put : Room := { frames := 3, cells := 0, slots := 0, locals := 122 }
theorem nm_X1_put : gNm yX1_put 2 := ⟨by decide +kernel, by decide +kernel, by decide +kernel⟩
set_option maxHeartbeats 4000000 in
set_option maxRecDepth 100000 in
theorem c_X1_put (l : Launch) (hfl : l.stackTraces = false) (D : va_G) (tc : Nat → ClassId) (A : Nat → Prop) (w : gW) (k0 : Nat) (k1 : Nat) (h0 : Nat) (t : Nat) (n : Nat) (f : Nat → Int32) (x : Int32) (y : Int32) (h1 : w k0 = some (h0, .inr (1, [.ref t]))) (h2 : w k1 = some (t, .inl (tc 0, n, .inl f))) (hn : n < 2 ^ 30) : gM l yX1_put cX1_put 4 (some .int) rm_X1_put D tc A [.ref h0, .int x, .int y] w (fun v w' => v = some (.int (f_at n f x)) ∧ w' = gU w k1 (t, .inl (tc 0, n, .inl (f_put n f x y)))) (fun _ => False) := by
  refine gM_of (by decide +kernel) (Nat.le_of_ble_eq_true rfl) ?_
  intro p e s m args below meth c ls Q hQ hE hG hr hnt hnm hl
  have hx := hE.1
  have hb := hE.2.1
  have hl : lv_has ls 4 [(0, .ref h0), (1, .int x), (2, .int y)] := hl
  refine lv_aload_n hx hb dX1_put_0 rfl (lv_at hl 0 rfl) ?_
  refine lv_iload_n hx hb dX1_put_1 rfl (lv_at hl 1 rfl) ?_
  refine g_callV (rest := []) (As := [.int x]) hE hG hl.1 (c_X1_at l hfl D tc A w k0 k1 h0 t n f x h1 h2 hn) h1 rfl mw2_78 mw2_79 mw2_80 mw1_11 mw2_81 rfl nm_X1_at ⟨⟨Nat.le_of_ble_eq_true rfl, Nat.le_of_ble_eq_true rfl⟩, Nat.le_of_ble_eq_true rfl, Nat.le_of_ble_eq_true rfl⟩ rfl rfl (Nat.le_of_ble_eq_true rfl) dX1_put_2 (g_no) ?_
  intro v9 w9 H locs h9 hG
  obtain ⟨e9, f9⟩ := h9
  rw [f9] at hG; rw [e9]; clear e9 f9
  show W p l e _ s m args below meth c H locs _ _ _ (F0 m 5 ls [.int (f_at n f x)])
  refine lv_istore_n (lv' := [(3, .int (f_at n f x)), (0, .ref h0), (1, .int x), (2, .int y)]) hx hb dX1_put_5 rfl hl (by decide) rfl (fun ls hl => ?_)
  refine lv_aload_n hx hb dX1_put_6 rfl (lv_at hl 1 rfl) ?_
  refine lv_iload_n hx hb dX1_put_7 rfl (lv_at hl 2 rfl) ?_
  refine g_callV (rest := []) (As := [.int x]) hE hG hl.1 (c_X1_hasPlace l hfl D tc A w k0 k1 h0 t n f x h1 h2 ) h1 rfl mw2_82 mw2_66 mw2_67 mw1_11 mw2_68 rfl nm_X1_hasPlace ⟨⟨Nat.le_of_ble_eq_true rfl, Nat.le_of_ble_eq_true rfl⟩, Nat.le_of_ble_eq_true rfl, Nat.le_of_ble_eq_true rfl⟩ rfl rfl (Nat.le_of_ble_eq_true rfl) dX1_put_8 (g_no) ?_
  intro v9 w9 H locs h9 hG
  obtain ⟨e9, f9⟩ := h9
  rw [f9] at hG; rw [e9]; clear e9 f9
  show W p l e _ s m args below meth c H locs _ _ _ (F0 m 11 ls [.int (f_has n x)])
  refine lv_if_eq (tgt := 23) hx hb dX1_put_11 (by decide) (fun c_1 => ?_) (fun c_1 => ?_)
  · skip
    refine lv_iload_n hx hb dX1_put_23 rfl (lv_at hl 0 rfl) ?_
    subst hQ
    exact g_iret hE hG hr (Nat.le_of_ble_eq_true rfl) (Nat.le_of_ble_eq_true rfl) dX1_put_24 ⟨rfl, by unfold f_put; rw [if_pos c_1]; exact (gU_self h2).symm⟩
  · skip
    refine lv_aload_n hx hb dX1_put_14 rfl (lv_at hl 1 rfl) ?_
    refine g_get hE hG h1 rfl inG1 0 (by decide) mw2_35 rfl dX1_put_15 ?_
    refine lv_iload_n hx hb dX1_put_18 rfl (lv_at hl 2 rfl) ?_
    refine lv_iconst (v := 1) hx hb dX1_put_19 (by decide) ?_
    refine lv_isub hx hb dX1_put_20 ?_
    refine lv_iload_n hx hb dX1_put_21 rfl (lv_at hl 3 rfl) ?_
    refine g_iast hE hG h2 (mel_in hn (f_has_ne c_1).1 (f_has_ne c_1).2) dX1_put_22 (fun H locs w_2 ew_2 hG => ?_)
    have h_3 : w_2 k0 = some (h0, .inr (1, [.ref t])) := gU_n ew_2 (gU_k h2 h1 (by first | (intro h9; cases h9; done) | simp)) h1
    have h_4 : w_2 k1 = some (t, .inl (tc 0, n, .inl (upd f (x - 1).toNatClampNeg y))) := gU_s ew_2
    refine lv_iload_n hx hb dX1_put_23 rfl (lv_at hl 0 rfl) ?_
    subst hQ
    exact g_iret hE hG hr (Nat.le_of_ble_eq_true rfl) (Nat.le_of_ble_eq_true rfl) dX1_put_24 ⟨rfl, by unfold f_put; rw [if_neg c_1, ew_2]⟩
def f_cp (i : Nat) (f g : Nat → Int32) : Nat → Int32 := fun j => if j < i then g j else f j
theorem f_has_in {n i : Nat} (hn : n < 2 ^ 30) (h : i < n) : f_has n (nI (i + 1)) = 1 := by
  unfold f_has
  rw [if_neg, if_neg]
  · rw [nI_ltI (by omega) (by omega)]; omega
  · rw [show (1 : Int32) = nI 1 from rfl, nI_ltI (by omega) (by omega)]; omega
theorem f_at_in {n i : Nat} {f : Nat → Int32} (hn : n < 2 ^ 30) (h : i < n) : f_at n f (nI (i + 1)) = f i := by
  unfold f_at
  rw [f_has_in hn h, if_neg (by decide), nI_pred, nI_clamp (by omega)]
theorem f_put_in {n i : Nat} {f : Nat → Int32} {v : Int32} (hn : n < 2 ^ 30) (h : i < n) : f_put n f (nI (i + 1)) v = upd f i v := by
  unfold f_put
  rw [f_has_in hn h, if_neg (by decide), nI_pred, nI_clamp (by omega)]
theorem f_cp_0 (f g : Nat → Int32) : f_cp 0 f g = f := by funext j; simp [f_cp]
theorem f_cp_s (i : Nat) (f g : Nat → Int32) : upd (f_cp i f g) i (g i) = f_cp (i + 1) f g := by
  funext j
  unfold f_cp
  by_cases h : j = i
  · subst h; simp [upd]
  · by_cases h2 : j < i
    · simp [upd, h, h2, show j < i + 1 by omega]
    · simp [upd, h, h2, show ¬ j < i + 1 by omega]
abbrev rm_X1_takeFrom : Room := { frames := 4, cells := 0, slots := 0, locals := 158 }
theorem nm_X1_takeFrom : gNm yX1_takeFrom 1 := ⟨by decide +kernel, by decide +kernel, by decide +kernel⟩
set_option maxHeartbeats 4000000 in
set_option maxRecDepth 100000 in
theorem c_X1_takeFrom (l : Launch) (hfl : l.stackTraces = false) (D : va_G) (tc : Nat → ClassId) (A : Nat → Prop) (w : gW) (k0 : Nat) (k1 : Nat) (h0 : Nat) (t : Nat) (n : Nat) (f : Nat → Int32) (k2 : Nat) (k3 : Nat) (g0 : Nat) (t2 : Nat) (g : Nat → Int32) (h1 : w k0 = some (h0, .inr (1, [.ref t]))) (h2 : w k1 = some (t, .inl (tc 0, n, .inl f))) (h3 : w k2 = some (g0, .inr (1, [.ref t2]))) (h4 : w k3 = some (t2, .inl (tc 0, n, .inl g))) (hn : n < 2 ^ 30) (hk : k3 ≠ k1) : gM l yX1_takeFrom cX1_takeFrom 3 none rm_X1_takeFrom D tc A [.ref h0, .ref g0] w (fun v w' => v = none ∧ w' = gU w k1 (t, .inl (tc 0, n, .inl (f_cp n f g)))) (fun _ => False) := by
  refine gM_of (by decide +kernel) (Nat.le_of_ble_eq_true rfl) ?_
  intro p e s m args below meth c ls Q hQ hE hG hr hnt hnm hl
  have hx := hE.1
  have hb := hE.2.1
  have hl : lv_has ls 3 [(0, .ref h0), (1, .ref g0)] := hl
  refine lv_iconst (v := 1) hx hb dX1_takeFrom_0 (by decide) ?_
  refine lv_istore_n (lv' := [(2, .int 1), (0, .ref h0), (1, .ref g0)]) hx hb dX1_takeFrom_1 rfl hl (by decide) rfl (fun ls hl => ?_)
  have hw0 : w = gU w k1 (t, .inl (tc 0, n, .inl (f_cp (n - n) f g))) := by rw [Nat.sub_self, f_cp_0]; exact (gU_self h2).symm
  have hl : lv_has ls 3 [(2, .int (nI (n - n + 1))), (0, .ref h0), (1, .ref g0)] := by rw [Nat.sub_self]; exact hl
  have hloop_1 : ∀ (k : Nat) (w8 : gW) (H : Heap) (locs : List Loc) (ls : Array Slot), k ≤ n → w8 = gU w k1 (t, .inl (tc 0, n, .inl (f_cp (n - k) f g))) → gS D A s.heap w8 H locs → lv_has ls 3 [(2, .int (nI (n - k + 1))), (0, .ref h0), (1, .ref g0)] → W p l e rm_X1_takeFrom s m args below meth c H locs 0 0 Q (F0 m 2 ls []) := by
    intro k
    induction k with
    | zero =>
      intro w8 H locs ls hk9 hw8 hG hl
      have g2 : w8 k1 = some (t, .inl (tc 0, n, .inl (f_cp (n - 0) f g))) := gU_s hw8
      have g1 : w8 k0 = some (h0, .inr (1, [.ref t])) := gU_n hw8 (gU_k h2 h1 (by intro h9; cases h9)) h1
      have g3 : w8 k2 = some (g0, .inr (1, [.ref t2])) := gU_n hw8 (gU_k h2 h3 (by intro h9; cases h9)) h3
      have g4 : w8 k3 = some (t2, .inl (tc 0, n, .inl g)) := gU_n hw8 hk h4
      refine lv_iload_n hx hb dX1_takeFrom_2 rfl (lv_at hl 0 rfl) ?_
      refine lv_aload_n hx hb dX1_takeFrom_3 rfl (lv_at hl 1 rfl) ?_
      refine g_get hE hG g1 rfl inG1 0 (by decide) mw2_35 rfl dX1_takeFrom_4 ?_
      refine g_alen (t0 := 0) (v := (nI n)) hE hG g2 rfl rfl dX1_takeFrom_7 ?_
      refine lv_icmp_gt (tgt := 28) hx hb dX1_takeFrom_8 (by decide) (fun c9 => ?_) (fun c9 => (c9 (nI_lt (by omega) (by omega))).elim)
      subst hQ
      exact g_vret hE hG hr (Nat.le_of_ble_eq_true rfl) (Nat.le_of_ble_eq_true rfl) dX1_takeFrom_28 ⟨rfl, by rw [hw8]; rfl⟩
    | succ k ih =>
      intro w8 H locs ls hk9 hw8 hG hl
      have g2 : w8 k1 = some (t, .inl (tc 0, n, .inl (f_cp (n - (k + 1)) f g))) := gU_s hw8
      have g1 : w8 k0 = some (h0, .inr (1, [.ref t])) := gU_n hw8 (gU_k h2 h1 (by intro h9; cases h9)) h1
      have g3 : w8 k2 = some (g0, .inr (1, [.ref t2])) := gU_n hw8 (gU_k h2 h3 (by intro h9; cases h9)) h3
      have g4 : w8 k3 = some (t2, .inl (tc 0, n, .inl g)) := gU_n hw8 hk h4
      refine lv_iload_n hx hb dX1_takeFrom_2 rfl (lv_at hl 0 rfl) ?_
      refine lv_aload_n hx hb dX1_takeFrom_3 rfl (lv_at hl 1 rfl) ?_
      refine g_get hE hG g1 rfl inG1 0 (by decide) mw2_35 rfl dX1_takeFrom_4 ?_
      refine g_alen (t0 := 0) (v := (nI n)) hE hG g2 rfl rfl dX1_takeFrom_7 ?_
      refine lv_icmp_gt (tgt := 28) hx hb dX1_takeFrom_8 (by decide) (fun c9 => absurd c9 (nI_nlt (by omega) (by omega))) (fun c9 => ?_)
      refine lv_aload_n hx hb dX1_takeFrom_11 rfl (lv_at hl 1 rfl) ?_
      refine lv_iload_n hx hb dX1_takeFrom_12 rfl (lv_at hl 0 rfl) ?_
      refine lv_aload_n hx hb dX1_takeFrom_13 rfl (lv_at hl 2 rfl) ?_
      refine lv_iload_n hx hb dX1_takeFrom_14 rfl (lv_at hl 0 rfl) ?_
      refine g_callV (rest := [.int (nI (n - (k + 1) + 1)), .ref h0]) (As := [.int (nI (n - (k + 1) + 1))]) hE hG hl.1 (c_X1_at l hfl D tc A w8 k2 k3 g0 t2 n g (nI (n - (k + 1) + 1)) g3 g4 hn) g3 rfl mw2_78 mw2_79 mw2_80 mw1_11 mw2_81 rfl nm_X1_at ⟨⟨Nat.le_of_ble_eq_true rfl, Nat.le_of_ble_eq_true rfl⟩, Nat.le_of_ble_eq_true rfl, Nat.le_of_ble_eq_true rfl⟩ rfl rfl (Nat.le_of_ble_eq_true rfl) dX1_takeFrom_15 (g_no) ?_
      intro v9 w9 H locs h9 hG
      obtain ⟨e9, f9⟩ := h9
      rw [f9] at hG; rw [e9]; clear e9 f9
      show W p l e _ s m args below meth c H locs _ _ _ (F0 m 18 ls [.int (f_at n g (nI (n - (k + 1) + 1))), .int (nI (n - (k + 1) + 1)), .ref h0])
      refine g_callV (rest := []) (As := [.int (nI (n - (k + 1) + 1)), .int (f_at n g (nI (n - (k + 1) + 1)))]) hE hG hl.1 (c_X1_put l hfl D tc A w8 k0 k1 h0 t n (f_cp (n - (k + 1)) f g) (nI (n - (k + 1) + 1)) (f_at n g (nI (n - (k + 1) + 1))) g1 g2 hn) g1 rfl mw3_48 mw2_75 mw2_76 mw1_11 mw2_77 rfl nm_X1_put ⟨⟨Nat.le_of_ble_eq_true rfl, Nat.le_of_ble_eq_true rfl⟩, Nat.le_of_ble_eq_true rfl, Nat.le_of_ble_eq_true rfl⟩ rfl rfl (Nat.le_of_ble_eq_true rfl) dX1_takeFrom_18 (g_no) ?_
      intro v9 w9 H locs h9 hG
      obtain ⟨e9, ew_2⟩ := h9
      rw [e9]; clear e9; revert w9; intro w_2 hG ew_2
      show W p l e _ s m args below meth c H locs _ _ _ (F0 m 21 ls [.int (f_at n (f_cp (n - (k + 1)) f g) (nI (n - (k + 1) + 1)))])
      have h_3 : w_2 k0 = some (h0, .inr (1, [.ref t])) := gU_n ew_2 (gU_k g2 g1 (by first | (intro h9; cases h9; done) | simp)) g1
      have h_4 : w_2 k2 = some (g0, .inr (1, [.ref t2])) := gU_n ew_2 (gU_k g2 g3 (by first | (intro h9; cases h9; done) | simp)) g3
      have h_5 : w_2 k3 = some (t2, .inl (tc 0, n, .inl g)) := gU_n ew_2 hk g4
      have h_6 : w_2 k1 = some (t, .inl (tc 0, n, .inl (f_put n (f_cp (n - (k + 1)) f g) (nI (n - (k + 1) + 1)) (f_at n g (nI (n - (k + 1) + 1)))))) := gU_s ew_2
      refine lv_pop hx hb dX1_takeFrom_21 rfl ?_
      refine lv_iinc (v := (nI (n - k + 1))) (lv' := [(2, .int (nI (n - k + 1))), (0, .ref h0), (1, .ref g0)]) hx hb dX1_takeFrom_22 hl (k := 0) rfl (by rw [show n - k + 1 = (n - (k + 1) + 1) + 1 by omega]; exact nI_1 _) (by decide) rfl (fun ls hl => ?_)
      refine lv_goto (tgt := 2) hx hb dX1_takeFrom_25 (by decide) ?_
      exact ih w_2 _ _ _ (by omega) (by rw [ew_2, hw8, gU_gU, f_put_in hn (by omega), f_at_in hn (by omega), show n - k = n - (k + 1) + 1 by omega, f_cp_s]) hG (lv_sub hl [0, 1, 2] rfl)
  exact hloop_1 n w _ _ _ (Nat.le_refl n) hw0 hG (lv_sub hl [0, 1, 2] rfl)
def f_unl (f g : Nat → Int32) : Nat → Nat
  | 0 => 0
  | k + 1 => if f k = g k then f_unl f g k else f_unl f g k + 1
theorem f_unl_le (f g : Nat → Int32) : ∀ k, f_unl f g k ≤ k := by
  intro k
  induction k with
  | zero => exact Nat.le_refl _
  | succ k ih => unfold f_unl; split <;> omega
abbrev rm_X1_placesUnlike : Room := { frames := 3, cells := 0, slots := 0, locals := 122 }
theorem nm_X1_placesUnlike : gNm yX1_placesUnlike 1 := ⟨by decide +kernel, by decide +kernel, by decide +kernel⟩
set_option maxHeartbeats 4000000 in
set_option maxRecDepth 100000 in
theorem c_X1_placesUnlike (l : Launch) (hfl : l.stackTraces = false) (D : va_G) (tc : Nat → ClassId) (A : Nat → Prop) (w : gW) (k0 : Nat) (k1 : Nat) (h0 : Nat) (t : Nat) (n : Nat) (f : Nat → Int32) (k2 : Nat) (k3 : Nat) (g0 : Nat) (t2 : Nat) (g : Nat → Int32) (h1 : w k0 = some (h0, .inr (1, [.ref t]))) (h2 : w k1 = some (t, .inl (tc 0, n, .inl f))) (h3 : w k2 = some (g0, .inr (1, [.ref t2]))) (h4 : w k3 = some (t2, .inl (tc 0, n, .inl g))) (hn : n < 2 ^ 30) : gM l yX1_placesUnlike cX1_placesUnlike 4 (some .int) rm_X1_placesUnlike D tc A [.ref h0, .ref g0] w (fun v w' => v = some (.int (nI (f_unl f g n))) ∧ w' = w) (fun _ => False) := by
  refine gM_of (by decide +kernel) (Nat.le_of_ble_eq_true rfl) ?_
  intro p e s m args below meth c ls Q hQ hE hG hr hnt hnm hl
  have hx := hE.1
  have hb := hE.2.1
  have hl : lv_has ls 4 [(0, .ref h0), (1, .ref g0)] := hl
  refine lv_iconst (v := 0) hx hb dX1_placesUnlike_0 (by decide) ?_
  refine lv_istore_n (lv' := [(2, .int 0), (0, .ref h0), (1, .ref g0)]) hx hb dX1_placesUnlike_1 rfl hl (by decide) rfl (fun ls hl => ?_)
  refine lv_iconst (v := 1) hx hb dX1_placesUnlike_2 (by decide) ?_
  refine lv_istore_n (lv' := [(3, .int 1), (2, .int 0), (0, .ref h0), (1, .ref g0)]) hx hb dX1_placesUnlike_3 rfl hl (by decide) rfl (fun ls hl => ?_)
  have hl : lv_has ls 4 [(3, .int (nI (n - n + 1))), (2, .int (nI (f_unl f g (n - n)))), (0, .ref h0), (1, .ref g0)] := by rw [Nat.sub_self]; exact hl
  have hloop_1 : ∀ (k : Nat)  (H : Heap) (locs : List Loc) (ls : Array Slot), k ≤ n → gS D A s.heap w H locs → lv_has ls 4 [(3, .int (nI (n - k + 1))), (2, .int (nI (f_unl f g (n - k)))), (0, .ref h0), (1, .ref g0)] → W p l e rm_X1_placesUnlike s m args below meth c H locs 0 0 Q (F0 m 4 ls []) := by
    intro k
    induction k with
    | zero =>
      intro  H locs ls hk9 hG hl
      refine lv_iload_n hx hb dX1_placesUnlike_4 rfl (lv_at hl 0 rfl) ?_
      refine lv_aload_n hx hb dX1_placesUnlike_5 rfl (lv_at hl 2 rfl) ?_
      refine g_get hE hG h1 rfl inG1 0 (by decide) mw2_35 rfl dX1_placesUnlike_6 ?_
      refine g_alen (t0 := 0) (v := (nI n)) hE hG h2 rfl rfl dX1_placesUnlike_9 ?_
      refine lv_icmp_gt (tgt := 35) hx hb dX1_placesUnlike_10 (by decide) (fun c9 => ?_) (fun c9 => (c9 (nI_lt (by omega) (by omega))).elim)
      refine lv_iload_n hx hb dX1_placesUnlike_35 rfl (lv_at hl 1 rfl) ?_
      subst hQ
      exact g_iret hE hG hr (Nat.le_of_ble_eq_true rfl) (Nat.le_of_ble_eq_true rfl) dX1_placesUnlike_36 ⟨rfl, rfl⟩
    | succ k ih =>
      intro  H locs ls hk9 hG hl
      have hu : n - k = n - (k + 1) + 1 := by omega
      refine lv_iload_n hx hb dX1_placesUnlike_4 rfl (lv_at hl 0 rfl) ?_
      refine lv_aload_n hx hb dX1_placesUnlike_5 rfl (lv_at hl 2 rfl) ?_
      refine g_get hE hG h1 rfl inG1 0 (by decide) mw2_35 rfl dX1_placesUnlike_6 ?_
      refine g_alen (t0 := 0) (v := (nI n)) hE hG h2 rfl rfl dX1_placesUnlike_9 ?_
      refine lv_icmp_gt (tgt := 35) hx hb dX1_placesUnlike_10 (by decide) (fun c9 => absurd c9 (nI_nlt (by omega) (by omega))) (fun c9 => ?_)
      refine lv_aload_n hx hb dX1_placesUnlike_13 rfl (lv_at hl 2 rfl) ?_
      refine lv_iload_n hx hb dX1_placesUnlike_14 rfl (lv_at hl 0 rfl) ?_
      refine g_callV (rest := []) (As := [.int (nI (n - (k + 1) + 1))]) hE hG hl.1 (c_X1_at l hfl D tc A w k0 k1 h0 t n f (nI (n - (k + 1) + 1)) h1 h2 hn) h1 rfl mw2_78 mw2_79 mw2_80 mw1_11 mw2_81 rfl nm_X1_at ⟨⟨Nat.le_of_ble_eq_true rfl, Nat.le_of_ble_eq_true rfl⟩, Nat.le_of_ble_eq_true rfl, Nat.le_of_ble_eq_true rfl⟩ rfl rfl (Nat.le_of_ble_eq_true rfl) dX1_placesUnlike_15 (g_no) ?_
      intro v9 w9 H locs h9 hG
      obtain ⟨e9, f9⟩ := h9
      rw [f9] at hG; rw [e9]; clear e9 f9
      show W p l e _ s m args below meth c H locs _ _ _ (F0 m 18 ls [.int (f_at n f (nI (n - (k + 1) + 1)))])
      refine lv_aload_n hx hb dX1_placesUnlike_18 rfl (lv_at hl 3 rfl) ?_
      refine lv_iload_n hx hb dX1_placesUnlike_19 rfl (lv_at hl 0 rfl) ?_
      refine g_callV (rest := [.int (f_at n f (nI (n - (k + 1) + 1)))]) (As := [.int (nI (n - (k + 1) + 1))]) hE hG hl.1 (c_X1_at l hfl D tc A w k2 k3 g0 t2 n g (nI (n - (k + 1) + 1)) h3 h4 hn) h3 rfl mw2_78 mw2_79 mw2_80 mw1_11 mw2_81 rfl nm_X1_at ⟨⟨Nat.le_of_ble_eq_true rfl, Nat.le_of_ble_eq_true rfl⟩, Nat.le_of_ble_eq_true rfl, Nat.le_of_ble_eq_true rfl⟩ rfl rfl (Nat.le_of_ble_eq_true rfl) dX1_placesUnlike_20 (g_no) ?_
      intro v9 w9 H locs h9 hG
      obtain ⟨e9, f9⟩ := h9
      rw [f9] at hG; rw [e9]; clear e9 f9
      show W p l e _ s m args below meth c H locs _ _ _ (F0 m 23 ls [.int (f_at n g (nI (n - (k + 1) + 1))), .int (f_at n f (nI (n - (k + 1) + 1)))])
      refine lv_icmp_eq (tgt := 29) hx hb dX1_placesUnlike_23 (by decide) (fun c_2 => ?_) (fun c_2 => ?_)
      · skip
        have hc9 : nI (f_unl f g (n - (k + 1))) = nI (f_unl f g (n - k)) := by rw [f_at_in hn (by omega), f_at_in hn (by omega)] at c_2; rw [hu]; show _ = nI (if _ then _ else _); rw [if_pos c_2]
        rw [hc9] at hl
        refine lv_iinc (v := (nI (n - k + 1))) (lv' := [(3, .int (nI (n - k + 1))), (2, .int (nI (f_unl f g (n - k)))), (0, .ref h0), (1, .ref g0)]) hx hb dX1_placesUnlike_29 hl (k := 0) rfl (by rw [show n - k + 1 = (n - (k + 1) + 1) + 1 by omega]; exact nI_1 _) (by decide) rfl (fun ls hl => ?_)
        refine lv_goto (tgt := 4) hx hb dX1_placesUnlike_32 (by decide) ?_
        exact ih  _ _ _ (by omega) hG (lv_sub hl [0, 1, 2, 3] rfl)
      · skip
        refine lv_iinc (v := (nI (f_unl f g (n - k)))) (lv' := [(2, .int (nI (f_unl f g (n - k)))), (3, .int (nI (n - (k + 1) + 1))), (0, .ref h0), (1, .ref g0)]) hx hb dX1_placesUnlike_26 hl (k := 1) rfl (by rw [f_at_in hn (by omega), f_at_in hn (by omega)] at c_2; rw [hu]; show _ = nI (if _ then _ else _); rw [if_neg c_2]; exact nI_1 _) (by decide) rfl (fun ls hl => ?_)
        refine lv_iinc (v := (nI (n - k + 1))) (lv' := [(3, .int (nI (n - k + 1))), (2, .int (nI (f_unl f g (n - k)))), (0, .ref h0), (1, .ref g0)]) hx hb dX1_placesUnlike_29 hl (k := 1) rfl (by rw [show n - k + 1 = (n - (k + 1) + 1) + 1 by omega]; exact nI_1 _) (by decide) rfl (fun ls hl => ?_)
        refine lv_goto (tgt := 4) hx hb dX1_placesUnlike_32 (by decide) ?_
        exact ih  _ _ _ (by omega) hG (lv_sub hl [0, 1, 2, 3] rfl)
  exact hloop_1 n  _ _ _ (Nat.le_refl n) hG (lv_sub hl [0, 1, 2, 3] rfl)
