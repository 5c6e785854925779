/-! BronzeSet -/
theorem pit_in {x : Int32} (h1 : ¬ x < 1) (h2 : ¬ 7 < x) : vp_in (x - 1) 7 := mel_in (n := 7) (by decide) h1 h2
theorem f_cp_cp (i : Nat) (f g : Nat → Int32) (h : ∀ j, j < i → g j = f j) : f_cp i f g = f := by
  funext j
  unfold f_cp
  by_cases hj : j < i
  · rw [if_pos hj, h j hj]
  · rw [if_neg hj]
def f_pit (f : Nat → Int32) (x : Int32) : Int32 := (if x < 1 then 0 else (if 7 < x then 0 else (f (x - 1).toNatClampNeg)))
abbrev rm_X0_pitchOf : Room := { frames := 1, cells := 0, slots := 0, locals := 50 }
theorem nm_X0_pitchOf : gNm yX0_pitchOf 1 := ⟨by decide +kernel, by decide +kernel, by decide +kernel⟩
set_option maxHeartbeats 4000000 in
set_option maxRecDepth 100000 in
theorem c_X0_pitchOf (l : Launch) (hfl : l.stackTraces = false) (D : va_G) (tc : Nat → ClassId) (A : Nat → Prop) (w : gW) (k0 : Nat) (k1 : Nat) (h0 : Nat) (t : Nat) (r : Int32) (f : Nat → Int32) (x : Int32) (h1 : w k0 = some (h0, .inr (0, [.ref t, .int r]))) (h2 : w k1 = some (t, .inl (tc 0, 7, .inl f))) : gM l yX0_pitchOf cX0_pitchOf 2 (some .int) rm_X0_pitchOf D tc A [.ref h0, .int x] w (fun v w' => v = some (.int (f_pit f x)) ∧ w' = w) (fun _ => False) := by
  refine gM_of (by decide +kernel) (Nat.le_of_ble_eq_true rfl) ?_
  intro p e s m args below meth c ls Q hQ hE hG hr hnt hnm hl
  have hx := hE.1
  have hb := hE.2.1
  have hl : lv_has ls 2 [(0, .ref h0), (1, .int x)] := hl
  refine lv_iload_n hx hb dX0_pitchOf_0 rfl (lv_at hl 1 rfl) ?_
  refine lv_iconst (v := 1) hx hb dX0_pitchOf_1 (by decide) ?_
  refine lv_icmp_lt (tgt := 25) hx hb dX0_pitchOf_2 (by decide) (fun c_1 => ?_) (fun c_1 => ?_)
  · skip
    refine lv_iconst (v := 0) hx hb dX0_pitchOf_25 (by decide) ?_
    subst hQ
    exact g_iret hE hG hr (Nat.le_of_ble_eq_true rfl) (Nat.le_of_ble_eq_true rfl) dX0_pitchOf_26 ⟨by unfold f_pit; rw [if_pos c_1], rfl⟩
  · skip
    refine lv_iload_n hx hb dX0_pitchOf_5 rfl (lv_at hl 1 rfl) ?_
    refine lv_aload_n hx hb dX0_pitchOf_6 rfl (lv_at hl 0 rfl) ?_
    refine g_get hE hG h1 rfl inG0 0 (by decide) mw1_85 rfl dX0_pitchOf_7 ?_
    refine g_alen (t0 := 0) (v := 7) hE hG h2 rfl rfl dX0_pitchOf_10 ?_
    refine lv_icmp_gt (tgt := 25) hx hb dX0_pitchOf_11 (by decide) (fun c_2 => ?_) (fun c_2 => ?_)
    · skip
      refine lv_iconst (v := 0) hx hb dX0_pitchOf_25 (by decide) ?_
      subst hQ
      exact g_iret hE hG hr (Nat.le_of_ble_eq_true rfl) (Nat.le_of_ble_eq_true rfl) dX0_pitchOf_26 ⟨by unfold f_pit; rw [if_neg c_1, if_pos c_2], rfl⟩
    · skip
      refine lv_aload_n hx hb dX0_pitchOf_14 rfl (lv_at hl 0 rfl) ?_
      refine g_get hE hG h1 rfl inG0 0 (by decide) mw1_85 rfl dX0_pitchOf_15 ?_
      refine lv_iload_n hx hb dX0_pitchOf_18 rfl (lv_at hl 1 rfl) ?_
      refine lv_iconst (v := 1) hx hb dX0_pitchOf_19 (by decide) ?_
      refine lv_isub hx hb dX0_pitchOf_20 ?_
      refine g_iald hE hG h2 (pit_in c_1 c_2) dX0_pitchOf_21 ?_
      refine lv_goto (tgt := 26) hx hb dX0_pitchOf_22 (by decide) ?_
      subst hQ
      exact g_iret hE hG hr (Nat.le_of_ble_eq_true rfl) (Nat.le_of_ble_eq_true rfl) dX0_pitchOf_26 ⟨by unfold f_pit; rw [if_neg c_1, if_neg c_2], rfl⟩
def f_pput (f : Nat → Int32) (x v : Int32) : Nat → Int32 := if x < 1 then f else if 7 < x then f else upd f (x - 1).toNatClampNeg v
abbrev rm_X0_putPitch : Room := { frames := 2, cells := 0, slots := 0, locals := 86 }
theorem nm_X0_putPitch : gNm yX0_putPitch 2 := ⟨by decide +kernel, by decide +kernel, by decide +kernel⟩
set_option maxHeartbeats 4000000 in
set_option maxRecDepth 100000 in
theorem c_X0_putPitch (l : Launch) (hfl : l.stackTraces = false) (D : va_G) (tc : Nat → ClassId) (A : Nat → Prop) (w : gW) (k0 : Nat) (k1 : Nat) (h0 : Nat) (t : Nat) (r : Int32) (f : Nat → Int32) (x : Int32) (y : Int32) (h1 : w k0 = some (h0, .inr (0, [.ref t, .int r]))) (h2 : w k1 = some (t, .inl (tc 0, 7, .inl f))) : gM l yX0_putPitch cX0_putPitch 4 (some .int) rm_X0_putPitch D tc A [.ref h0, .int x, .int y] w (fun v w' => v = some (.int (f_pit f x)) ∧ w' = gU w k1 (t, .inl (tc 0, 7, .inl (f_pput f x y)))) (fun _ => False) := by
  refine gM_of (by decide +kernel) (Nat.le_of_ble_eq_true rfl) ?_
  intro p e s m args below meth c ls Q hQ hE hG hr hnt hnm hl
  have hx := hE.1
  have hb := hE.2.1
  have hl : lv_has ls 4 [(0, .ref h0), (1, .int x), (2, .int y)] := hl
  refine lv_aload_n hx hb dX0_putPitch_0 rfl (lv_at hl 0 rfl) ?_
  refine lv_iload_n hx hb dX0_putPitch_1 rfl (lv_at hl 1 rfl) ?_
  refine g_callV (rest := []) (As := [.int x]) hE hG hl.1 (c_X0_pitchOf l hfl D tc A w k0 k1 h0 t r f x h1 h2 ) h1 rfl mw3_25 mw3_26 mw3_27 mw1_3 mw3_28 rfl nm_X0_pitchOf ⟨⟨Nat.le_of_ble_eq_true rfl, Nat.le_of_ble_eq_true rfl⟩, Nat.le_of_ble_eq_true rfl, Nat.le_of_ble_eq_true rfl⟩ rfl rfl (Nat.le_of_ble_eq_true rfl) dX0_putPitch_2 (g_no) ?_
  intro v9 w9 H locs h9 hG
  obtain ⟨e9, f9⟩ := h9
  rw [f9] at hG; rw [e9]; clear e9 f9
  show W p l e _ s m args below meth c H locs _ _ _ (F0 m 5 ls [.int (f_pit f x)])
  refine lv_istore_n (lv' := [(3, .int (f_pit f x)), (0, .ref h0), (1, .int x), (2, .int y)]) hx hb dX0_putPitch_5 rfl hl (by decide) rfl (fun ls hl => ?_)
  refine lv_iload_n hx hb dX0_putPitch_6 rfl (lv_at hl 2 rfl) ?_
  refine lv_iconst (v := 1) hx hb dX0_putPitch_7 (by decide) ?_
  refine lv_icmp_lt (tgt := 29) hx hb dX0_putPitch_8 (by decide) (fun c_1 => ?_) (fun c_1 => ?_)
  · skip
    refine lv_iload_n hx hb dX0_putPitch_29 rfl (lv_at hl 0 rfl) ?_
    subst hQ
    exact g_iret hE hG hr (Nat.le_of_ble_eq_true rfl) (Nat.le_of_ble_eq_true rfl) dX0_putPitch_30 ⟨rfl, by unfold f_pput; rw [if_pos c_1]; exact (gU_self h2).symm⟩
  · skip
    refine lv_iload_n hx hb dX0_putPitch_11 rfl (lv_at hl 2 rfl) ?_
    refine lv_aload_n hx hb dX0_putPitch_12 rfl (lv_at hl 1 rfl) ?_
    refine g_get hE hG h1 rfl inG0 0 (by decide) mw1_85 rfl dX0_putPitch_13 ?_
    refine g_alen (t0 := 0) (v := 7) hE hG h2 rfl rfl dX0_putPitch_16 ?_
    refine lv_icmp_gt (tgt := 29) hx hb dX0_putPitch_17 (by decide) (fun c_2 => ?_) (fun c_2 => ?_)
    · skip
      refine lv_iload_n hx hb dX0_putPitch_29 rfl (lv_at hl 0 rfl) ?_
      subst hQ
      exact g_iret hE hG hr (Nat.le_of_ble_eq_true rfl) (Nat.le_of_ble_eq_true rfl) dX0_putPitch_30 ⟨rfl, by unfold f_pput; rw [if_neg c_1, if_pos c_2]; exact (gU_self h2).symm⟩
    · skip
      refine lv_aload_n hx hb dX0_putPitch_20 rfl (lv_at hl 1 rfl) ?_
      refine g_get hE hG h1 rfl inG0 0 (by decide) mw1_85 rfl dX0_putPitch_21 ?_
      refine lv_iload_n hx hb dX0_putPitch_24 rfl (lv_at hl 2 rfl) ?_
      refine lv_iconst (v := 1) hx hb dX0_putPitch_25 (by decide) ?_
      refine lv_isub hx hb dX0_putPitch_26 ?_
      refine lv_iload_n hx hb dX0_putPitch_27 rfl (lv_at hl 3 rfl) ?_
      refine g_iast hE hG h2 (pit_in c_1 c_2) dX0_putPitch_28 (fun H locs w_3 ew_3 hG => ?_)
      have h_4 : w_3 k0 = some (h0, .inr (0, [.ref t, .int r])) := gU_n ew_3 (gU_k h2 h1 (by intro h9; cases h9)) h1
      have h_5 : w_3 k1 = some (t, .inl (tc 0, 7, .inl (upd f (x - 1).toNatClampNeg y))) := gU_s ew_3
      refine lv_iload_n hx hb dX0_putPitch_29 rfl (lv_at hl 0 rfl) ?_
      subst hQ
      exact g_iret hE hG hr (Nat.le_of_ble_eq_true rfl) (Nat.le_of_ble_eq_true rfl) dX0_putPitch_30 ⟨rfl, by unfold f_pput; rw [if_neg c_1, if_neg c_2, ew_3]⟩
def f_ag1 (r p : Int32) : Int32 := if p - p * r / 10000 < 5000 then 5000 else p - p * r / 10000
def f_ags (r : Int32) : Nat → Int32 → Int32
  | 0, p => p
  | k + 1, p => f_ags r k (f_ag1 r p)
theorem f_ags_s (r : Int32) : ∀ (k : Nat) (p : Int32), f_ags r (k + 1) p = f_ag1 r (f_ags r k p) := by
  intro k
  induction k with
  | zero => intro p; rfl
  | succ k ih => intro p; exact ih (f_ag1 r p)
theorem f_cp_idem {i : Nat} (f : Nat → Int32) (a b : Nat → Int32) : f_cp i (f_cp i f a) b = f_cp i f b := by
  funext j
  unfold f_cp
  by_cases hj : j < i <;> simp [hj]
theorem ag_step {i n : Nat} {r : Int32} {f g h : Nat → Int32} (hi : i < 7) (hn : i < n) : upd (f_cp i (f_cp n f g) h) ((nI i)).toNatClampNeg (if (f_cp i (f_cp n f g) h ((nI i)).toNatClampNeg) - (f_cp i (f_cp n f g) h ((nI i)).toNatClampNeg) * r / 10000 < 5000 then 5000 else (f_cp i (f_cp n f g) h ((nI i)).toNatClampNeg) - (f_cp i (f_cp n f g) h ((nI i)).toNatClampNeg) * r / 10000) = upd (f_cp i (f_cp n f g) h) i (f_ag1 r (g i)) := by
  rw [nI_clamp (by omega)]
  have e : f_cp i (f_cp n f g) h i = g i := by simp [f_cp, hn]
  rw [e]
  rfl
abbrev rm_X0_ageBy : Room := { frames := 2, cells := 0, slots := 0, locals := 86 }
theorem nm_X0_ageBy : gNm yX0_ageBy 1 := ⟨by decide +kernel, by decide +kernel, by decide +kernel⟩
set_option maxHeartbeats 4000000 in
set_option maxRecDepth 100000 in
theorem c_X0_ageBy (l : Launch) (hfl : l.stackTraces = false) (D : va_G) (tc : Nat → ClassId) (A : Nat → Prop) (w : gW) (k0 : Nat) (k1 : Nat) (h0 : Nat) (t : Nat) (r : Int32) (f : Nat → Int32) (y : Nat) (h1 : w k0 = some (h0, .inr (0, [.ref t, .int r]))) (h2 : w k1 = some (t, .inl (tc 0, 7, .inl f))) (hy : y ≤ 30) : gM l yX0_ageBy cX0_ageBy 5 none rm_X0_ageBy D tc A [.ref h0, .int (nI y)] w (fun v w' => v = none ∧ w' = gU w k1 (t, .inl (tc 0, 7, .inl (f_cp 7 f (fun j => f_ags r y (f j)))))) (fun _ => False) := by
  refine gM_of (by decide +kernel) (Nat.le_of_ble_eq_true rfl) ?_
  intro p e s m args below meth c ls Q hQ hE hG hr hnt hnm hl
  have hx := hE.1
  have hb := hE.2.1
  have hl : lv_has ls 5 [(0, .ref h0), (1, .int (nI y))] := hl
  refine lv_iconst (v := 0) hx hb dX0_ageBy_0 (by decide) ?_
  refine lv_istore_n (lv' := [(2, .int 0), (0, .ref h0), (1, .int (nI y))]) hx hb dX0_ageBy_1 rfl hl (by decide) rfl (fun ls hl => ?_)
  have hw0 : w = gU w k1 (t, .inl (tc 0, 7, .inl (f_cp 7 f (fun j => f_ags r (y - y) (f j))))) := by rw [Nat.sub_self, f_cp_cp]; exact (gU_self h2).symm; intro j _; rfl
  have hl : lv_has ls 5 [(2, .int (nI (y - y))), (0, .ref h0), (1, .int (nI y))] := by rw [Nat.sub_self]; exact hl
  have hout : ∀ (k : Nat) (w8 : gW) (H : Heap) (locs : List Loc) (ls : Array Slot), k ≤ y → w8 = gU w k1 (t, .inl (tc 0, 7, .inl (f_cp 7 f (fun j => f_ags r (y - k) (f j))))) → gS D A s.heap w8 H locs → lv_has ls 5 [(2, .int (nI (y - k))), (0, .ref h0), (1, .int (nI y))] → W p l e rm_X0_ageBy s m args below meth c H locs 0 0 Q (F0 m 2 ls []) := by
    intro k
    induction k with
    | zero =>
      intro w8 H locs ls hk8 hw8 hG hl
      have g2 : w8 k1 = some (t, .inl (tc 0, 7, .inl (f_cp 7 f (fun j => f_ags r (y - 0) (f j))))) := gU_s hw8
      have g1 : w8 k0 = some (h0, .inr (0, [.ref t, .int r])) := gU_n hw8 (gU_k h2 h1 (by intro h9; cases h9)) h1
      refine lv_iload_n hx hb dX0_ageBy_2 rfl (lv_at hl 0 rfl) ?_
      refine lv_iload_n hx hb dX0_ageBy_3 rfl (lv_at hl 2 rfl) ?_
      refine lv_icmp_ge (tgt := 68) hx hb dX0_ageBy_4 (by decide) (fun c9 => ?_) (fun c9 => (c9 (nI_le (by omega) (by omega))).elim)
      subst hQ
      exact g_vret hE hG hr (Nat.le_of_ble_eq_true rfl) (Nat.le_of_ble_eq_true rfl) dX0_ageBy_68 ⟨rfl, by rw [hw8]; rfl⟩
    | succ k ih =>
      intro w8 H locs ls hk8 hw8 hG hl
      have g2 : w8 k1 = some (t, .inl (tc 0, 7, .inl (f_cp 7 f (fun j => f_ags r (y - (k + 1)) (f j))))) := gU_s hw8
      have g1 : w8 k0 = some (h0, .inr (0, [.ref t, .int r])) := gU_n hw8 (gU_k h2 h1 (by intro h9; cases h9)) h1
      refine lv_iload_n hx hb dX0_ageBy_2 rfl (lv_at hl 0 rfl) ?_
      refine lv_iload_n hx hb dX0_ageBy_3 rfl (lv_at hl 2 rfl) ?_
      refine lv_icmp_ge (tgt := 68) hx hb dX0_ageBy_4 (by decide) (fun c9 => absurd c9 (nI_ge (by omega) (by omega))) (fun c9 => ?_)
      refine lv_iconst (v := 0) hx hb dX0_ageBy_7 (by decide) ?_
      refine lv_istore_n (lv' := [(3, .int 0), (2, .int (nI (y - (k + 1)))), (0, .ref h0), (1, .int (nI y))]) hx hb dX0_ageBy_8 rfl hl (by decide) rfl (fun ls hl => ?_)
      have hl : lv_has ls 5 [(3, .int (nI (7 - 7))), (2, .int (nI (y - (k + 1)))), (0, .ref h0), (1, .int (nI y))] := hl
      have hw_30 : w8 = gU w8 k1 (t, .inl (tc 0, 7, .inl (f_cp (7 - 7) (f_cp 7 f (fun j => f_ags r (y - (k + 1)) (f j))) (fun j => f_ag1 r (f_ags r (y - (k + 1)) (f j)))))) := by rw [Nat.sub_self, f_cp_0]; exact (gU_self g2).symm
      have hloop_5 : ∀ (k_1 : Nat) (w_2 : gW) (H : Heap) (locs : List Loc) (ls : Array Slot), k_1 ≤ 7 → w_2 = gU w8 k1 (t, .inl (tc 0, 7, .inl (f_cp (7 - k_1) (f_cp 7 f (fun j => f_ags r (y - (k + 1)) (f j))) (fun j => f_ag1 r (f_ags r (y - (k + 1)) (f j)))))) → gS D A s.heap w_2 H locs → lv_has ls 5 [(3, .int (nI (7 - k_1))), (2, .int (nI (y - (k + 1)))), (0, .ref h0), (1, .int (nI y))] → W p l e rm_X0_ageBy s m args below meth c H locs 0 0 Q (F0 m 9 ls []) := by
        intro k_1
        induction k_1 with
        | zero =>
          intro w_2 H locs ls hk_4 hw_3 hG hl
          have h_6 : w_2 k0 = some (h0, .inr (0, [.ref t, .int r])) := gU_n hw_3 (gU_k g2 g1 (by intro h9; cases h9)) g1
          have h_7 : w_2 k1 = some (t, .inl (tc 0, 7, .inl (f_cp (7 - 0) (f_cp 7 f (fun j => f_ags r (y - (k + 1)) (f j))) (fun j => f_ag1 r (f_ags r (y - (k + 1)) (f j)))))) := gU_s hw_3
          refine lv_iload_n hx hb dX0_ageBy_9 rfl (lv_at hl 0 rfl) ?_
          have hw_3z : w_2 = gU w8 k1 (t, .inl (tc 0, 7, .inl (f_cp 7 (f_cp 7 f (fun j => f_ags r (y - (k + 1)) (f j))) (fun j => f_ag1 r (f_ags r (y - (k + 1)) (f j)))))) := hw_3
          have h_7z : w_2 k1 = some (t, .inl (tc 0, 7, .inl (f_cp 7 (f_cp 7 f (fun j => f_ags r (y - (k + 1)) (f j))) (fun j => f_ag1 r (f_ags r (y - (k + 1)) (f j)))))) := h_7
          refine lv_aload_n hx hb dX0_ageBy_10 rfl (lv_at hl 2 rfl) ?_
          refine g_get hE hG h_6 rfl inG0 0 (by decide) mw1_85 rfl dX0_ageBy_11 ?_
          refine g_alen (t0 := 0) (v := 7) hE hG h_7z rfl rfl dX0_ageBy_14 ?_
          refine lv_icmp_ge (tgt := 62) hx hb dX0_ageBy_15 (by decide) (fun c9 => ?_) (fun c9 => (c9 (nI_le (a := 7) (by omega) (by omega))).elim)
          refine lv_iinc (v := (nI (y - k))) (lv' := [(2, .int (nI (y - k))), (3, .int (nI (7 - 0))), (0, .ref h0), (1, .int (nI y))]) hx hb dX0_ageBy_62 hl (k := 1) rfl (by rw [show y - k = (y - (k + 1)) + 1 by omega]; exact nI_1 _) (by decide) rfl (fun ls hl => ?_)
          refine lv_goto (tgt := 2) hx hb dX0_ageBy_65 (by decide) ?_
          exact ih w_2 _ _ _ (by omega) (by rw [hw_3z, hw8, gU_gU, f_cp_idem, show y - k = (y - (k + 1)) + 1 by omega]; simp only [f_ags_s]) hG (lv_sub hl [0, 2, 3] rfl)
        | succ k_1 ihk_1 =>
          intro w_2 H locs ls hk_4 hw_3 hG hl
          have h_8 : w_2 k0 = some (h0, .inr (0, [.ref t, .int r])) := gU_n hw_3 (gU_k g2 g1 (by intro h9; cases h9)) g1
          have h_9 : w_2 k1 = some (t, .inl (tc 0, 7, .inl (f_cp (7 - (k_1 + 1)) (f_cp 7 f (fun j => f_ags r (y - (k + 1)) (f j))) (fun j => f_ag1 r (f_ags r (y - (k + 1)) (f j)))))) := gU_s hw_3
          refine lv_iload_n hx hb dX0_ageBy_9 rfl (lv_at hl 0 rfl) ?_
          refine lv_aload_n hx hb dX0_ageBy_10 rfl (lv_at hl 2 rfl) ?_
          refine g_get hE hG h_8 rfl inG0 0 (by decide) mw1_85 rfl dX0_ageBy_11 ?_
          refine g_alen (t0 := 0) (v := 7) hE hG h_9 rfl rfl dX0_ageBy_14 ?_
          refine lv_icmp_ge (tgt := 62) hx hb dX0_ageBy_15 (by decide) (fun c9 => absurd c9 (nI_ge (b := 7) (by omega) (by omega))) (fun c9 => ?_)
          refine lv_aload_n hx hb dX0_ageBy_18 rfl (lv_at hl 2 rfl) ?_
          refine g_get hE hG h_8 rfl inG0 0 (by decide) mw1_85 rfl dX0_ageBy_19 ?_
          refine lv_iload_n hx hb dX0_ageBy_22 rfl (lv_at hl 0 rfl) ?_
          refine g_iald hE hG h_9 (vp_in_nI (by omega) (by decide)) dX0_ageBy_23 ?_
          refine lv_aload_n hx hb dX0_ageBy_24 rfl (lv_at hl 2 rfl) ?_
          refine g_get hE hG h_8 rfl inG0 1 (by decide) mw1_86 rfl dX0_ageBy_25 ?_
          refine lv_imul hx hb dX0_ageBy_28 ?_
          refine lv_sipush (v := 10000) hx hb dX0_ageBy_29 (by decide) ?_
          refine lv_idiv hx hb dX0_ageBy_32 (by decide) ?_
          refine lv_istore (lv' := [(4, .int ((((f_cp (7 - (k_1 + 1)) (f_cp 7 f (fun j => f_ags r (y - (k + 1)) (f j))) (fun j => f_ag1 r (f_ags r (y - (k + 1)) (f j)))) (nI (7 - (k_1 + 1))).toNatClampNeg) * r) / 10000)), (3, .int (nI (7 - (k_1 + 1)))), (2, .int (nI (y - (k + 1)))), (0, .ref h0), (1, .int (nI y))]) hx hb dX0_ageBy_33 hl (by decide) rfl (fun ls hl => ?_)
          refine lv_aload_n hx hb dX0_ageBy_35 rfl (lv_at hl 3 rfl) ?_
          refine g_get hE hG h_8 rfl inG0 0 (by decide) mw1_85 rfl dX0_ageBy_36 ?_
          refine lv_iload_n hx hb dX0_ageBy_39 rfl (lv_at hl 1 rfl) ?_
          refine lv_aload_n hx hb dX0_ageBy_40 rfl (lv_at hl 3 rfl) ?_
          refine g_get hE hG h_8 rfl inG0 0 (by decide) mw1_85 rfl dX0_ageBy_41 ?_
          refine lv_iload_n hx hb dX0_ageBy_44 rfl (lv_at hl 1 rfl) ?_
          refine g_iald hE hG h_9 (vp_in_nI (by omega) (by decide)) dX0_ageBy_45 ?_
          refine lv_iload hx hb dX0_ageBy_46 (lv_at hl 0 rfl) ?_
          refine lv_isub hx hb dX0_ageBy_48 ?_
          refine lv_sipush (v := 5000) hx hb dX0_ageBy_49 (by decide) ?_
          refine va_mmax hx hb (hE.2.2.1.trans hl.1.symm) hE.2.2.2.1 (hE.2.2.2.2.1 _ mw3_50) (hE.2.2.2.2.1 _ mw2_33) (hE.2.2.2.2.1 _ mw1_13) (hE.2.2.2.2.1 _ mw2_34) (Nat.le_of_ble_eq_true rfl) (Nat.le_of_ble_eq_true rfl) (Nat.le_of_ble_eq_true rfl) (Nat.le_of_ble_eq_true rfl) dX0_ageBy_52 ?_
          refine g_iast hE hG h_9 (vp_in_nI (by omega) (by decide)) dX0_ageBy_55 (fun H locs w_10 ew_10 hG => ?_)
          have h_11 : w_10 k0 = some (h0, .inr (0, [.ref t, .int r])) := gU_n ew_10 (gU_k h_9 h_8 (by intro h9; cases h9)) h_8
          have h_12 : w_10 k1 = some (t, .inl (tc 0, 7, .inl (upd (f_cp (7 - (k_1 + 1)) (f_cp 7 f (fun j => f_ags r (y - (k + 1)) (f j))) (fun j => f_ag1 r (f_ags r (y - (k + 1)) (f j)))) (nI (7 - (k_1 + 1))).toNatClampNeg (if (((f_cp (7 - (k_1 + 1)) (f_cp 7 f (fun j => f_ags r (y - (k + 1)) (f j))) (fun j => f_ag1 r (f_ags r (y - (k + 1)) (f j)))) (nI (7 - (k_1 + 1))).toNatClampNeg) - ((((f_cp (7 - (k_1 + 1)) (f_cp 7 f (fun j => f_ags r (y - (k + 1)) (f j))) (fun j => f_ag1 r (f_ags r (y - (k + 1)) (f j)))) (nI (7 - (k_1 + 1))).toNatClampNeg) * r) / 10000)) < 5000 then 5000 else (((f_cp (7 - (k_1 + 1)) (f_cp 7 f (fun j => f_ags r (y - (k + 1)) (f j))) (fun j => f_ag1 r (f_ags r (y - (k + 1)) (f j)))) (nI (7 - (k_1 + 1))).toNatClampNeg) - ((((f_cp (7 - (k_1 + 1)) (f_cp 7 f (fun j => f_ags r (y - (k + 1)) (f j))) (fun j => f_ag1 r (f_ags r (y - (k + 1)) (f j)))) (nI (7 - (k_1 + 1))).toNatClampNeg) * r) / 10000)))))) := gU_s ew_10
          refine lv_iinc (v := (nI (7 - k_1))) (lv' := [(3, .int (nI (7 - k_1))), (4, .int ((((f_cp (7 - (k_1 + 1)) (f_cp 7 f (fun j => f_ags r (y - (k + 1)) (f j))) (fun j => f_ag1 r (f_ags r (y - (k + 1)) (f j)))) (nI (7 - (k_1 + 1))).toNatClampNeg) * r) / 10000)), (2, .int (nI (y - (k + 1)))), (0, .ref h0), (1, .int (nI y))]) hx hb dX0_ageBy_56 hl (k := 1) rfl (by rw [show 7 - k_1 = (7 - (k_1 + 1)) + 1 by omega]; exact nI_1 _) (by decide) rfl (fun ls hl => ?_)
          refine lv_goto (tgt := 9) hx hb dX0_ageBy_59 (by decide) ?_
          exact ihk_1 w_10 _ _ _ (by omega) (by rw [ew_10, hw_3, gU_gU, ag_step (by omega) (by omega), f_cp_s (7 - (k_1 + 1)) _ (fun j => f_ag1 r (f_ags r (y - (k + 1)) (f j))), show 7 - k_1 = (7 - (k_1 + 1)) + 1 by omega]) hG (lv_sub hl [0, 2, 3, 4] rfl)
      exact hloop_5 7 w8 _ _ _ (Nat.le_refl _) hw_30 hG (lv_sub hl [0, 1, 2, 3] rfl)
  exact hout y w _ _ _ (Nat.le_refl _) hw0 hG (lv_sub hl [0, 1, 2] rfl)
