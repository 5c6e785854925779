/-! BronzeSet -/
theorem pit_in {x : Int32} (h1 : ¬ x < 1) (h2 : ¬ 7 < x) : vp_in (x - 1) 7 := mel_in (n := 7) (by decide) h1 h2
theorem f_cp_cp (i : Nat) (f g : Nat → Int32) (h : ∀ j, j < i → g j = f j) : f_cp i f g = f := by
  funext j
  unfold f_cp
  by_cases hj : j < i
  · rw [if_pos hj, h j hj]
  · rw [if_neg hj]
def f_pit (f : Nat → Int32) (x : Int32) : Int32 := (if x < 1 then 0 else (if 7 < x then 0 else (f (x - 1).toNatClampNeg)))
abbrev rm_X0_pitchOf : Room := { frames := 1, cells := 0, slots := 0, locals := 50 }
theorem nm_X0_pitchOf : gNm yX0_pitchOf 1 := ⟨by decide +kernel, by decide +kernel, by decide +kernel⟩
set_option maxHeartbeats 4000000 in
set_option maxRecDepth 100000 in
theorem c_X0_pitchOf (l : Launch) (hfl : l.stackTraces = false) (D : va_G) (tc : Nat → ClassId) (A : Nat → Prop) (w : gW) (k0 : Nat) (k1 : Nat) (h0 : Nat) (t : Nat) (r : Int32) (f : Nat → Int32) (x : Int32) (h1 : w k0 = some (h0, .inr (0, [.ref t, .int r]))) (h2 : w k1 = some (t, .inl (tc 0, 7, .inl f))) : gM l yX0_pitchOf cX0_pitchOf 2 (some .int) rm_X0_pitchOf D tc A [.ref h0, .int x] w (fun v w' => v = some (.int (f_pit f x)) ∧ w' = w) (fun _ => False) := by
  refine gM_of (by decide +kernel) (Nat.le_of_ble_eq_true rfl) ?_
  intro p e s m args below meth c ls Q hQ hE hG hr hnt hnm hl
  have hx := hE.1
  have hb := hE.2.1
  have hl : lv_has ls 2 [(0, .ref h0), (1, .int x)] := hl
  refine lv_iload_n hx hb dX0_pitchOf_0 rfl (lv_at hl 1 rfl) ?_
  refine lv_iconst (v := 1) hx hb dX0_pitchOf_1 (by decide) ?_
  refine lv_icmp_lt (tgt := 25) hx hb dX0_pitchOf_2 (by decide) (fun c_1 => ?_) (fun c_1 => ?_)
  · skip
    refine lv_iconst (v := 0) hx hb dX0_pitchOf_25 (by decide) ?_
    subst hQ
    exact g_iret hE hG hr (Nat.le_of_ble_eq_true rfl) (Nat.le_of_ble_eq_true rfl) dX0_pitchOf_26 ⟨by unfold f_pit; rw [if_pos c_1], rfl⟩
  · skip
    refine lv_iload_n hx hb dX0_pitchOf_5 rfl (lv_at hl 1 rfl) ?_
    refine lv_aload_n hx hb dX0_pitchOf_6 rfl (lv_at hl 0 rfl) ?_
    refine g_get hE hG h1 rfl inG0 0 (by decide) mw1_93 rfl dX0_pitchOf_7 ?_
    refine g_alen (t0 := 0) (v := 7) hE hG h2 rfl rfl dX0_pitchOf_10 ?_
    refine lv_icmp_gt (tgt := 25) hx hb dX0_pitchOf_11 (by decide) (fun c_2 => ?_) (fun c_2 => ?_)
    · skip
      refine lv_iconst (v := 0) hx hb dX0_pitchOf_25 (by decide) ?_
      subst hQ
      exact g_iret hE hG hr (Nat.le_of_ble_eq_true rfl) (Nat.le_of_ble_eq_true rfl) dX0_pitchOf_26 ⟨by unfold f_pit; rw [if_neg c_1, if_pos c_2], rfl⟩
    · skip
      refine lv_aload_n hx hb dX0_pitchOf_14 rfl (lv_at hl 0 rfl) ?_
      refine g_get hE hG h1 rfl inG0 0 (by decide) mw1_93 rfl dX0_pitchOf_15 ?_
      refine lv_iload_n hx hb dX0_pitchOf_18 rfl (lv_at hl 1 rfl) ?_
      refine lv_iconst (v := 1) hx hb dX0_pitchOf_19 (by decide) ?_
      refine lv_isub hx hb dX0_pitchOf_20 ?_
      refine g_iald hE hG h2 (pit_in c_1 c_2) dX0_pitchOf_21 ?_
      refine lv_goto (tgt := 26) hx hb dX0_pitchOf_22 (by decide) ?_
      subst hQ
      exact g_iret hE hG hr (Nat.le_of_ble_eq_true rfl) (Nat.le_of_ble_eq_true rfl) dX0_pitchOf_26 ⟨by unfold f_pit; rw [if_neg c_1, if_neg c_2], rfl⟩
def f_pput (f : Nat → Int32) (x v : Int32) : Nat → Int32 := if x < 1 then f else if 7 < x then f else upd f (x - 1).toNatClampNeg v
abbrev rm_X0_putPitch : Room := { frames := 2, cells := 0, slots := 0, locals := 86 }
theorem nm_X0_putPitch : gNm yX0_putPitch 2 := ⟨by decide +kernel, by decide +kernel, by decide +kernel⟩
set_option maxHeartbeats 4000000 in
set_option maxRecDepth 100000 in
theorem c_X0_putPitch (l : Launch) (hfl : l.stackTraces = false) (D : va_G) (tc : Nat → ClassId) (A : Nat → Prop) (w : gW) (k0 : Nat) (k1 : Nat) (h0 : Nat) (t : Nat) (r : Int32) (f : Nat → Int32) (x : Int32) (y : Int32) (h1 : w k0 = some (h0, .inr (0, [.ref t, .int r]))) (h2 : w k1 = some (t, .inl (tc 0, 7, .inl f))) : gM l yX0_putPitch cX0_putPitch 4 (some .int) rm_X0_putPitch D tc A [.ref h0, .int x, .int y] w (fun v w' => v = some (.int (f_pit f x)) ∧ w' = gU w k1 (t, .inl (tc 0, 7, .inl (f_pput f x y)))) (fun _ => False) := by
  refine gM_of (by decide +kernel) (Nat.le_of_ble_eq_true rfl) ?_
  intro p e s m args below meth c ls Q hQ hE hG hr hnt hnm hl
  have hx := hE.1
  have hb := hE.2.1
  have hl : lv_has ls 4 [(0, .ref h0), (1, .int x), (2, .int y)] := hl
  refine lv_aload_n hx hb dX0_putPitch_0 rfl (lv_at hl 0 rfl) ?_
  refine lv_iload_n hx hb dX0_putPitch_1 rfl (lv_at hl 1 rfl) ?_
  refine g_callV (rest := []) (As := [.int x]) hE hG hl.1 (c_X0_pitchOf l hfl D tc A w k0 k1 h0 t r f x h1 h2 ) h1 rfl mw2_202 mw2_203 mw2_204 mw1_3 mw2_205 rfl nm_X0_pitchOf ⟨⟨Nat.le_of_ble_eq_true rfl, Nat.le_of_ble_eq_true rfl⟩, Nat.le_of_ble_eq_true rfl, Nat.le_of_ble_eq_true rfl⟩ rfl rfl (Nat.le_of_ble_eq_true rfl) dX0_putPitch_2 (g_no) ?_
  intro v9 w9 H locs h9 hG
  obtain ⟨e9, f9⟩ := h9
  rw [f9] at hG; rw [e9]; clear e9 f9
  show W p l e _ s m args below meth c H locs _ _ _ (F0 m 5 ls [.int (f_pit f x)])
  refine lv_istore_n (lv' := [(3, .int (f_pit f x)), (0, .ref h0), (1, .int x), (2, .int y)]) hx hb dX0_putPitch_5 rfl hl (by decide) rfl (fun ls hl => ?_)
  refine lv_iload_n hx hb dX0_putPitch_6 rfl (lv_at hl 2 rfl) ?_
  refine lv_iconst (v := 1) hx hb dX0_putPitch_7 (by decide) ?_
  refine lv_icmp_lt (tgt := 29) hx hb dX0_putPitch_8 (by decide) (fun c_1 => ?_) (fun c_1 => ?_)
  · skip
    refine lv_iload_n hx hb dX0_putPitch_29 rfl (lv_at hl 0 rfl) ?_
    subst hQ
    exact g_iret hE hG hr (Nat.le_of_ble_eq_true rfl) (Nat.le_of_ble_eq_true rfl) dX0_putPitch_30 ⟨rfl, by unfold f_pput; rw [if_pos c_1]; exact (gU_self h2).symm⟩
  · skip
    refine lv_iload_n hx hb dX0_putPitch_11 rfl (lv_at hl 2 rfl) ?_
    refine lv_aload_n hx hb dX0_putPitch_12 rfl (lv_at hl 1 rfl) ?_
    refine g_get hE hG h1 rfl inG0 0 (by decide) mw1_93 rfl dX0_putPitch_13 ?_
    refine g_alen (t0 := 0) (v := 7) hE hG h2 rfl rfl dX0_putPitch_16 ?_
    refine lv_icmp_gt (tgt := 29) hx hb dX0_putPitch_17 (by decide) (fun c_2 => ?_) (fun c_2 => ?_)
    · skip
      refine lv_iload_n hx hb dX0_putPitch_29 rfl (lv_at hl 0 rfl) ?_
      subst hQ
      exact g_iret hE hG hr (Nat.le_of_ble_eq_true rfl) (Nat.le_of_ble_eq_true rfl) dX0_putPitch_30 ⟨rfl, by unfold f_pput; rw [if_neg c_1, if_pos c_2]; exact (gU_self h2).symm⟩
    · skip
      refine lv_aload_n hx hb dX0_putPitch_20 rfl (lv_at hl 1 rfl) ?_
      refine g_get hE hG h1 rfl inG0 0 (by decide) mw1_93 rfl dX0_putPitch_21 ?_
      refine lv_iload_n hx hb dX0_putPitch_24 rfl (lv_at hl 2 rfl) ?_
      refine lv_iconst (v := 1) hx hb dX0_putPitch_25 (by decide) ?_
      refine lv_isub hx hb dX0_putPitch_26 ?_
      refine lv_iload_n hx hb dX0_putPitch_27 rfl (lv_at hl 3 rfl) ?_
      refine g_iast hE hG h2 (pit_in c_1 c_2) dX0_putPitch_28 (fun H locs w_3 ew_3 hG => ?_)
      have h_4 : w_3 k0 = some (h0, .inr (0, [.ref t, .int r])) := gU_n ew_3 (gU_k h2 h1 (by first | (intro h9; cases h9; done) | simp)) h1
      have h_5 : w_3 k1 = some (t, .inl (tc 0, 7, .inl (upd f (x - 1).toNatClampNeg y))) := gU_s ew_3
      refine lv_iload_n hx hb dX0_putPitch_29 rfl (lv_at hl 0 rfl) ?_
      subst hQ
      exact g_iret hE hG hr (Nat.le_of_ble_eq_true rfl) (Nat.le_of_ble_eq_true rfl) dX0_putPitch_30 ⟨rfl, by unfold f_pput; rw [if_neg c_1, if_neg c_2, ew_3]⟩
def f_ag1 (r p : Int32) : Int32 := if p - p * r / 10000 < 5000 then 5000 else p - p * r / 10000
def f_ags (r : Int32) : Nat → Int32 → Int32
  | 0, p => p
  | k + 1, p => f_ags r k (f_ag1 r p)
theorem f_ags_s (r : Int32) : ∀ (k : Nat) (p : Int32), f_ags r (k + 1) p = f_ag1 r (f_ags r k p) := by
  intro k
  induction k with
  | zero => intro p; rfl
  | succ k ih => intro p; exact ih (f_ag1 r p)
theorem f_cp_idem {i : Nat} (f : Nat → Int32) (a b : Nat → Int32) : f_cp i (f_cp i f a) b = f_cp i f b := by
  funext j
  unfold f_cp
  by_cases hj : j < i <;> simp [hj]
theorem ag_step {i n : Nat} {r : Int32} {f g h : Nat → Int32} (hi : i < 7) (hn : i < n) : upd (f_cp i (f_cp n f g) h) ((nI i)).toNatClampNeg (if (f_cp i (f_cp n f g) h ((nI i)).toNatClampNeg) - (f_cp i (f_cp n f g) h ((nI i)).toNatClampNeg) * r / 10000 < 5000 then 5000 else (f_cp i (f_cp n f g) h ((nI i)).toNatClampNeg) - (f_cp i (f_cp n f g) h ((nI i)).toNatClampNeg) * r / 10000) = upd (f_cp i (f_cp n f g) h) i (f_ag1 r (g i)) := by
  rw [nI_clamp (by omega)]
  have e : f_cp i (f_cp n f g) h i = g i := by simp [f_cp, hn]
  rw [e]
  rfl
abbrev rm_X0_ageBy : Room := { frames := 2, cells := 0, slots := 0, locals := 86 }
theorem nm_X0_ageBy : gNm yX0_ageBy 1 := ⟨by decide +kernel, by decide +kernel, by decide +kernel⟩
set_option maxHeartbeats 4000000 in
set_option maxRecDepth 100000 in
theorem c_X0_ageBy (l : Launch) (hfl : l.stackTraces = false) (D : va_G) (tc : Nat → ClassId) (A : Nat → Prop) (w : gW) (k0 : Nat) (k1 : Nat) (h0 : Nat) (t : Nat) (r : Int32) (f : Nat → Int32) (y : Nat) (h1 : w k0 = some (h0, .inr (0, [.ref t, .int r]))) (h2 : w k1 = some (t, .inl (tc 0, 7, .inl f))) (hy : y ≤ 30) : gM l yX0_ageBy cX0_ageBy 5 none rm_X0_ageBy D tc A [.ref h0, .int (nI y)] w (fun v w' => v = none ∧ w' = gU w k1 (t, .inl (tc 0, 7, .inl (f_cp 7 f (fun j => f_ags r y (f j)))))) (fun _ => False) := by
  refine gM_of (by decide +kernel) (Nat.le_of_ble_eq_true rfl) ?_
  intro p e s m args below meth c ls Q hQ hE hG hr hnt hnm hl
  have hx := hE.1
  have hb := hE.2.1
  have hl : lv_has ls 5 [(0, .ref h0), (1, .int (nI y))] := hl
  refine lv_iconst (v := 0) hx hb dX0_ageBy_0 (by decide) ?_
  refine lv_istore_n (lv' := [(2, .int 0), (0, .ref h0), (1, .int (nI y))]) hx hb dX0_ageBy_1 rfl hl (by decide) rfl (fun ls hl => ?_)
  have hw0 : w = gU w k1 (t, .inl (tc 0, 7, .inl (f_cp 7 f (fun j => f_ags r (y - y) (f j))))) := by rw [Nat.sub_self, f_cp_cp]; exact (gU_self h2).symm; intro j _; rfl
  have hl : lv_has ls 5 [(2, .int (nI (y - y))), (0, .ref h0), (1, .int (nI y))] := by rw [Nat.sub_self]; exact hl
  have hout : ∀ (k : Nat) (w8 : gW) (H : Heap) (locs : List Loc) (ls : Array Slot), k ≤ y → w8 = gU w k1 (t, .inl (tc 0, 7, .inl (f_cp 7 f (fun j => f_ags r (y - k) (f j))))) → gS D A s.heap w8 H locs → lv_has ls 5 [(2, .int (nI (y - k))), (0, .ref h0), (1, .int (nI y))] → W p l e rm_X0_ageBy s m args below meth c H locs 0 0 Q (F0 m 2 ls []) := by
    intro k
    induction k with
    | zero =>
      intro w8 H locs ls hk8 hw8 hG hl
      have g2 : w8 k1 = some (t, .inl (tc 0, 7, .inl (f_cp 7 f (fun j => f_ags r (y - 0) (f j))))) := gU_s hw8
      have g1 : w8 k0 = some (h0, .inr (0, [.ref t, .int r])) := gU_n hw8 (gU_k h2 h1 (by intro h9; cases h9)) h1
      refine lv_iload_n hx hb dX0_ageBy_2 rfl (lv_at hl 0 rfl) ?_
      refine lv_iload_n hx hb dX0_ageBy_3 rfl (lv_at hl 2 rfl) ?_
      refine lv_icmp_ge (tgt := 68) hx hb dX0_ageBy_4 (by decide) (fun c9 => ?_) (fun c9 => (c9 (nI_le (by omega) (by omega))).elim)
      subst hQ
      exact g_vret hE hG hr (Nat.le_of_ble_eq_true rfl) (Nat.le_of_ble_eq_true rfl) dX0_ageBy_68 ⟨rfl, by rw [hw8]; rfl⟩
    | succ k ih =>
      intro w8 H locs ls hk8 hw8 hG hl
      have g2 : w8 k1 = some (t, .inl (tc 0, 7, .inl (f_cp 7 f (fun j => f_ags r (y - (k + 1)) (f j))))) := gU_s hw8
      have g1 : w8 k0 = some (h0, .inr (0, [.ref t, .int r])) := gU_n hw8 (gU_k h2 h1 (by intro h9; cases h9)) h1
      refine lv_iload_n hx hb dX0_ageBy_2 rfl (lv_at hl 0 rfl) ?_
      refine lv_iload_n hx hb dX0_ageBy_3 rfl (lv_at hl 2 rfl) ?_
      refine lv_icmp_ge (tgt := 68) hx hb dX0_ageBy_4 (by decide) (fun c9 => absurd c9 (nI_ge (by omega) (by omega))) (fun c9 => ?_)
      refine lv_iconst (v := 0) hx hb dX0_ageBy_7 (by decide) ?_
      refine lv_istore_n (lv' := [(3, .int 0), (2, .int (nI (y - (k + 1)))), (0, .ref h0), (1, .int (nI y))]) hx hb dX0_ageBy_8 rfl hl (by decide) rfl (fun ls hl => ?_)
      have hl : lv_has ls 5 [(3, .int (nI (7 - 7))), (2, .int (nI (y - (k + 1)))), (0, .ref h0), (1, .int (nI y))] := hl
      have hw_30 : w8 = gU w8 k1 (t, .inl (tc 0, 7, .inl (f_cp (7 - 7) (f_cp 7 f (fun j => f_ags r (y - (k + 1)) (f j))) (fun j => f_ag1 r (f_ags r (y - (k + 1)) (f j)))))) := by rw [Nat.sub_self, f_cp_0]; exact (gU_self g2).symm
      have hloop_5 : ∀ (k_1 : Nat) (w_2 : gW) (H : Heap) (locs : List Loc) (ls : Array Slot), k_1 ≤ 7 → w_2 = gU w8 k1 (t, .inl (tc 0, 7, .inl (f_cp (7 - k_1) (f_cp 7 f (fun j => f_ags r (y - (k + 1)) (f j))) (fun j => f_ag1 r (f_ags r (y - (k + 1)) (f j)))))) → gS D A s.heap w_2 H locs → lv_has ls 5 [(3, .int (nI (7 - k_1))), (2, .int (nI (y - (k + 1)))), (0, .ref h0), (1, .int (nI y))] → W p l e rm_X0_ageBy s m args below meth c H locs 0 0 Q (F0 m 9 ls []) := by
        intro k_1
        induction k_1 with
        | zero =>
          intro w_2 H locs ls hk_4 hw_3 hG hl
          have h_6 : w_2 k0 = some (h0, .inr (0, [.ref t, .int r])) := gU_n hw_3 (gU_k g2 g1 (by first | (intro h9; cases h9; done) | simp)) g1
          have h_7 : w_2 k1 = some (t, .inl (tc 0, 7, .inl (f_cp (7 - 0) (f_cp 7 f (fun j => f_ags r (y - (k + 1)) (f j))) (fun j => f_ag1 r (f_ags r (y - (k + 1)) (f j)))))) := gU_s hw_3
          refine lv_iload_n hx hb dX0_ageBy_9 rfl (lv_at hl 0 rfl) ?_
          have hw_3z : w_2 = gU w8 k1 (t, .inl (tc 0, 7, .inl (f_cp 7 (f_cp 7 f (fun j => f_ags r (y - (k + 1)) (f j))) (fun j => f_ag1 r (f_ags r (y - (k + 1)) (f j)))))) := hw_3
          have h_7z : w_2 k1 = some (t, .inl (tc 0, 7, .inl (f_cp 7 (f_cp 7 f (fun j => f_ags r (y - (k + 1)) (f j))) (fun j => f_ag1 r (f_ags r (y - (k + 1)) (f j)))))) := h_7
          refine lv_aload_n hx hb dX0_ageBy_10 rfl (lv_at hl 2 rfl) ?_
          refine g_get hE hG h_6 rfl inG0 0 (by decide) mw1_93 rfl dX0_ageBy_11 ?_
          refine g_alen (t0 := 0) (v := 7) hE hG h_7z rfl rfl dX0_ageBy_14 ?_
          refine lv_icmp_ge (tgt := 62) hx hb dX0_ageBy_15 (by decide) (fun c9 => ?_) (fun c9 => (c9 (nI_le (a := 7) (by omega) (by omega))).elim)
          refine lv_iinc (v := (nI (y - k))) (lv' := [(2, .int (nI (y - k))), (3, .int (nI (7 - 0))), (0, .ref h0), (1, .int (nI y))]) hx hb dX0_ageBy_62 hl (k := 1) rfl (by rw [show y - k = (y - (k + 1)) + 1 by omega]; exact nI_1 _) (by decide) rfl (fun ls hl => ?_)
          refine lv_goto (tgt := 2) hx hb dX0_ageBy_65 (by decide) ?_
          exact ih w_2 _ _ _ (by omega) (by rw [hw_3z, hw8, gU_gU, f_cp_idem, show y - k = (y - (k + 1)) + 1 by omega]; simp only [f_ags_s]) hG (lv_sub hl [0, 2, 3] rfl)
        | succ k_1 ihk_1 =>
          intro w_2 H locs ls hk_4 hw_3 hG hl
          have h_8 : w_2 k0 = some (h0, .inr (0, [.ref t, .int r])) := gU_n hw_3 (gU_k g2 g1 (by first | (intro h9; cases h9; done) | simp)) g1
          have h_9 : w_2 k1 = some (t, .inl (tc 0, 7, .inl (f_cp (7 - (k_1 + 1)) (f_cp 7 f (fun j => f_ags r (y - (k + 1)) (f j))) (fun j => f_ag1 r (f_ags r (y - (k + 1)) (f j)))))) := gU_s hw_3
          refine lv_iload_n hx hb dX0_ageBy_9 rfl (lv_at hl 0 rfl) ?_
          refine lv_aload_n hx hb dX0_ageBy_10 rfl (lv_at hl 2 rfl) ?_
          refine g_get hE hG h_8 rfl inG0 0 (by decide) mw1_93 rfl dX0_ageBy_11 ?_
          refine g_alen (t0 := 0) (v := 7) hE hG h_9 rfl rfl dX0_ageBy_14 ?_
          refine lv_icmp_ge (tgt := 62) hx hb dX0_ageBy_15 (by decide) (fun c9 => absurd c9 (nI_ge (b := 7) (by omega) (by omega))) (fun c9 => ?_)
          refine lv_aload_n hx hb dX0_ageBy_18 rfl (lv_at hl 2 rfl) ?_
          refine g_get hE hG h_8 rfl inG0 0 (by decide) mw1_93 rfl dX0_ageBy_19 ?_
          refine lv_iload_n hx hb dX0_ageBy_22 rfl (lv_at hl 0 rfl) ?_
          refine g_iald hE hG h_9 (vp_in_nI (by omega) (by decide)) dX0_ageBy_23 ?_
          refine lv_aload_n hx hb dX0_ageBy_24 rfl (lv_at hl 2 rfl) ?_
          refine g_get hE hG h_8 rfl inG0 1 (by decide) mw1_94 rfl dX0_ageBy_25 ?_
          refine lv_imul hx hb dX0_ageBy_28 ?_
          refine lv_sipush (v := 10000) hx hb dX0_ageBy_29 (by decide) ?_
          refine lv_idiv hx hb dX0_ageBy_32 (by decide) ?_
          refine lv_istore (lv' := [(4, .int ((((f_cp (7 - (k_1 + 1)) (f_cp 7 f (fun j => f_ags r (y - (k + 1)) (f j))) (fun j => f_ag1 r (f_ags r (y - (k + 1)) (f j)))) (nI (7 - (k_1 + 1))).toNatClampNeg) * r) / 10000)), (3, .int (nI (7 - (k_1 + 1)))), (2, .int (nI (y - (k + 1)))), (0, .ref h0), (1, .int (nI y))]) hx hb dX0_ageBy_33 hl (by decide) rfl (fun ls hl => ?_)
          refine lv_aload_n hx hb dX0_ageBy_35 rfl (lv_at hl 3 rfl) ?_
          refine g_get hE hG h_8 rfl inG0 0 (by decide) mw1_93 rfl dX0_ageBy_36 ?_
          refine lv_iload_n hx hb dX0_ageBy_39 rfl (lv_at hl 1 rfl) ?_
          refine lv_aload_n hx hb dX0_ageBy_40 rfl (lv_at hl 3 rfl) ?_
          refine g_get hE hG h_8 rfl inG0 0 (by decide) mw1_93 rfl dX0_ageBy_41 ?_
          refine lv_iload_n hx hb dX0_ageBy_44 rfl (lv_at hl 1 rfl) ?_
          refine g_iald hE hG h_9 (vp_in_nI (by omega) (by decide)) dX0_ageBy_45 ?_
          refine lv_iload hx hb dX0_ageBy_46 (lv_at hl 0 rfl) ?_
          refine lv_isub hx hb dX0_ageBy_48 ?_
          refine lv_sipush (v := 5000) hx hb dX0_ageBy_49 (by decide) ?_
          refine va_mmax hx hb (hE.2.2.1.trans hl.1.symm) hE.2.2.2.1 (hE.2.2.2.2.1 _ mw2_221) (hE.2.2.2.2.1 _ mw2_33) (hE.2.2.2.2.1 _ mw1_12) (hE.2.2.2.2.1 _ mw2_34) (Nat.le_of_ble_eq_true rfl) (Nat.le_of_ble_eq_true rfl) (Nat.le_of_ble_eq_true rfl) (Nat.le_of_ble_eq_true rfl) dX0_ageBy_52 ?_
          refine g_iast hE hG h_9 (vp_in_nI (by omega) (by decide)) dX0_ageBy_55 (fun H locs w_10 ew_10 hG => ?_)
          have h_11 : w_10 k0 = some (h0, .inr (0, [.ref t, .int r])) := gU_n ew_10 (gU_k h_9 h_8 (by first | (intro h9; cases h9; done) | simp)) h_8
          have h_12 : w_10 k1 = some (t, .inl (tc 0, 7, .inl (upd (f_cp (7 - (k_1 + 1)) (f_cp 7 f (fun j => f_ags r (y - (k + 1)) (f j))) (fun j => f_ag1 r (f_ags r (y - (k + 1)) (f j)))) (nI (7 - (k_1 + 1))).toNatClampNeg (if (((f_cp (7 - (k_1 + 1)) (f_cp 7 f (fun j => f_ags r (y - (k + 1)) (f j))) (fun j => f_ag1 r (f_ags r (y - (k + 1)) (f j)))) (nI (7 - (k_1 + 1))).toNatClampNeg) - ((((f_cp (7 - (k_1 + 1)) (f_cp 7 f (fun j => f_ags r (y - (k + 1)) (f j))) (fun j => f_ag1 r (f_ags r (y - (k + 1)) (f j)))) (nI (7 - (k_1 + 1))).toNatClampNeg) * r) / 10000)) < 5000 then 5000 else (((f_cp (7 - (k_1 + 1)) (f_cp 7 f (fun j => f_ags r (y - (k + 1)) (f j))) (fun j => f_ag1 r (f_ags r (y - (k + 1)) (f j)))) (nI (7 - (k_1 + 1))).toNatClampNeg) - ((((f_cp (7 - (k_1 + 1)) (f_cp 7 f (fun j => f_ags r (y - (k + 1)) (f j))) (fun j => f_ag1 r (f_ags r (y - (k + 1)) (f j)))) (nI (7 - (k_1 + 1))).toNatClampNeg) * r) / 10000)))))) := gU_s ew_10
          refine lv_iinc (v := (nI (7 - k_1))) (lv' := [(3, .int (nI (7 - k_1))), (4, .int ((((f_cp (7 - (k_1 + 1)) (f_cp 7 f (fun j => f_ags r (y - (k + 1)) (f j))) (fun j => f_ag1 r (f_ags r (y - (k + 1)) (f j)))) (nI (7 - (k_1 + 1))).toNatClampNeg) * r) / 10000)), (2, .int (nI (y - (k + 1)))), (0, .ref h0), (1, .int (nI y))]) hx hb dX0_ageBy_56 hl (k := 1) rfl (by rw [show 7 - k_1 = (7 - (k_1 + 1)) + 1 by omega]; exact nI_1 _) (by decide) rfl (fun ls hl => ?_)
          refine lv_goto (tgt := 9) hx hb dX0_ageBy_59 (by decide) ?_
          exact ihk_1 w_10 _ _ _ (by omega) (by rw [ew_10, hw_3, gU_gU, ag_step (by omega) (by omega), f_cp_s (7 - (k_1 + 1)) _ (fun j => f_ag1 r (f_ags r (y - (k + 1)) (f j))), show 7 - k_1 = (7 - (k_1 + 1)) + 1 by omega]) hG (lv_sub hl [0, 2, 3, 4] rfl)
      exact hloop_5 7 w8 _ _ _ (Nat.le_refl _) hw_30 hG (lv_sub hl [0, 1, 2, 3] rfl)
  exact hout y w _ _ _ (Nat.le_refl _) hw0 hG (lv_sub hl [0, 1, 2] rfl)
def f_tun (q : Int32) (o : Int64) (p : Int32) : Int32 := (if (if 200000 < p.toInt64 * q.toInt64 / o then 200000 else p.toInt64 * q.toInt64 / o) < 5000 then 5000 else (if 200000 < p.toInt64 * q.toInt64 / o then 200000 else p.toInt64 * q.toInt64 / o)).toInt32
theorem tun_step {i : Nat} {y : Int32} {o : Int64} {f h : Nat → Int32} (hi : i < 7) : upd (f_cp i f h) ((nI i)).toNatClampNeg (if (if 200000 < (f_cp i f h ((nI i)).toNatClampNeg).toInt64 * y.toInt64 / o then 200000 else (f_cp i f h ((nI i)).toNatClampNeg).toInt64 * y.toInt64 / o) < 5000 then 5000 else (if 200000 < (f_cp i f h ((nI i)).toNatClampNeg).toInt64 * y.toInt64 / o then 200000 else (f_cp i f h ((nI i)).toNatClampNeg).toInt64 * y.toInt64 / o)).toInt32 = upd (f_cp i f h) i (f_tun y o (f i)) := by
  rw [nI_clamp (by omega)]
  have e : f_cp i f h i = f i := by simp [f_cp]
  rw [e]
  rfl
abbrev rm_X0_tuneTo : Room := { frames := 2, cells := 0, slots := 0, locals := 86 }
theorem nm_X0_tuneTo : gNm yX0_tuneTo 1 := ⟨by decide +kernel, by decide +kernel, by decide +kernel⟩
set_option maxHeartbeats 4000000 in
set_option maxRecDepth 100000 in
theorem c_X0_tuneTo (l : Launch) (hfl : l.stackTraces = false) (D : va_G) (tc : Nat → ClassId) (A : Nat → Prop) (w : gW) (k0 : Nat) (k1 : Nat) (h0 : Nat) (t : Nat) (r : Int32) (f : Nat → Int32) (y : Int32) (h1 : w k0 = some (h0, .inr (0, [.ref t, .int r]))) (h2 : w k1 = some (t, .inl (tc 0, 7, .inl f))) (hp : ¬ lg_cmp (f_pit f 1).toInt64 0 ≤ 0) (hz : ¬ (f_pit f 1).toInt64 = 0) : gM l yX0_tuneTo cX0_tuneTo 7 none rm_X0_tuneTo D tc A [.ref h0, .int y] w (fun v w' => v = none ∧ w' = gU w k1 (t, .inl (tc 0, 7, .inl (f_cp 7 f (fun j => f_tun y (f_pit f 1).toInt64 (f j)))))) (fun _ => False) := by
  refine gM_of (by decide +kernel) (Nat.le_of_ble_eq_true rfl) ?_
  intro p e s m args below meth c ls Q hQ hE hG hr hnt hnm hl
  have hx := hE.1
  have hb := hE.2.1
  have hl : lv_has ls 7 [(0, .ref h0), (1, .int y)] := hl
  refine lv_aload_n hx hb dX0_tuneTo_0 rfl (lv_at hl 0 rfl) ?_
  refine lv_iconst (v := 1) hx hb dX0_tuneTo_1 (by decide) ?_
  refine g_callV (rest := []) (As := [.int 1]) hE hG hl.1 (c_X0_pitchOf l hfl D tc A w k0 k1 h0 t r f 1 h1 h2 ) h1 rfl mw2_202 mw2_203 mw2_204 mw1_3 mw2_205 rfl nm_X0_pitchOf ⟨⟨Nat.le_of_ble_eq_true rfl, Nat.le_of_ble_eq_true rfl⟩, Nat.le_of_ble_eq_true rfl, Nat.le_of_ble_eq_true rfl⟩ rfl rfl (Nat.le_of_ble_eq_true rfl) dX0_tuneTo_2 (g_no) ?_
  intro v9 w9 H locs h9 hG
  obtain ⟨e9, f9⟩ := h9
  rw [f9] at hG; rw [e9]; clear e9 f9
  show W p l e _ s m args below meth c H locs _ _ _ (F0 m 5 ls [.int (f_pit f 1)])
  refine lv_i2l (v := (f_pit f 1).toInt64) hx hb dX0_tuneTo_5 rfl ?_
  refine lv_lstore_n (lv' := [(2, .long ((f_pit f 1).toInt64)), (0, .ref h0), (1, .int y)]) hx hb dX0_tuneTo_6 rfl hl (by decide) rfl (fun ls hl => ?_)
  refine lv_lload_n hx hb dX0_tuneTo_7 rfl (lv_at hl 0 rfl) ?_
  refine lv_lconst (v := 0) hx hb dX0_tuneTo_8 (by decide) ?_
  refine W.lcmp hx hb dX0_tuneTo_9 ?_
  refine lv_if_le (tgt := 69) hx hb dX0_tuneTo_10 (by decide) (fun c9 => absurd c9 hp) (fun c9 => ?_)
  refine lv_iconst (v := 0) hx hb dX0_tuneTo_13 (by decide) ?_
  refine lv_istore (lv' := [(4, .int 0), (2, .long ((f_pit f 1).toInt64)), (0, .ref h0), (1, .int y)]) hx hb dX0_tuneTo_14 hl (by decide) rfl (fun ls hl => ?_)
  have hl : lv_has ls 7 [(4, .int (nI (7 - 7))), (2, .long ((f_pit f 1).toInt64)), (0, .ref h0), (1, .int y)] := hl
  have hw_30 : w = gU w k1 (t, .inl (tc 0, 7, .inl (f_cp (7 - 7) f (fun j => f_tun y (f_pit f 1).toInt64 (f j))))) := by rw [Nat.sub_self, f_cp_0]; exact (gU_self h2).symm
  have hloop_5 : ∀ (k_1 : Nat) (w_2 : gW) (H : Heap) (locs : List Loc) (ls : Array Slot), k_1 ≤ 7 → w_2 = gU w k1 (t, .inl (tc 0, 7, .inl (f_cp (7 - k_1) f (fun j => f_tun y (f_pit f 1).toInt64 (f j))))) → gS D A s.heap w_2 H locs → lv_has ls 7 [(4, .int (nI (7 - k_1))), (2, .long ((f_pit f 1).toInt64)), (0, .ref h0), (1, .int y)] → W p l e rm_X0_tuneTo s m args below meth c H locs (0 + rm_X0_pitchOf.cells) (0 + rm_X0_pitchOf.slots) Q (F0 m 16 ls []) := by
    intro k_1
    induction k_1 with
    | zero =>
      intro w_2 H locs ls hk_4 hw_3 hG hl
      have h_6 : w_2 k0 = some (h0, .inr (0, [.ref t, .int r])) := gU_n hw_3 (gU_k h2 h1 (by first | (intro h9; cases h9; done) | simp)) h1
      have h_7 : w_2 k1 = some (t, .inl (tc 0, 7, .inl (f_cp (7 - 0) f (fun j => f_tun y (f_pit f 1).toInt64 (f j))))) := gU_s hw_3
      refine lv_iload hx hb dX0_tuneTo_16 (lv_at hl 0 rfl) ?_
      refine lv_aload_n hx hb dX0_tuneTo_18 rfl (lv_at hl 2 rfl) ?_
      refine g_get hE hG h_6 rfl inG0 0 (by decide) mw1_93 rfl dX0_tuneTo_19 ?_
      refine g_alen (t0 := 0) (v := 7) hE hG h_7 rfl rfl dX0_tuneTo_22 ?_
      refine lv_icmp_ge (tgt := 69) hx hb dX0_tuneTo_23 (by decide) (fun c9 => ?_) (fun c9 => (c9 (nI_le (a := 7) (by omega) (by omega))).elim)
      subst hQ
      exact g_vret hE hG hr (Nat.le_of_ble_eq_true rfl) (Nat.le_of_ble_eq_true rfl) dX0_tuneTo_69 ⟨rfl, hw_3⟩
    | succ k_1 ihk_1 =>
      intro w_2 H locs ls hk_4 hw_3 hG hl
      have h_8 : w_2 k0 = some (h0, .inr (0, [.ref t, .int r])) := gU_n hw_3 (gU_k h2 h1 (by first | (intro h9; cases h9; done) | simp)) h1
      have h_9 : w_2 k1 = some (t, .inl (tc 0, 7, .inl (f_cp (7 - (k_1 + 1)) f (fun j => f_tun y (f_pit f 1).toInt64 (f j))))) := gU_s hw_3
      refine lv_iload hx hb dX0_tuneTo_16 (lv_at hl 0 rfl) ?_
      refine lv_aload_n hx hb dX0_tuneTo_18 rfl (lv_at hl 2 rfl) ?_
      refine g_get hE hG h_8 rfl inG0 0 (by decide) mw1_93 rfl dX0_tuneTo_19 ?_
      refine g_alen (t0 := 0) (v := 7) hE hG h_9 rfl rfl dX0_tuneTo_22 ?_
      refine lv_icmp_ge (tgt := 69) hx hb dX0_tuneTo_23 (by decide) (fun c9 => absurd c9 (nI_ge (b := 7) (by omega) (by omega))) (fun c9 => ?_)
      refine lv_aload_n hx hb dX0_tuneTo_26 rfl (lv_at hl 2 rfl) ?_
      refine g_get hE hG h_8 rfl inG0 0 (by decide) mw1_93 rfl dX0_tuneTo_27 ?_
      refine lv_iload hx hb dX0_tuneTo_30 (lv_at hl 0 rfl) ?_
      refine g_iald hE hG h_9 (vp_in_nI (by omega) (by decide)) dX0_tuneTo_32 ?_
      refine lv_i2l (v := ((f_cp (7 - (k_1 + 1)) f (fun j => f_tun y (f_pit f 1).toInt64 (f j))) (nI (7 - (k_1 + 1))).toNatClampNeg).toInt64) hx hb dX0_tuneTo_33 rfl ?_
      refine lv_iload_n hx hb dX0_tuneTo_34 rfl (lv_at hl 3 rfl) ?_
      refine lv_i2l (v := y.toInt64) hx hb dX0_tuneTo_35 rfl ?_
      refine lv_lmul hx hb dX0_tuneTo_36 ?_
      refine lv_lload_n hx hb dX0_tuneTo_37 rfl (lv_at hl 1 rfl) ?_
      refine lv_ldiv hx hb dX0_tuneTo_38 hz ?_
      refine lv_lstore (lv' := [(5, .long (((((f_cp (7 - (k_1 + 1)) f (fun j => f_tun y (f_pit f 1).toInt64 (f j))) (nI (7 - (k_1 + 1))).toNatClampNeg).toInt64) * y.toInt64) / ((f_pit f 1).toInt64))), (4, .int (nI (7 - (k_1 + 1)))), (2, .long ((f_pit f 1).toInt64)), (0, .ref h0), (1, .int y)]) hx hb dX0_tuneTo_39 hl (by decide) rfl (fun ls hl => ?_)
      refine lv_aload_n hx hb dX0_tuneTo_41 rfl (lv_at hl 3 rfl) ?_
      refine g_get hE hG h_8 rfl inG0 0 (by decide) mw1_93 rfl dX0_tuneTo_42 ?_
      refine lv_iload hx hb dX0_tuneTo_45 (lv_at hl 1 rfl) ?_
      refine lv_ldc2 (v := 5000) hx hb hE.2.2.2.1 (hE.2.2.2.2.1 _ mw2_234) dX0_tuneTo_47 ?_
      refine lv_lload hx hb dX0_tuneTo_50 (lv_at hl 0 rfl) ?_
      refine lv_ldc2 (v := 200000) hx hb hE.2.2.2.1 (hE.2.2.2.2.1 _ mw2_235) dX0_tuneTo_52 ?_
      refine va_mmin_long hx hb (hE.2.2.1.trans hl.1.symm) hE.2.2.2.1 (hE.2.2.2.2.1 _ mw2_236) (hE.2.2.2.2.1 _ mw2_237) (hE.2.2.2.2.1 _ mw1_12) (hE.2.2.2.2.1 _ mw2_238) (Nat.le_of_ble_eq_true rfl) (Nat.le_of_ble_eq_true rfl) (Nat.le_of_ble_eq_true rfl) (Nat.le_of_ble_eq_true rfl) dX0_tuneTo_55 ?_
      refine va_mmax_long hx hb (hE.2.2.1.trans hl.1.symm) hE.2.2.2.1 (hE.2.2.2.2.1 _ mw2_239) (hE.2.2.2.2.1 _ mw3_0) (hE.2.2.2.2.1 _ mw1_12) (hE.2.2.2.2.1 _ mw3_1) (Nat.le_of_ble_eq_true rfl) (Nat.le_of_ble_eq_true rfl) (Nat.le_of_ble_eq_true rfl) (Nat.le_of_ble_eq_true rfl) dX0_tuneTo_58 ?_
      refine lv_l2i (v := (if (if 200000 < (((((f_cp (7 - (k_1 + 1)) f (fun j => f_tun y (f_pit f 1).toInt64 (f j))) (nI (7 - (k_1 + 1))).toNatClampNeg).toInt64) * y.toInt64) / ((f_pit f 1).toInt64)) then 200000 else (((((f_cp (7 - (k_1 + 1)) f (fun j => f_tun y (f_pit f 1).toInt64 (f j))) (nI (7 - (k_1 + 1))).toNatClampNeg).toInt64) * y.toInt64) / ((f_pit f 1).toInt64))) < 5000 then 5000 else (if 200000 < (((((f_cp (7 - (k_1 + 1)) f (fun j => f_tun y (f_pit f 1).toInt64 (f j))) (nI (7 - (k_1 + 1))).toNatClampNeg).toInt64) * y.toInt64) / ((f_pit f 1).toInt64)) then 200000 else (((((f_cp (7 - (k_1 + 1)) f (fun j => f_tun y (f_pit f 1).toInt64 (f j))) (nI (7 - (k_1 + 1))).toNatClampNeg).toInt64) * y.toInt64) / ((f_pit f 1).toInt64)))).toInt32) hx hb dX0_tuneTo_61 rfl ?_
      refine g_iast hE hG h_9 (vp_in_nI (by omega) (by decide)) dX0_tuneTo_62 (fun H locs w_10 ew_10 hG => ?_)
      have h_11 : w_10 k0 = some (h0, .inr (0, [.ref t, .int r])) := gU_n ew_10 (gU_k h_9 h_8 (by first | (intro h9; cases h9; done) | simp)) h_8
      have h_12 : w_10 k1 = some (t, .inl (tc 0, 7, .inl (upd (f_cp (7 - (k_1 + 1)) f (fun j => f_tun y (f_pit f 1).toInt64 (f j))) (nI (7 - (k_1 + 1))).toNatClampNeg ((if (if 200000 < (((((f_cp (7 - (k_1 + 1)) f (fun j => f_tun y (f_pit f 1).toInt64 (f j))) (nI (7 - (k_1 + 1))).toNatClampNeg).toInt64) * y.toInt64) / ((f_pit f 1).toInt64)) then 200000 else (((((f_cp (7 - (k_1 + 1)) f (fun j => f_tun y (f_pit f 1).toInt64 (f j))) (nI (7 - (k_1 + 1))).toNatClampNeg).toInt64) * y.toInt64) / ((f_pit f 1).toInt64))) < 5000 then 5000 else (if 200000 < (((((f_cp (7 - (k_1 + 1)) f (fun j => f_tun y (f_pit f 1).toInt64 (f j))) (nI (7 - (k_1 + 1))).toNatClampNeg).toInt64) * y.toInt64) / ((f_pit f 1).toInt64)) then 200000 else (((((f_cp (7 - (k_1 + 1)) f (fun j => f_tun y (f_pit f 1).toInt64 (f j))) (nI (7 - (k_1 + 1))).toNatClampNeg).toInt64) * y.toInt64) / ((f_pit f 1).toInt64)))).toInt32)))) := gU_s ew_10
      refine lv_iinc (v := (nI (7 - k_1))) (lv' := [(4, .int (nI (7 - k_1))), (5, .long (((((f_cp (7 - (k_1 + 1)) f (fun j => f_tun y (f_pit f 1).toInt64 (f j))) (nI (7 - (k_1 + 1))).toNatClampNeg).toInt64) * y.toInt64) / ((f_pit f 1).toInt64))), (2, .long ((f_pit f 1).toInt64)), (0, .ref h0), (1, .int y)]) hx hb dX0_tuneTo_63 hl (k := 1) rfl (by rw [show 7 - k_1 = (7 - (k_1 + 1)) + 1 by omega]; exact nI_1 _) (by decide) rfl (fun ls hl => ?_)
      refine lv_goto (tgt := 16) hx hb dX0_tuneTo_66 (by decide) ?_
      exact ihk_1 w_10 _ _ _ (by omega) (by rw [ew_10, hw_3, gU_gU, tun_step (by omega), f_cp_s (7 - (k_1 + 1)) _ (fun j => f_tun y (f_pit f 1).toInt64 (f j)), show 7 - k_1 = (7 - (k_1 + 1)) + 1 by omega]) hG (lv_sub hl [0, 2, 3, 4] rfl)
  exact hloop_5 7 w _ _ _ (Nat.le_refl _) hw_30 hG (lv_sub hl [0, 1, 2, 3] rfl)
abbrev rm_X0_init : Room := { frames := 2, cells := 1, slots := 7, locals := 86 }
theorem nm_X0_init : gNm yX0_init 0 := ⟨by decide +kernel, by decide +kernel, by decide +kernel⟩
set_option maxHeartbeats 4000000 in
set_option maxRecDepth 100000 in
theorem c_X0_init (l : Launch) (hfl : l.stackTraces = false) (D : va_G) (tc : Nat → ClassId) (A : Nat → Prop) (w : gW) (k0 : Nat) (k1 : Nat) (h0 : Nat) (h1 : w k0 = some (h0, .inr (0, [.null, .int 0]))) (hf : w k1 = none) : gM l yX0_init cX0_init 2 none rm_X0_init D tc A [.ref h0] w (fun v w' => v = none ∧ ∃ t : Nat, w' = gU (gU w k1 (t, .inl (tc 0, 7, .inl (f_cp 7 (fun _ => 0) (fun _ => 44000))))) k0 (h0, .inr (0, [.ref t, .int 0]))) (fun _ => False) := by
  refine gM_of (by decide +kernel) (Nat.le_of_ble_eq_true rfl) ?_
  intro p e s m args below meth c ls Q hQ hE hG hr hnt hnm hl
  have hx := hE.1
  have hb := hE.2.1
  have hl : lv_has ls 2 [(0, .ref h0)] := hl
  refine lv_aload_n hx hb dX0_init_0 rfl (lv_at hl 0 rfl) ?_
  refine W.objInit hx hb hE.2.2.2.1 (hE.2.2.2.2.1 _ mw1_91) (hE.2.2.2.2.1 _ mw1_30) (hE.2.2.2.2.1 _ mw1_31) rfl (by rw [hE.2.2.1]; exact hl.1) rfl dX0_init_1 (Nat.le_of_ble_eq_true rfl) (Nat.le_of_ble_eq_true rfl) ?_
  refine W.eq (g2 := F0 m 4 ls []) rfl ?_
  refine lv_aload_n hx hb dX0_init_4 rfl (lv_at hl 0 rfl) ?_
  refine lv_bipush (v := 7) hx hb dX0_init_5 (by decide) ?_
  refine g_newi (atype := .int) (t0 := 0) (ty := .int) (a0 := (7, .inl (fun _ => 0))) (N' := 7) hE hG mw1_81 rfl rfl (fun _ _ h => h) (fun _ => by first | rfl | simp [vp_cell_i, vp_cell_l, defaultValue]) (by decide) (by decide) (by decide) (Nat.le_of_ble_eq_true rfl) (Nat.le_of_ble_eq_true rfl) k1 hf dX0_init_7 (fun q_1 H w_2 ew_2 hG => ?_)
  have h_3 : w_2 k0 = some (h0, .inr (0, [.null, .int 0])) := gU_n ew_2 (gU_f hf h1) h1
  have h_4 : w_2 k1 = some (q_1, .inl (tc 0, 7, .inl (fun _ => 0))) := gU_s ew_2
  refine g_putF hE hG h_3 rfl inG0 tyX0 tyX0_ok nmX0 0 (by decide) mw1_93 rfl ((hnm _).mpr rfl) rfl rfl rfl (Nat.le_of_ble_eq_true rfl) dX0_init_9 (fun H locs w_5 ew_5 hG => ?_)
  have h_6 : w_5 k1 = some (q_1, .inl (tc 0, 7, .inl (fun _ => 0))) := gU_n ew_5 (gU_k h_3 h_4 (by first | (intro h9; cases h9; done) | simp)) h_4
  have h_7 : w_5 k0 = some (h0, .inr (0, [.ref q_1, .int 0])) := gU_s ew_5
  refine lv_aload_n hx hb dX0_init_12 rfl (lv_at hl 0 rfl) ?_
  refine lv_iconst (v := 0) hx hb dX0_init_13 (by decide) ?_
  refine g_put hE hG h_7 rfl inG0 tyX0 tyX0_ok nmX0 1 (by decide) mw1_94 rfl rfl rfl (Nat.le_of_ble_eq_true rfl) dX0_init_14 (fun H locs w_8 ew_8 hG => ?_)
  have h_9 : w_8 k1 = some (q_1, .inl (tc 0, 7, .inl (fun _ => 0))) := gU_n ew_8 (gU_k h_7 h_6 (by first | (intro h9; cases h9; done) | simp)) h_6
  have h_10 : w_8 k0 = some (h0, .inr (0, [.ref q_1, .int 0])) := gU_s ew_8
  refine lv_iconst (v := 0) hx hb dX0_init_17 (by decide) ?_
  refine lv_istore_n (lv' := [(1, .int 0), (0, .ref h0)]) hx hb dX0_init_18 rfl hl (by decide) rfl (fun ls hl => ?_)
  have hl : lv_has ls 2 [(1, .int (nI (7 - 7))), (0, .ref h0)] := hl
  have hw_130 : w_8 = gU w_8 k1 (q_1, .inl (tc 0, 7, .inl (f_cp (7 - 7) (fun _ => 0) (fun _ => 44000)))) := by rw [Nat.sub_self, f_cp_0]; exact (gU_self h_9).symm
  have hloop_15 : ∀ (k_11 : Nat) (w_12 : gW) (H : Heap) (locs : List Loc) (ls : Array Slot), k_11 ≤ 7 → w_12 = gU w_8 k1 (q_1, .inl (tc 0, 7, .inl (f_cp (7 - k_11) (fun _ => 0) (fun _ => 44000)))) → gS D A s.heap w_12 H locs → lv_has ls 2 [(1, .int (nI (7 - k_11))), (0, .ref h0)] → W p l e rm_X0_init s m args below meth c H locs (0 + 1) (0 + 7) Q (F0 m 19 ls []) := by
    intro k_11
    induction k_11 with
    | zero =>
      intro w_12 H locs ls hk_14 hw_13 hG hl
      have h_16 : w_12 k0 = some (h0, .inr (0, [.ref q_1, .int 0])) := gU_n hw_13 (gU_k h_9 h_10 (by first | (intro h9; cases h9; done) | simp)) h_10
      have h_17 : w_12 k1 = some (q_1, .inl (tc 0, 7, .inl (f_cp (7 - 0) (fun _ => 0) (fun _ => 44000)))) := gU_s hw_13
      refine lv_iload_n hx hb dX0_init_19 rfl (lv_at hl 0 rfl) ?_
      refine lv_aload_n hx hb dX0_init_20 rfl (lv_at hl 1 rfl) ?_
      refine g_get hE hG h_16 rfl inG0 0 (by decide) mw1_93 rfl dX0_init_21 ?_
      refine g_alen (t0 := 0) (v := 7) hE hG h_17 rfl rfl dX0_init_24 ?_
      refine lv_icmp_ge (tgt := 42) hx hb dX0_init_25 (by decide) (fun c9 => ?_) (fun c9 => (c9 (nI_le (a := 7) (by omega) (by omega))).elim)
      subst hQ
      exact g_vret hE hG hr (Nat.le_of_ble_eq_true rfl) (Nat.le_of_ble_eq_true rfl) dX0_init_42 ⟨rfl, q_1, by rw [hw_13, ew_8, ew_5, ew_2, gU_gU, gU_sw (Ne.symm (gU_f hf h1))] <;> rfl⟩
    | succ k_11 ihk_11 =>
      intro w_12 H locs ls hk_14 hw_13 hG hl
      have h_18 : w_12 k0 = some (h0, .inr (0, [.ref q_1, .int 0])) := gU_n hw_13 (gU_k h_9 h_10 (by first | (intro h9; cases h9; done) | simp)) h_10
      have h_19 : w_12 k1 = some (q_1, .inl (tc 0, 7, .inl (f_cp (7 - (k_11 + 1)) (fun _ => 0) (fun _ => 44000)))) := gU_s hw_13
      refine lv_iload_n hx hb dX0_init_19 rfl (lv_at hl 0 rfl) ?_
      refine lv_aload_n hx hb dX0_init_20 rfl (lv_at hl 1 rfl) ?_
      refine g_get hE hG h_18 rfl inG0 0 (by decide) mw1_93 rfl dX0_init_21 ?_
      refine g_alen (t0 := 0) (v := 7) hE hG h_19 rfl rfl dX0_init_24 ?_
      refine lv_icmp_ge (tgt := 42) hx hb dX0_init_25 (by decide) (fun c9 => absurd c9 (nI_ge (b := 7) (by omega) (by omega))) (fun c9 => ?_)
      refine lv_aload_n hx hb dX0_init_28 rfl (lv_at hl 1 rfl) ?_
      refine g_get hE hG h_18 rfl inG0 0 (by decide) mw1_93 rfl dX0_init_29 ?_
      refine lv_iload_n hx hb dX0_init_32 rfl (lv_at hl 0 rfl) ?_
      refine lv_ldc (v := 44000) hx hb hE.2.2.2.1 (hE.2.2.2.2.1 _ mw1_92) dX0_init_33 ?_
      refine g_iast hE hG h_19 (vp_in_nI (by omega) (by decide)) dX0_init_35 (fun H locs w_20 ew_20 hG => ?_)
      have h_21 : w_20 k0 = some (h0, .inr (0, [.ref q_1, .int 0])) := gU_n ew_20 (gU_k h_19 h_18 (by first | (intro h9; cases h9; done) | simp)) h_18
      have h_22 : w_20 k1 = some (q_1, .inl (tc 0, 7, .inl (upd (f_cp (7 - (k_11 + 1)) (fun _ => 0) (fun _ => 44000)) (nI (7 - (k_11 + 1))).toNatClampNeg 44000))) := gU_s ew_20
      refine lv_iinc (v := (nI (7 - k_11))) (lv' := [(1, .int (nI (7 - k_11))), (0, .ref h0)]) hx hb dX0_init_36 hl (k := 0) rfl (by rw [show 7 - k_11 = (7 - (k_11 + 1)) + 1 by omega]; exact nI_1 _) (by decide) rfl (fun ls hl => ?_)
      refine lv_goto (tgt := 19) hx hb dX0_init_39 (by decide) ?_
      exact ihk_11 w_20 _ _ _ (by omega) (by rw [ew_20, hw_13, gU_gU, nI_clamp (by omega), f_cp_s (7 - (k_11 + 1)) _ (fun _ => 44000), show 7 - k_11 = (7 - (k_11 + 1)) + 1 by omega]) hG (lv_sub hl [0, 1] rfl)
  exact hloop_15 7 w_8 _ _ _ (Nat.le_refl _) hw_130 hG (lv_sub hl [0, 1] rfl)
